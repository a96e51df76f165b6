section EQ
variable {Ls : Nat} {xs : Nat → Int32} {d : Nat} {l0 l1 l2 l3 l4 l5 l6 l7 l8 l9 l10 l11 l12 : Option mV} {st : List mV} {H : mH} {S : mS} {I : mI} {R : mR} {x y z i : Int32} {a b : Nat} {k : Nat} {v w : mV} {u : mr} {v0 v1 v2 v3 v4 v5 v6 v7 v8 v9 v10 v11 : mV}
set_option maxRecDepth 20000 in
theorem e_M_worksOut_0 : rn Ls xs d 152 0 [l0, l1, l2, l3, l4, l5]  st H = rn Ls xs d 152 1 [l0, l1, l2, l3, l4, l5] (.inl 0 :: st) H := rn_nx rfl rfl
set_option maxRecDepth 20000 in
theorem e_M_worksOut_1 : rn Ls xs d 152 1 [l0, l1, l2, l3, l4, l5] (.inl x :: st) H = rn Ls xs d 152 2 [l0, l1, some (.inl x), l3, l4, l5] st H := rn_nx rfl rfl
set_option maxRecDepth 20000 in
theorem e_M_worksOut_2 : rn Ls xs d 152 2 [some (.inr u), l1, l2, l3, l4, l5] st H = rn Ls xs d 152 3 [some (.inr u), l1, l2, l3, l4, l5] (.inr u :: st) H := rn_nx rfl rfl
set_option maxRecDepth 20000 in
theorem e_M_worksOut_3 : rn Ls xs d 152 3 [l0, l1, l2, l3, l4, l5] (.inr (.inl (some a)) :: st) (S, I, R) = if h_is S a 9 36 then rn Ls xs d 152 6 [l0, l1, l2, l3, l4, l5] (.inr (R a 0) :: st) (S, I, R) else none := rn_bc rfl rfl
set_option maxRecDepth 20000 in
theorem e_M_worksOut_6 : rn Ls xs d 152 6 [l0, l1, l2, l3, l4, l5]  st H = rn Ls xs d 152 8 [l0, l1, l2, l3, l4, l5] (.inl 92 :: st) H := rn_nx rfl rfl
set_option maxRecDepth 20000 in
theorem e_M_worksOut_8 : rn Ls xs d 152 8 [l0, l1, l2, l3, l4, l5]  st H = rn Ls xs d 152 9 [l0, l1, l2, l3, l4, l5] (.inl 2 :: st) H := rn_nx rfl rfl
set_option maxRecDepth 20000 in
theorem e_M_worksOut_9 : rn Ls xs d 152 9 [l0, some (.inl x), l2, l3, l4, l5] st H = rn Ls xs d 152 10 [l0, some (.inl x), l2, l3, l4, l5] (.inl x :: st) H := rn_nx rfl rfl
set_option maxRecDepth 20000 in
theorem e_M_worksOut_10 : rn Ls xs d 152 10 [l0, l1, l2, l3, l4, l5] (.inl y :: .inl x :: st) H = rn Ls xs d 152 11 [l0, l1, l2, l3, l4, l5] (.inl (x * y) :: st) H := rn_nx rfl rfl
set_option maxRecDepth 20000 in
theorem e_M_worksOut_11 : rn Ls xs d 152 11 [l0, l1, l2, l3, l4, l5] (.inl y :: .inl x :: st) H = rn Ls xs d 152 12 [l0, l1, l2, l3, l4, l5] (.inl (x + y) :: st) H := rn_nx rfl rfl
set_option maxRecDepth 20000 in
theorem e_M_worksOut_12 : rn Ls xs d 152 12 [l0, l1, l2, l3, l4, l5] (.inl i :: .inr (.inl (some a)) :: st) (S, I, R) = if h_ia S a 0 i then rn Ls xs d 152 13 [l0, l1, l2, l3, l4, l5] (.inl (I a i.toNatClampNeg) :: st) (S, I, R) else none := rn_bc rfl rfl
set_option maxRecDepth 20000 in
theorem e_M_worksOut_13 : rn Ls xs d 152 13 [l0, l1, l2, l3, l4, l5]  st H = rn Ls xs d 152 16 [l0, l1, l2, l3, l4, l5] (.inl 1000 :: st) H := rn_nx rfl rfl
set_option maxRecDepth 20000 in
theorem e_M_worksOut_16 : rn Ls xs d 152 16 [l0, l1, l2, l3, l4, l5] (.inl y :: .inl x :: st) H = if y = 0 then none else rn Ls xs d 152 17 [l0, l1, l2, l3, l4, l5] (.inl (x - x / y * y) :: st) H := rn_div (f := fun x y => x - x / y * y) rfl
set_option maxRecDepth 20000 in
theorem e_M_worksOut_17 : rn Ls xs d 152 17 [l0, l1, l2, l3, l4, l5] (.inl x :: st) H = rn Ls xs d 152 18 [l0, l1, l2, some (.inl x), l4, l5] st H := rn_nx rfl rfl
set_option maxRecDepth 20000 in
theorem e_M_worksOut_18 : rn Ls xs d 152 18 [l0, l1, l2, l3, l4, l5]  st H = rn Ls xs d 152 19 [l0, l1, l2, l3, l4, l5] (.inl 0 :: st) H := rn_nx rfl rfl
set_option maxRecDepth 20000 in
theorem e_M_worksOut_19 : rn Ls xs d 152 19 [l0, l1, l2, l3, l4, l5] (.inl x :: st) H = rn Ls xs d 152 21 [l0, l1, l2, l3, some (.inl x), l5] st H := rn_nx rfl rfl
set_option maxRecDepth 20000 in
theorem e_M_worksOut_21 : rn Ls xs d 152 21 [l0, l1, l2, l3, some (.inl x), l5] st H = rn Ls xs d 152 23 [l0, l1, l2, l3, some (.inl x), l5] (.inl x :: st) H := rn_nx rfl rfl
set_option maxRecDepth 20000 in
theorem e_M_worksOut_23 : rn Ls xs d 152 23 [l0, l1, l2, some (.inl x), l4, l5] st H = rn Ls xs d 152 24 [l0, l1, l2, some (.inl x), l4, l5] (.inl x :: st) H := rn_nx rfl rfl
set_option maxRecDepth 20000 in
theorem e_M_worksOut_24 : rn Ls xs d 152 24 [l0, l1, l2, l3, l4, l5] (.inl y :: .inl x :: st) H = if y ≤ x then rn Ls xs d 152 155 [l0, l1, l2, l3, l4, l5] st H else rn Ls xs d 152 27 [l0, l1, l2, l3, l4, l5] st H := rn_cmp (p := fun x y => y ≤ x) rfl
set_option maxRecDepth 20000 in
theorem e_M_worksOut_27 : rn Ls xs d 152 27 [some (.inr u), l1, l2, l3, l4, l5] st H = rn Ls xs d 152 28 [some (.inr u), l1, l2, l3, l4, l5] (.inr u :: st) H := rn_nx rfl rfl
set_option maxRecDepth 20000 in
theorem e_M_worksOut_28 : rn Ls xs d 152 28 [l0, l1, l2, l3, l4, l5] (.inr (.inl (some a)) :: st) (S, I, R) = if h_is S a 9 36 then rn Ls xs d 152 31 [l0, l1, l2, l3, l4, l5] (.inr (R a 0) :: st) (S, I, R) else none := rn_bc rfl rfl
set_option maxRecDepth 20000 in
theorem e_M_worksOut_31 : rn Ls xs d 152 31 [l0, l1, l2, l3, l4, l5]  st H = rn Ls xs d 152 33 [l0, l1, l2, l3, l4, l5] (.inl 120 :: st) H := rn_nx rfl rfl
set_option maxRecDepth 20000 in
theorem e_M_worksOut_33 : rn Ls xs d 152 33 [l0, l1, l2, l3, l4, l5]  st H = rn Ls xs d 152 35 [l0, l1, l2, l3, l4, l5] (.inl 96 :: st) H := rn_nx rfl rfl
set_option maxRecDepth 20000 in
theorem e_M_worksOut_35 : rn Ls xs d 152 35 [l0, some (.inl x), l2, l3, l4, l5] st H = rn Ls xs d 152 36 [l0, some (.inl x), l2, l3, l4, l5] (.inl x :: st) H := rn_nx rfl rfl
set_option maxRecDepth 20000 in
theorem e_M_worksOut_36 : rn Ls xs d 152 36 [l0, l1, l2, l3, l4, l5] (.inl y :: .inl x :: st) H = rn Ls xs d 152 37 [l0, l1, l2, l3, l4, l5] (.inl (x * y) :: st) H := rn_nx rfl rfl
set_option maxRecDepth 20000 in
theorem e_M_worksOut_37 : rn Ls xs d 152 37 [l0, l1, l2, l3, l4, l5] (.inl y :: .inl x :: st) H = rn Ls xs d 152 38 [l0, l1, l2, l3, l4, l5] (.inl (x + y) :: st) H := rn_nx rfl rfl
set_option maxRecDepth 20000 in
theorem e_M_worksOut_38 : rn Ls xs d 152 38 [l0, l1, l2, l3, some (.inl x), l5] st H = rn Ls xs d 152 40 [l0, l1, l2, l3, some (.inl x), l5] (.inl x :: st) H := rn_nx rfl rfl
set_option maxRecDepth 20000 in
theorem e_M_worksOut_40 : rn Ls xs d 152 40 [l0, l1, l2, l3, l4, l5] (.inl y :: .inl x :: st) H = rn Ls xs d 152 41 [l0, l1, l2, l3, l4, l5] (.inl (x + y) :: st) H := rn_nx rfl rfl
set_option maxRecDepth 20000 in
theorem e_M_worksOut_41 : rn Ls xs d 152 41 [l0, l1, l2, l3, l4, l5] (.inl i :: .inr (.inl (some a)) :: st) (S, I, R) = if h_ia S a 0 i then rn Ls xs d 152 42 [l0, l1, l2, l3, l4, l5] (.inl (I a i.toNatClampNeg) :: st) (S, I, R) else none := rn_bc rfl rfl
set_option maxRecDepth 20000 in
theorem e_M_worksOut_42 : rn Ls xs d 152 42 [l0, l1, l2, l3, l4, l5] (.inl x :: st) H = rn Ls xs d 152 44 [l0, l1, l2, l3, l4, some (.inl x)] st H := rn_nx rfl rfl
set_option maxRecDepth 20000 in
theorem e_M_worksOut_44 : rn Ls xs d 152 44 [l0, l1, l2, l3, l4, some (.inl x)] st H = rn Ls xs d 152 46 [l0, l1, l2, l3, l4, some (.inl x)] (.inl x :: st) H := rn_nx rfl rfl
set_option maxRecDepth 20000 in
theorem e_M_worksOut_46 : rn Ls xs d 152 46 [l0, l1, l2, l3, l4, l5] (.inl x :: st) H = if x < 0 then rn Ls xs d 152 85 [l0, l1, l2, l3, l4, l5] st H else rn Ls xs d 152 49 [l0, l1, l2, l3, l4, l5] st H := rn_if (p := fun x => x < 0) rfl
set_option maxRecDepth 20000 in
theorem e_M_worksOut_49 : rn Ls xs d 152 49 [some (.inr u), l1, l2, l3, l4, l5] st H = rn Ls xs d 152 50 [some (.inr u), l1, l2, l3, l4, l5] (.inr u :: st) H := rn_nx rfl rfl
set_option maxRecDepth 20000 in
theorem e_M_worksOut_50 : rn Ls xs d 152 50 [l0, l1, l2, l3, l4, l5] (.inr (.inl (some a)) :: st) (S, I, R) = if h_is S a 9 36 then rn Ls xs d 152 53 [l0, l1, l2, l3, l4, l5] (.inr (R a 24) :: st) (S, I, R) else none := rn_bc rfl rfl
set_option maxRecDepth 20000 in
theorem e_M_worksOut_53 : rn Ls xs d 152 53 [l0, l1, some (.inl x), l3, l4, l5] st H = rn Ls xs d 152 54 [l0, l1, some (.inl x), l3, l4, l5] (.inl x :: st) H := rn_nx rfl rfl
set_option maxRecDepth 20000 in
theorem e_M_worksOut_54 : rn Ls xs d 152 54 [l0, l1, l2, l3, l4, some (.inl x)] st H = rn Ls xs d 152 56 [l0, l1, l2, l3, l4, some (.inl x)] (.inl x :: st) H := rn_nx rfl rfl
set_option maxRecDepth 20000 in
theorem e_M_worksOut_56 : rn Ls xs d 152 56 [l0, l1, l2, l3, l4, l5]  st H = rn Ls xs d 152 59 [l0, l1, l2, l3, l4, l5] (.inl 10000 :: st) H := rn_nx rfl rfl
set_option maxRecDepth 20000 in
theorem e_M_worksOut_59 : rn Ls xs d 152 59 [l0, l1, l2, l3, l4, l5] (.inl y :: .inl x :: st) H = if y ≤ x then rn Ls xs d 152 67 [l0, l1, l2, l3, l4, l5] st H else rn Ls xs d 152 62 [l0, l1, l2, l3, l4, l5] st H := rn_cmp (p := fun x y => y ≤ x) rfl
set_option maxRecDepth 20000 in
theorem e_M_worksOut_62 : rn Ls xs d 152 62 [l0, l1, l2, l3, l4, some (.inl x)] st H = rn Ls xs d 152 64 [l0, l1, l2, l3, l4, some (.inl x)] (.inl x :: st) H := rn_nx rfl rfl
set_option maxRecDepth 20000 in
theorem e_M_worksOut_64 : rn Ls xs d 152 64 [l0, l1, l2, l3, l4, l5] st H = rn Ls xs d 152 78 [l0, l1, l2, l3, l4, l5] st H := rn_nx rfl rfl
set_option maxRecDepth 20000 in
theorem e_M_worksOut_67 : rn Ls xs d 152 67 [some (.inr u), l1, l2, l3, l4, l5] st H = rn Ls xs d 152 68 [some (.inr u), l1, l2, l3, l4, l5] (.inr u :: st) H := rn_nx rfl rfl
set_option maxRecDepth 20000 in
theorem e_M_worksOut_68 : rn Ls xs d 152 68 [l0, l1, l2, l3, l4, l5] (.inr (.inl (some a)) :: st) (S, I, R) = if h_is S a 9 36 then rn Ls xs d 152 71 [l0, l1, l2, l3, l4, l5] (.inr (R a 25) :: st) (S, I, R) else none := rn_bc rfl rfl
set_option maxRecDepth 20000 in
theorem e_M_worksOut_71 : rn Ls xs d 152 71 [l0, l1, l2, l3, l4, some (.inl x)] st H = rn Ls xs d 152 73 [l0, l1, l2, l3, l4, some (.inl x)] (.inl x :: st) H := rn_nx rfl rfl
set_option maxRecDepth 20000 in
theorem e_M_worksOut_73 : rn Ls xs d 152 73 [l0, l1, l2, l3, l4, l5]  st H = rn Ls xs d 152 76 [l0, l1, l2, l3, l4, l5] (.inl 10000 :: st) H := rn_nx rfl rfl
set_option maxRecDepth 20000 in
theorem e_M_worksOut_76 : rn Ls xs d 152 76 [l0, l1, l2, l3, l4, l5] (.inl y :: .inl x :: st) H = rn Ls xs d 152 77 [l0, l1, l2, l3, l4, l5] (.inl (x - y) :: st) H := rn_nx rfl rfl
set_option maxRecDepth 20000 in
theorem e_M_worksOut_77 : rn Ls xs d 152 77 [l0, l1, l2, l3, l4, l5] (.inl i :: .inr (.inl (some a)) :: st) (S, I, R) = if h_ia S a 0 i then rn Ls xs d 152 78 [l0, l1, l2, l3, l4, l5] (.inl (I a i.toNatClampNeg) :: st) (S, I, R) else none := rn_bc rfl rfl
set_option maxRecDepth 20000 in
theorem e_M_worksOut_78 : rn Ls xs d 152 78 [l0, l1, l2, l3, l4, l5] (.inl x :: .inl i :: .inr (.inl (some a)) :: st) (S, I, R) = if h_ia S a 0 i then rn Ls xs d 152 79 [l0, l1, l2, l3, l4, l5] st (S, va_up I a (upd (I a) i.toNatClampNeg x), R) else none := rn_bc rfl rfl
set_option maxRecDepth 20000 in
theorem e_M_worksOut_79 : rn Ls xs d 152 79 [l0, l1, some (.inl x), l3, l4, l5] st H = rn Ls xs d 152 82 [l0, l1, some (.inl (x + 1)), l3, l4, l5] st H := rn_nx rfl rfl
set_option maxRecDepth 20000 in
theorem e_M_worksOut_82 : rn Ls xs d 152 82 [l0, l1, l2, l3, l4, l5] st H = rn Ls xs d 152 149 [l0, l1, l2, l3, l4, l5] st H := rn_nx rfl rfl
set_option maxRecDepth 20000 in
theorem e_M_worksOut_85 : rn Ls xs d 152 85 [l0, l1, l2, l3, l4, some (.inl x)] st H = rn Ls xs d 152 87 [l0, l1, l2, l3, l4, some (.inl x)] (.inl x :: st) H := rn_nx rfl rfl
set_option maxRecDepth 20000 in
theorem e_M_worksOut_87 : rn Ls xs d 152 87 [l0, l1, l2, l3, l4, l5]  st H = rn Ls xs d 152 89 [l0, l1, l2, l3, l4, l5] (.inl (-10) :: st) H := rn_nx rfl rfl
set_option maxRecDepth 20000 in
theorem e_M_worksOut_89 : rn Ls xs d 152 89 [l0, l1, l2, l3, l4, l5] (.inl y :: .inl x :: st) H = if x ≠ y then rn Ls xs d 152 119 [l0, l1, l2, l3, l4, l5] st H else rn Ls xs d 152 92 [l0, l1, l2, l3, l4, l5] st H := rn_cmp (p := fun x y => x ≠ y) rfl
set_option maxRecDepth 20000 in
theorem e_M_worksOut_92 : rn Ls xs d 152 92 [some (.inr u), l1, l2, l3, l4, l5] st H = rn Ls xs d 152 93 [some (.inr u), l1, l2, l3, l4, l5] (.inr u :: st) H := rn_nx rfl rfl
set_option maxRecDepth 20000 in
theorem e_M_worksOut_93 : rn Ls xs d 152 93 [l0, l1, l2, l3, l4, l5] (.inr (.inl (some a)) :: st) (S, I, R) = if h_is S a 9 36 then rn Ls xs d 152 96 [l0, l1, l2, l3, l4, l5] (.inr (R a 24) :: st) (S, I, R) else none := rn_bc rfl rfl
set_option maxRecDepth 20000 in
theorem e_M_worksOut_96 : rn Ls xs d 152 96 [l0, l1, some (.inl x), l3, l4, l5] st H = rn Ls xs d 152 97 [l0, l1, some (.inl x), l3, l4, l5] (.inl x :: st) H := rn_nx rfl rfl
set_option maxRecDepth 20000 in
theorem e_M_worksOut_97 : rn Ls xs d 152 97 [l0, l1, l2, l3, l4, l5]  st H = rn Ls xs d 152 98 [l0, l1, l2, l3, l4, l5] (.inl 1 :: st) H := rn_nx rfl rfl
set_option maxRecDepth 20000 in
theorem e_M_worksOut_98 : rn Ls xs d 152 98 [l0, l1, l2, l3, l4, l5] (.inl y :: .inl x :: st) H = rn Ls xs d 152 99 [l0, l1, l2, l3, l4, l5] (.inl (x - y) :: st) H := rn_nx rfl rfl
set_option maxRecDepth 20000 in
theorem e_M_worksOut_99 : rn Ls xs d 152 99 [some (.inr u), l1, l2, l3, l4, l5] st H = rn Ls xs d 152 100 [some (.inr u), l1, l2, l3, l4, l5] (.inr u :: st) H := rn_nx rfl rfl
set_option maxRecDepth 20000 in
theorem e_M_worksOut_100 : rn Ls xs d 152 100 [l0, l1, l2, l3, l4, l5] (.inr (.inl (some a)) :: st) (S, I, R) = if h_is S a 9 36 then rn Ls xs d 152 103 [l0, l1, l2, l3, l4, l5] (.inr (R a 24) :: st) (S, I, R) else none := rn_bc rfl rfl
set_option maxRecDepth 20000 in
theorem e_M_worksOut_103 : rn Ls xs d 152 103 [l0, l1, some (.inl x), l3, l4, l5] st H = rn Ls xs d 152 104 [l0, l1, some (.inl x), l3, l4, l5] (.inl x :: st) H := rn_nx rfl rfl
set_option maxRecDepth 20000 in
theorem e_M_worksOut_104 : rn Ls xs d 152 104 [l0, l1, l2, l3, l4, l5]  st H = rn Ls xs d 152 105 [l0, l1, l2, l3, l4, l5] (.inl 1 :: st) H := rn_nx rfl rfl
set_option maxRecDepth 20000 in
theorem e_M_worksOut_105 : rn Ls xs d 152 105 [l0, l1, l2, l3, l4, l5] (.inl y :: .inl x :: st) H = rn Ls xs d 152 106 [l0, l1, l2, l3, l4, l5] (.inl (x - y) :: st) H := rn_nx rfl rfl
set_option maxRecDepth 20000 in
theorem e_M_worksOut_106 : rn Ls xs d 152 106 [l0, l1, l2, l3, l4, l5] (.inl i :: .inr (.inl (some a)) :: st) (S, I, R) = if h_ia S a 0 i then rn Ls xs d 152 107 [l0, l1, l2, l3, l4, l5] (.inl (I a i.toNatClampNeg) :: st) (S, I, R) else none := rn_bc rfl rfl
set_option maxRecDepth 20000 in
theorem e_M_worksOut_107 : rn Ls xs d 152 107 [l0, l1, l2, l3, l4, l5] (.inl x :: st) H = if x ≠ 0 then rn Ls xs d 152 114 [l0, l1, l2, l3, l4, l5] st H else rn Ls xs d 152 110 [l0, l1, l2, l3, l4, l5] st H := rn_if (p := fun x => x ≠ 0) rfl
set_option maxRecDepth 20000 in
theorem e_M_worksOut_110 : rn Ls xs d 152 110 [l0, l1, l2, l3, l4, l5]  st H = rn Ls xs d 152 111 [l0, l1, l2, l3, l4, l5] (.inl 1 :: st) H := rn_nx rfl rfl
set_option maxRecDepth 20000 in
theorem e_M_worksOut_111 : rn Ls xs d 152 111 [l0, l1, l2, l3, l4, l5] st H = rn Ls xs d 152 115 [l0, l1, l2, l3, l4, l5] st H := rn_nx rfl rfl
set_option maxRecDepth 20000 in
theorem e_M_worksOut_114 : rn Ls xs d 152 114 [l0, l1, l2, l3, l4, l5]  st H = rn Ls xs d 152 115 [l0, l1, l2, l3, l4, l5] (.inl 0 :: st) H := rn_nx rfl rfl
set_option maxRecDepth 20000 in
theorem e_M_worksOut_115 : rn Ls xs d 152 115 [l0, l1, l2, l3, l4, l5] (.inl x :: .inl i :: .inr (.inl (some a)) :: st) (S, I, R) = if h_ia S a 0 i then rn Ls xs d 152 116 [l0, l1, l2, l3, l4, l5] st (S, va_up I a (upd (I a) i.toNatClampNeg x), R) else none := rn_bc rfl rfl
set_option maxRecDepth 20000 in
theorem e_M_worksOut_116 : rn Ls xs d 152 116 [l0, l1, l2, l3, l4, l5] st H = rn Ls xs d 152 149 [l0, l1, l2, l3, l4, l5] st H := rn_nx rfl rfl
set_option maxRecDepth 20000 in
theorem e_M_worksOut_119 : rn Ls xs d 152 119 [l0, l1, some (.inl x), l3, l4, l5] st H = rn Ls xs d 152 122 [l0, l1, some (.inl (x + (-1))), l3, l4, l5] st H := rn_nx rfl rfl
set_option maxRecDepth 20000 in
theorem e_M_worksOut_122 : rn Ls xs d 152 122 [some (.inr u), l1, l2, l3, l4, l5] st H = rn Ls xs d 152 123 [some (.inr u), l1, l2, l3, l4, l5] (.inr u :: st) H := rn_nx rfl rfl
set_option maxRecDepth 20000 in
theorem e_M_worksOut_123 : rn Ls xs d 152 123 [l0, l1, l2, l3, l4, l5] (.inr (.inl (some a)) :: st) (S, I, R) = if h_is S a 9 36 then rn Ls xs d 152 126 [l0, l1, l2, l3, l4, l5] (.inr (R a 24) :: st) (S, I, R) else none := rn_bc rfl rfl
set_option maxRecDepth 20000 in
theorem e_M_worksOut_126 : rn Ls xs d 152 126 [l0, l1, some (.inl x), l3, l4, l5] st H = rn Ls xs d 152 127 [l0, l1, some (.inl x), l3, l4, l5] (.inl x :: st) H := rn_nx rfl rfl
set_option maxRecDepth 20000 in
theorem e_M_worksOut_127 : rn Ls xs d 152 127 [l0, l1, l2, l3, l4, l5]  st H = rn Ls xs d 152 128 [l0, l1, l2, l3, l4, l5] (.inl 1 :: st) H := rn_nx rfl rfl
set_option maxRecDepth 20000 in
theorem e_M_worksOut_128 : rn Ls xs d 152 128 [l0, l1, l2, l3, l4, l5] (.inl y :: .inl x :: st) H = rn Ls xs d 152 129 [l0, l1, l2, l3, l4, l5] (.inl (x - y) :: st) H := rn_nx rfl rfl
set_option maxRecDepth 20000 in
theorem e_M_worksOut_129 : rn Ls xs d 152 129 [l0, l1, l2, l3, l4, some (.inl x)] st H = rn Ls xs d 152 131 [l0, l1, l2, l3, l4, some (.inl x)] (.inl x :: st) H := rn_nx rfl rfl
set_option maxRecDepth 20000 in
theorem e_M_worksOut_131 : rn Ls xs d 152 131 [some (.inr u), l1, l2, l3, l4, l5] st H = rn Ls xs d 152 132 [some (.inr u), l1, l2, l3, l4, l5] (.inr u :: st) H := rn_nx rfl rfl
set_option maxRecDepth 20000 in
theorem e_M_worksOut_132 : rn Ls xs d 152 132 [l0, l1, l2, l3, l4, l5] (.inr (.inl (some a)) :: st) (S, I, R) = if h_is S a 9 36 then rn Ls xs d 152 135 [l0, l1, l2, l3, l4, l5] (.inr (R a 24) :: st) (S, I, R) else none := rn_bc rfl rfl
set_option maxRecDepth 20000 in
theorem e_M_worksOut_135 : rn Ls xs d 152 135 [l0, l1, some (.inl x), l3, l4, l5] st H = rn Ls xs d 152 136 [l0, l1, some (.inl x), l3, l4, l5] (.inl x :: st) H := rn_nx rfl rfl
set_option maxRecDepth 20000 in
theorem e_M_worksOut_136 : rn Ls xs d 152 136 [l0, l1, l2, l3, l4, l5]  st H = rn Ls xs d 152 137 [l0, l1, l2, l3, l4, l5] (.inl 1 :: st) H := rn_nx rfl rfl
set_option maxRecDepth 20000 in
theorem e_M_worksOut_137 : rn Ls xs d 152 137 [l0, l1, l2, l3, l4, l5] (.inl y :: .inl x :: st) H = rn Ls xs d 152 138 [l0, l1, l2, l3, l4, l5] (.inl (x - y) :: st) H := rn_nx rfl rfl
set_option maxRecDepth 20000 in
theorem e_M_worksOut_138 : rn Ls xs d 152 138 [l0, l1, l2, l3, l4, l5] (.inl i :: .inr (.inl (some a)) :: st) (S, I, R) = if h_ia S a 0 i then rn Ls xs d 152 139 [l0, l1, l2, l3, l4, l5] (.inl (I a i.toNatClampNeg) :: st) (S, I, R) else none := rn_bc rfl rfl
set_option maxRecDepth 20000 in
theorem e_M_worksOut_139 : rn Ls xs d 152 139 [some (.inr u), l1, l2, l3, l4, l5] st H = rn Ls xs d 152 140 [some (.inr u), l1, l2, l3, l4, l5] (.inr u :: st) H := rn_nx rfl rfl
set_option maxRecDepth 20000 in
theorem e_M_worksOut_140 : rn Ls xs d 152 140 [l0, l1, l2, l3, l4, l5] (.inr (.inl (some a)) :: st) (S, I, R) = if h_is S a 9 36 then rn Ls xs d 152 143 [l0, l1, l2, l3, l4, l5] (.inr (R a 24) :: st) (S, I, R) else none := rn_bc rfl rfl
set_option maxRecDepth 20000 in
theorem e_M_worksOut_143 : rn Ls xs d 152 143 [l0, l1, some (.inl x), l3, l4, l5] st H = rn Ls xs d 152 144 [l0, l1, some (.inl x), l3, l4, l5] (.inl x :: st) H := rn_nx rfl rfl
set_option maxRecDepth 20000 in
theorem e_M_worksOut_144 : rn Ls xs d 152 144 [l0, l1, l2, l3, l4, l5] (.inl i :: .inr (.inl (some a)) :: st) (S, I, R) = if h_ia S a 0 i then rn Ls xs d 152 145 [l0, l1, l2, l3, l4, l5] (.inl (I a i.toNatClampNeg) :: st) (S, I, R) else none := rn_bc rfl rfl
set_option maxRecDepth 20000 in
theorem e_M_worksOut_145 : rn Ls xs (d + 1) 152 145 [l0, l1, l2, l3, l4, l5] [v2, v1, v0, v3, v4] H = rb Ls xs (d + 1) 152 148 [l0, l1, l2, l3, l4, l5] [v3, v4] (rn Ls xs d 192 0 [some v0, some v1, some v2] [] H) := rn_call rfl (Nat.le_of_ble_eq_true rfl) (Nat.le_of_ble_eq_true rfl) rfl rfl
set_option maxRecDepth 20000 in
theorem e_M_worksOut_148 : rn Ls xs d 152 148 [l0, l1, l2, l3, l4, l5] (.inl x :: .inl i :: .inr (.inl (some a)) :: st) (S, I, R) = if h_ia S a 0 i then rn Ls xs d 152 149 [l0, l1, l2, l3, l4, l5] st (S, va_up I a (upd (I a) i.toNatClampNeg x), R) else none := rn_bc rfl rfl
set_option maxRecDepth 20000 in
theorem e_M_worksOut_149 : rn Ls xs d 152 149 [l0, l1, l2, l3, some (.inl x), l5] st H = rn Ls xs d 152 152 [l0, l1, l2, l3, some (.inl (x + 1)), l5] st H := rn_nx rfl rfl
set_option maxRecDepth 20000 in
theorem e_M_worksOut_152 : rn Ls xs d 152 152 [l0, l1, l2, l3, l4, l5] st H = rn Ls xs d 152 21 [l0, l1, l2, l3, l4, l5] st H := rn_nx rfl rfl
set_option maxRecDepth 20000 in
theorem e_M_worksOut_155 : rn Ls xs d 152 155 [some (.inr u), l1, l2, l3, l4, l5] st H = rn Ls xs d 152 156 [some (.inr u), l1, l2, l3, l4, l5] (.inr u :: st) H := rn_nx rfl rfl
set_option maxRecDepth 20000 in
theorem e_M_worksOut_156 : rn Ls xs d 152 156 [l0, l1, l2, l3, l4, l5] (.inr (.inl (some a)) :: st) (S, I, R) = if h_is S a 9 36 then rn Ls xs d 152 159 [l0, l1, l2, l3, l4, l5] (.inr (R a 24) :: st) (S, I, R) else none := rn_bc rfl rfl
set_option maxRecDepth 20000 in
theorem e_M_worksOut_159 : rn Ls xs d 152 159 [l0, l1, l2, l3, l4, l5]  st H = rn Ls xs d 152 160 [l0, l1, l2, l3, l4, l5] (.inl 0 :: st) H := rn_nx rfl rfl
set_option maxRecDepth 20000 in
theorem e_M_worksOut_160 : rn Ls xs d 152 160 [l0, l1, l2, l3, l4, l5] (.inl i :: .inr (.inl (some a)) :: st) (S, I, R) = if h_ia S a 0 i then rn Ls xs d 152 161 [l0, l1, l2, l3, l4, l5] (.inl (I a i.toNatClampNeg) :: st) (S, I, R) else none := rn_bc rfl rfl
set_option maxRecDepth 20000 in
theorem e_M_worksOut_161 : rn Ls xs d 152 161 [l0, l1, l2, l3, l4, l5] [.inl x] H = some (some (.inl x), H) := rn_done rfl rfl
theorem e_T_hasRoomFor_0 : rn Ls xs d 153 0 [some (.inr u), l1] st H = rn Ls xs d 153 1 [some (.inr u), l1] (.inr u :: st) H := rn_nx rfl rfl
theorem e_T_hasRoomFor_1 : rn Ls xs d 153 1 [l0, l1] (.inr (.inl (some a)) :: st) (S, I, R) = if h_is S a 5 2 then rn Ls xs d 153 4 [l0, l1] (.inl (I a 1) :: st) (S, I, R) else none := rn_bc rfl rfl
theorem e_T_hasRoomFor_4 : rn Ls xs d 153 4 [l0, some (.inl x)] st H = rn Ls xs d 153 5 [l0, some (.inl x)] (.inl x :: st) H := rn_nx rfl rfl
theorem e_T_hasRoomFor_5 : rn Ls xs d 153 5 [l0, l1] (.inl y :: .inl x :: st) H = rn Ls xs d 153 6 [l0, l1] (.inl (x + y) :: st) H := rn_nx rfl rfl
theorem e_T_hasRoomFor_6 : rn Ls xs d 153 6 [l0, l1]  st H = rn Ls xs d 153 8 [l0, l1] (.inl 96 :: st) H := rn_nx rfl rfl
theorem e_T_hasRoomFor_8 : rn Ls xs d 153 8 [l0, l1] (.inl y :: .inl x :: st) H = if y < x then rn Ls xs d 153 15 [l0, l1] st H else rn Ls xs d 153 11 [l0, l1] st H := rn_cmp (p := fun x y => y < x) rfl
theorem e_T_hasRoomFor_11 : rn Ls xs d 153 11 [l0, l1]  st H = rn Ls xs d 153 12 [l0, l1] (.inl 1 :: st) H := rn_nx rfl rfl
theorem e_T_hasRoomFor_12 : rn Ls xs d 153 12 [l0, l1] st H = rn Ls xs d 153 16 [l0, l1] st H := rn_nx rfl rfl
theorem e_T_hasRoomFor_15 : rn Ls xs d 153 15 [l0, l1]  st H = rn Ls xs d 153 16 [l0, l1] (.inl 0 :: st) H := rn_nx rfl rfl
theorem e_T_hasRoomFor_16 : rn Ls xs d 153 16 [l0, l1] [.inl x] H = if h_bo x then some (some (.inl x), H) else none := rn_zret rfl
theorem e_T_addBytes_0 : rn Ls xs d 154 0 [l0, l1, l2]  st H = rn Ls xs d 154 2 [l0, l1, l2] (.inl 24 :: st) H := rn_nx rfl rfl
theorem e_T_addBytes_2 : rn Ls xs d 154 2 [l0, l1, l2] (.inl x :: st) H = rn Ls xs d 154 3 [l0, l1, some (.inl x)] st H := rn_nx rfl rfl
theorem e_T_addBytes_3 : rn Ls xs d 154 3 [l0, l1, some (.inl x)] st H = rn Ls xs d 154 4 [l0, l1, some (.inl x)] (.inl x :: st) H := rn_nx rfl rfl
theorem e_T_addBytes_4 : rn Ls xs d 154 4 [l0, l1, l2] (.inl x :: st) H = if x < 0 then rn Ls xs d 154 48 [l0, l1, l2] st H else rn Ls xs d 154 7 [l0, l1, l2] st H := rn_if (p := fun x => x < 0) rfl
theorem e_T_addBytes_7 : rn Ls xs d 154 7 [some (.inr u), l1, l2] st H = rn Ls xs d 154 8 [some (.inr u), l1, l2] (.inr u :: st) H := rn_nx rfl rfl
theorem e_T_addBytes_8 : rn Ls xs d 154 8 [l0, l1, l2] (.inr (.inl (some a)) :: st) (S, I, R) = if h_is S a 5 2 then rn Ls xs d 154 11 [l0, l1, l2] (.inl (I a 1) :: st) (S, I, R) else none := rn_bc rfl rfl
theorem e_T_addBytes_11 : rn Ls xs d 154 11 [l0, l1, l2]  st H = rn Ls xs d 154 13 [l0, l1, l2] (.inl 96 :: st) H := rn_nx rfl rfl
theorem e_T_addBytes_13 : rn Ls xs d 154 13 [l0, l1, l2] (.inl y :: .inl x :: st) H = if y ≤ x then rn Ls xs d 154 48 [l0, l1, l2] st H else rn Ls xs d 154 16 [l0, l1, l2] st H := rn_cmp (p := fun x y => y ≤ x) rfl
theorem e_T_addBytes_16 : rn Ls xs d 154 16 [some (.inr u), l1, l2] st H = rn Ls xs d 154 17 [some (.inr u), l1, l2] (.inr u :: st) H := rn_nx rfl rfl
theorem e_T_addBytes_17 : rn Ls xs d 154 17 [l0, l1, l2] (.inr (.inl (some a)) :: st) (S, I, R) = if h_is S a 5 2 then rn Ls xs d 154 20 [l0, l1, l2] (.inr (R a 0) :: st) (S, I, R) else none := rn_bc rfl rfl
theorem e_T_addBytes_20 : rn Ls xs d 154 20 [some (.inr u), l1, l2] st H = rn Ls xs d 154 21 [some (.inr u), l1, l2] (.inr u :: st) H := rn_nx rfl rfl
theorem e_T_addBytes_21 : rn Ls xs d 154 21 [l0, l1, l2] (.inr (.inl (some a)) :: st) (S, I, R) = if h_is S a 5 2 then rn Ls xs d 154 24 [l0, l1, l2] (.inl (I a 1) :: st) (S, I, R) else none := rn_bc rfl rfl
theorem e_T_addBytes_24 : rn Ls xs d 154 24 [l0, some (.inl x), l2] st H = rn Ls xs d 154 25 [l0, some (.inl x), l2] (.inl x :: st) H := rn_nx rfl rfl
theorem e_T_addBytes_25 : rn Ls xs d 154 25 [l0, l1, some (.inl x)] st H = rn Ls xs d 154 26 [l0, l1, some (.inl x)] (.inl x :: st) H := rn_nx rfl rfl
theorem e_T_addBytes_26 : rn Ls xs d 154 26 [l0, l1, l2] (.inl y :: .inl x :: st) H = rn Ls xs d 154 27 [l0, l1, l2] (.inl ((x.toUInt32 >>> (y.toUInt32 &&& Int32.toUInt32 31)).toInt32) :: st) H := rn_nx rfl rfl
theorem e_T_addBytes_27 : rn Ls xs d 154 27 [l0, l1, l2]  st H = rn Ls xs d 154 30 [l0, l1, l2] (.inl 255 :: st) H := rn_nx rfl rfl
theorem e_T_addBytes_30 : rn Ls xs d 154 30 [l0, l1, l2] (.inl y :: .inl x :: st) H = rn Ls xs d 154 31 [l0, l1, l2] (.inl (x &&& y) :: st) H := rn_nx rfl rfl
theorem e_T_addBytes_31 : rn Ls xs d 154 31 [l0, l1, l2] (.inl x :: .inl i :: .inr (.inl (some a)) :: st) (S, I, R) = if h_ia S a 0 i then rn Ls xs d 154 32 [l0, l1, l2] st (S, va_up I a (upd (I a) i.toNatClampNeg x), R) else none := rn_bc rfl rfl
theorem e_T_addBytes_32 : rn Ls xs d 154 32 [some (.inr u), l1, l2] st H = rn Ls xs d 154 33 [some (.inr u), l1, l2] (.inr u :: st) H := rn_nx rfl rfl
theorem e_T_addBytes_33 : rn Ls xs d 154 33 [l0, l1, l2] (v :: st) H = rn Ls xs d 154 34 [l0, l1, l2] (v :: v :: st) H := rn_nx rfl rfl
theorem e_T_addBytes_34 : rn Ls xs d 154 34 [l0, l1, l2] (.inr (.inl (some a)) :: st) (S, I, R) = if h_is S a 5 2 then rn Ls xs d 154 37 [l0, l1, l2] (.inl (I a 1) :: st) (S, I, R) else none := rn_bc rfl rfl
theorem e_T_addBytes_37 : rn Ls xs d 154 37 [l0, l1, l2]  st H = rn Ls xs d 154 38 [l0, l1, l2] (.inl 1 :: st) H := rn_nx rfl rfl
theorem e_T_addBytes_38 : rn Ls xs d 154 38 [l0, l1, l2] (.inl y :: .inl x :: st) H = rn Ls xs d 154 39 [l0, l1, l2] (.inl (x + y) :: st) H := rn_nx rfl rfl
theorem e_T_addBytes_39 : rn Ls xs d 154 39 [l0, l1, l2] (.inl x :: .inr (.inl (some a)) :: st) (S, I, R) = if h_is S a 5 2 then rn Ls xs d 154 42 [l0, l1, l2] st (S, va_up I a (upd (I a) 1 x), R) else none := rn_bc rfl rfl
theorem e_T_addBytes_42 : rn Ls xs d 154 42 [l0, l1, some (.inl x)] st H = rn Ls xs d 154 45 [l0, l1, some (.inl (x + (-8)))] st H := rn_nx rfl rfl
theorem e_T_addBytes_45 : rn Ls xs d 154 45 [l0, l1, l2] st H = rn Ls xs d 154 3 [l0, l1, l2] st H := rn_nx rfl rfl
theorem e_T_addBytes_48 : rn Ls xs d 154 48 [l0, l1, l2] [] H = some (none, H) := rn_done rfl rfl
theorem e_R_readTape_0 : rn Ls xs d 155 0 [some (.inr u), l1] st H = rn Ls xs d 155 1 [some (.inr u), l1] (.inr u :: st) H := rn_nx rfl rfl
theorem e_R_readTape_1 : rn Ls xs d 155 1 [l0, l1]  st H = rn Ls xs d 155 2 [l0, l1] (.inl 0 :: st) H := rn_nx rfl rfl
theorem e_R_readTape_2 : rn Ls xs d 155 2 [l0, l1] (.inl x :: .inr (.inl (some a)) :: st) (S, I, R) = if h_is S a 1 10 then rn Ls xs d 155 5 [l0, l1] st (S, va_up I a (upd (I a) 2 x), R) else none := rn_bc rfl rfl
theorem e_R_readTape_5 : rn Ls xs d 155 5 [some (.inr u), l1] st H = rn Ls xs d 155 6 [some (.inr u), l1] (.inr u :: st) H := rn_nx rfl rfl
theorem e_R_readTape_6 : rn Ls xs d 155 6 [l0, l1]  st H = rn Ls xs d 155 7 [l0, l1] (.inl 0 :: st) H := rn_nx rfl rfl
theorem e_R_readTape_7 : rn Ls xs d 155 7 [l0, l1] (.inl x :: .inr (.inl (some a)) :: st) (S, I, R) = if h_is S a 1 10 then rn Ls xs d 155 10 [l0, l1] st (S, va_up I a (upd (I a) 3 x), R) else none := rn_bc rfl rfl
theorem e_R_readTape_10 : rn Ls xs d 155 10 [some (.inr u), l1] st H = rn Ls xs d 155 11 [some (.inr u), l1] (.inr u :: st) H := rn_nx rfl rfl
theorem e_R_readTape_11 : rn Ls xs d 155 11 [l0, l1]  st H = rn Ls xs d 155 12 [l0, l1] (.inl 0 :: st) H := rn_nx rfl rfl
theorem e_R_readTape_12 : rn Ls xs d 155 12 [l0, l1] (.inl x :: .inr (.inl (some a)) :: st) (S, I, R) = if h_is S a 1 10 then rn Ls xs d 155 15 [l0, l1] st (S, va_up I a (upd (I a) 5 x), R) else none := rn_bc rfl rfl
theorem e_R_readTape_15 : rn Ls xs d 155 15 [some (.inr u), l1] st H = rn Ls xs d 155 16 [some (.inr u), l1] (.inr u :: st) H := rn_nx rfl rfl
theorem e_R_readTape_16 : rn Ls xs d 155 16 [l0, l1]  st H = rn Ls xs d 155 17 [l0, l1] (.inl 0 :: st) H := rn_nx rfl rfl
theorem e_R_readTape_17 : rn Ls xs d 155 17 [l0, l1] (.inl x :: .inr (.inl (some a)) :: st) (S, I, R) = if h_is S a 1 10 then rn Ls xs d 155 20 [l0, l1] st (S, va_up I a (upd (I a) 7 x), R) else none := rn_bc rfl rfl
theorem e_R_readTape_20 : rn Ls xs d 155 20 [some (.inr u), l1] st H = rn Ls xs d 155 21 [some (.inr u), l1] (.inr u :: st) H := rn_nx rfl rfl
theorem e_R_readTape_21 : rn Ls xs d 155 21 [l0, l1]  st H = rn Ls xs d 155 22 [l0, l1] (.inl (-1) :: st) H := rn_nx rfl rfl
theorem e_R_readTape_22 : rn Ls xs d 155 22 [l0, l1] (.inl x :: .inr (.inl (some a)) :: st) (S, I, R) = if h_is S a 1 10 then rn Ls xs d 155 25 [l0, l1] st (S, va_up I a (upd (I a) 9 x), R) else none := rn_bc rfl rfl
theorem e_R_readTape_25 : rn Ls xs d 155 25 [some (.inr u), l1] st H = rn Ls xs d 155 26 [some (.inr u), l1] (.inr u :: st) H := rn_nx rfl rfl
theorem e_R_readTape_26 : rn Ls xs (d + 1) 155 26 [l0, l1] [(.inr (.inl (some a)))] (S, I, R) = if h_is S a 1 10 then rb Ls xs (d + 1) 155 29 [l0, l1] [] (rn Ls xs d 193 0 [some (.inr (.inl (some a))), none, none] [] (S, I, R)) else none := rn_callO rfl rfl (Nat.le_of_ble_eq_true rfl) rfl rfl
theorem e_R_readTape_29 : rn Ls xs d 155 29 [some (.inr u), l1] st H = rn Ls xs d 155 30 [some (.inr u), l1] (.inr u :: st) H := rn_nx rfl rfl
theorem e_R_readTape_30 : rn Ls xs (d + 1) 155 30 [l0, l1] [(.inr (.inl (some a)))] (S, I, R) = if h_is S a 1 10 then rb Ls xs (d + 1) 155 33 [l0, l1] [] (rn Ls xs d 194 0 [some (.inr (.inl (some a))), none] [] (S, I, R)) else none := rn_callO rfl rfl (Nat.le_of_ble_eq_true rfl) rfl rfl
theorem e_R_readTape_33 : rn Ls xs d 155 33 [l0, l1] (.inl x :: st) H = rn Ls xs d 155 34 [l0, some (.inl x)] st H := rn_nx rfl rfl
theorem e_R_readTape_34 : rn Ls xs d 155 34 [some (.inr u), l1] st H = rn Ls xs d 155 35 [some (.inr u), l1] (.inr u :: st) H := rn_nx rfl rfl
theorem e_R_readTape_35 : rn Ls xs d 155 35 [l0, l1] (.inr (.inl (some a)) :: st) (S, I, R) = if h_is S a 1 10 then rn Ls xs d 155 38 [l0, l1] (.inl (I a 9) :: st) (S, I, R) else none := rn_bc rfl rfl
theorem e_R_readTape_38 : rn Ls xs d 155 38 [l0, l1] (.inl x :: st) H = if 0 ≤ x then rn Ls xs d 155 48 [l0, l1] st H else rn Ls xs d 155 41 [l0, l1] st H := rn_if (p := fun x => 0 ≤ x) rfl
theorem e_R_readTape_41 : rn Ls xs d 155 41 [some (.inr u), l1] st H = rn Ls xs d 155 42 [some (.inr u), l1] (.inr u :: st) H := rn_nx rfl rfl
theorem e_R_readTape_42 : rn Ls xs d 155 42 [l0, l1]  st H = rn Ls xs d 155 43 [l0, l1] (.inl 0 :: st) H := rn_nx rfl rfl
theorem e_R_readTape_43 : rn Ls xs d 155 43 [l0, l1]  st H = rn Ls xs d 155 44 [l0, l1] (.inl 0 :: st) H := rn_nx rfl rfl
theorem e_R_readTape_44 : rn Ls xs d 155 44 [l0, l1]  st H = rn Ls xs d 155 45 [l0, l1] (.inl 0 :: st) H := rn_nx rfl rfl
theorem e_R_readTape_45 : rn Ls xs (d + 1) 155 45 [l0, l1] [v3, v2, v1, (.inr (.inl (some a)))] (S, I, R) = if h_is S a 1 10 then rb Ls xs (d + 1) 155 48 [l0, l1] [] (rn Ls xs d 195 0 [some (.inr (.inl (some a))), some v1, some v2, some v3, none, none, none] [] (S, I, R)) else none := rn_callO rfl rfl (Nat.le_of_ble_eq_true rfl) rfl rfl
theorem e_R_readTape_48 : rn Ls xs d 155 48 [some (.inr u), l1] st H = rn Ls xs d 155 49 [some (.inr u), l1] (.inr u :: st) H := rn_nx rfl rfl
theorem e_R_readTape_49 : rn Ls xs d 155 49 [l0, l1] (.inr (.inl (some a)) :: st) (S, I, R) = if h_is S a 1 10 then rn Ls xs d 155 52 [l0, l1] (.inl (I a 5) :: st) (S, I, R) else none := rn_bc rfl rfl
theorem e_R_readTape_52 : rn Ls xs d 155 52 [l0, l1]  st H = rn Ls xs d 155 53 [l0, l1] (.inl 3 :: st) H := rn_nx rfl rfl
theorem e_R_readTape_53 : rn Ls xs d 155 53 [l0, l1] (.inl y :: .inl x :: st) H = if x = y then rn Ls xs d 155 60 [l0, l1] st H else rn Ls xs d 155 56 [l0, l1] st H := rn_cmp (p := fun x y => x = y) rfl
theorem e_R_readTape_56 : rn Ls xs d 155 56 [some (.inr u), l1] st H = rn Ls xs d 155 57 [some (.inr u), l1] (.inr u :: st) H := rn_nx rfl rfl
theorem e_R_readTape_57 : rn Ls xs (d + 1) 155 57 [l0, l1] [(.inr (.inl (some a)))] (S, I, R) = if h_is S a 1 10 then rb Ls xs (d + 1) 155 60 [l0, l1] [] (rn Ls xs d 196 0 [some (.inr (.inl (some a)))] [] (S, I, R)) else none := rn_callO rfl rfl (Nat.le_of_ble_eq_true rfl) rfl rfl
theorem e_R_readTape_60 : rn Ls xs d 155 60 [some (.inr u), l1] st H = rn Ls xs d 155 61 [some (.inr u), l1] (.inr u :: st) H := rn_nx rfl rfl
theorem e_R_readTape_61 : rn Ls xs d 155 61 [l0, l1] (.inr (.inl (some a)) :: st) (S, I, R) = if h_is S a 1 10 then rn Ls xs d 155 64 [l0, l1] (.inl (I a 9) :: st) (S, I, R) else none := rn_bc rfl rfl
theorem e_R_readTape_64 : rn Ls xs d 155 64 [l0, l1] (.inl x :: st) H = if 0 ≤ x then rn Ls xs d 155 93 [l0, l1] st H else rn Ls xs d 155 67 [l0, l1] st H := rn_if (p := fun x => 0 ≤ x) rfl
theorem e_R_readTape_67 : rn Ls xs d 155 67 [l0, l1] st (S, I, R) = rn Ls xs d 155 70 [l0, l1] (.inr (.inl (some S.2.1)) :: st) (h_mk (S, I, R) 6 3) := rn_nx rfl rfl
theorem e_R_readTape_70 : rn Ls xs d 155 70 [l0, l1] (v :: st) H = rn Ls xs d 155 71 [l0, l1] (v :: v :: st) H := rn_nx rfl rfl
theorem e_R_readTape_71 : rn Ls xs d 155 71 [l0, some (.inl x)] st H = rn Ls xs d 155 72 [l0, some (.inl x)] (.inl x :: st) H := rn_nx rfl rfl
theorem e_R_readTape_72 : rn Ls xs d 155 72 [some (.inr u), l1] st H = rn Ls xs d 155 73 [some (.inr u), l1] (.inr u :: st) H := rn_nx rfl rfl
theorem e_R_readTape_73 : rn Ls xs d 155 73 [l0, l1] (.inr (.inl (some a)) :: st) (S, I, R) = if h_is S a 1 10 then rn Ls xs d 155 76 [l0, l1] (.inl (I a 3) :: st) (S, I, R) else none := rn_bc rfl rfl
theorem e_R_readTape_76 : rn Ls xs d 155 76 [some (.inr u), l1] st H = rn Ls xs d 155 77 [some (.inr u), l1] (.inr u :: st) H := rn_nx rfl rfl
theorem e_R_readTape_77 : rn Ls xs d 155 77 [l0, l1] (.inr (.inl (some a)) :: st) (S, I, R) = if h_is S a 1 10 then rn Ls xs d 155 80 [l0, l1] (.inr (R a 1) :: st) (S, I, R) else none := rn_bc rfl rfl
theorem e_R_readTape_80 : rn Ls xs d 155 80 [some (.inr u), l1] st H = rn Ls xs d 155 81 [some (.inr u), l1] (.inr u :: st) H := rn_nx rfl rfl
theorem e_R_readTape_81 : rn Ls xs d 155 81 [l0, l1] (.inr (.inl (some a)) :: st) (S, I, R) = if h_is S a 1 10 then rn Ls xs d 155 84 [l0, l1] (.inl (I a 2) :: st) (S, I, R) else none := rn_bc rfl rfl
theorem e_R_readTape_84 : rn Ls xs (d + 1) 155 84 [l0, l1] [v1, v0, v2, v3, v4, v5] H = rb Ls xs (d + 1) 155 87 [l0, l1] [v2, v3, v4, v5] (rn Ls xs d 197 0 [some v0, some v1, none] [] H) := rn_call rfl (Nat.le_of_ble_eq_true rfl) (Nat.le_of_ble_eq_true rfl) rfl rfl
theorem e_R_readTape_87 : rn Ls xs (d + 1) 155 87 [l0, l1] [v3, v2, v1, (.inr (.inl (some a))), v4] (S, I, R) = if h_is S a 6 3 then rb Ls xs (d + 1) 155 90 [l0, l1] [v4] (rn Ls xs d 198 0 [some (.inr (.inl (some a))), some v1, some v2, some v3] [] (S, I, R)) else none := rn_callO rfl rfl (Nat.le_of_ble_eq_true rfl) rfl rfl
theorem e_R_readTape_90 : rn Ls xs d 155 90 [l0, l1] st H = rn Ls xs d 155 94 [l0, l1] st H := rn_nx rfl rfl
theorem e_R_readTape_93 : rn Ls xs d 155 93 [l0, l1] st H = rn Ls xs d 155 94 [l0, l1] (.inr (.inl none) :: st) H := rn_nx rfl rfl
theorem e_R_readTape_94 : rn Ls xs d 155 94 [l0, l1] [.inr u] H = some (some (.inr u), H) := rn_done rfl rfl
theorem e_S_addText_0 : rn Ls xs d 156 0 [some (.inr u), l1] st H = rn Ls xs d 156 1 [some (.inr u), l1] (.inr u :: st) H := rn_nx rfl rfl
theorem e_S_addText_1 : rn Ls xs d 156 1 [l0, l1] (.inr (.inl (some a)) :: st) (S, I, R) = if h_is S a 3 11 then rn Ls xs d 156 4 [l0, l1] (.inl (I a 4) :: st) (S, I, R) else none := rn_bc rfl rfl
theorem e_S_addText_4 : rn Ls xs d 156 4 [l0, l1]  st H = rn Ls xs d 156 6 [l0, l1] (.inl 14 :: st) H := rn_nx rfl rfl
theorem e_S_addText_6 : rn Ls xs d 156 6 [l0, l1] (.inl y :: .inl x :: st) H = if x < y then rn Ls xs d 156 11 [l0, l1] st H else rn Ls xs d 156 9 [l0, l1] st H := rn_cmp (p := fun x y => x < y) rfl
theorem e_S_addText_9 : rn Ls xs d 156 9 [l0, l1]  st H = rn Ls xs d 156 10 [l0, l1] (.inl 0 :: st) H := rn_nx rfl rfl
theorem e_S_addText_10 : rn Ls xs d 156 10 [l0, l1] [.inl x] H = if h_bo x then some (some (.inl x), H) else none := rn_zret rfl
theorem e_S_addText_11 : rn Ls xs d 156 11 [some (.inr u), l1] st H = rn Ls xs d 156 12 [some (.inr u), l1] (.inr u :: st) H := rn_nx rfl rfl
theorem e_S_addText_12 : rn Ls xs d 156 12 [l0, l1] (.inr (.inl (some a)) :: st) (S, I, R) = if h_is S a 3 11 then rn Ls xs d 156 15 [l0, l1] (.inr (R a 1) :: st) (S, I, R) else none := rn_bc rfl rfl
theorem e_S_addText_15 : rn Ls xs d 156 15 [some (.inr u), l1] st H = rn Ls xs d 156 16 [some (.inr u), l1] (.inr u :: st) H := rn_nx rfl rfl
theorem e_S_addText_16 : rn Ls xs d 156 16 [l0, l1] (.inr (.inl (some a)) :: st) (S, I, R) = if h_is S a 3 11 then rn Ls xs d 156 19 [l0, l1] (.inl (I a 4) :: st) (S, I, R) else none := rn_bc rfl rfl
theorem e_S_addText_19 : rn Ls xs d 156 19 [l0, some (.inr u)] st H = rn Ls xs d 156 20 [l0, some (.inr u)] (.inr u :: st) H := rn_nx rfl rfl
theorem e_S_addText_20 : rn Ls xs d 156 20 [l0, l1] (.inr (.inl (some b)) :: .inl i :: .inr (.inl (some a)) :: st) (S, I, R) = if h_ia S a 5 i && h_is S b 6 3 then rn Ls xs d 156 21 [l0, l1] st (S, I, va_up R a (va_up (R a) i.toNatClampNeg (.inl (some b)))) else none := rn_bc rfl rfl
theorem e_S_addText_21 : rn Ls xs d 156 21 [some (.inr u), l1] st H = rn Ls xs d 156 22 [some (.inr u), l1] (.inr u :: st) H := rn_nx rfl rfl
theorem e_S_addText_22 : rn Ls xs d 156 22 [l0, l1] (v :: st) H = rn Ls xs d 156 23 [l0, l1] (v :: v :: st) H := rn_nx rfl rfl
theorem e_S_addText_23 : rn Ls xs d 156 23 [l0, l1] (.inr (.inl (some a)) :: st) (S, I, R) = if h_is S a 3 11 then rn Ls xs d 156 26 [l0, l1] (.inl (I a 4) :: st) (S, I, R) else none := rn_bc rfl rfl
theorem e_S_addText_26 : rn Ls xs d 156 26 [l0, l1]  st H = rn Ls xs d 156 27 [l0, l1] (.inl 1 :: st) H := rn_nx rfl rfl
theorem e_S_addText_27 : rn Ls xs d 156 27 [l0, l1] (.inl y :: .inl x :: st) H = rn Ls xs d 156 28 [l0, l1] (.inl (x + y) :: st) H := rn_nx rfl rfl
theorem e_S_addText_28 : rn Ls xs d 156 28 [l0, l1] (.inl x :: .inr (.inl (some a)) :: st) (S, I, R) = if h_is S a 3 11 then rn Ls xs d 156 31 [l0, l1] st (S, va_up I a (upd (I a) 4 x), R) else none := rn_bc rfl rfl
theorem e_S_addText_31 : rn Ls xs d 156 31 [l0, l1]  st H = rn Ls xs d 156 32 [l0, l1] (.inl 1 :: st) H := rn_nx rfl rfl
theorem e_S_addText_32 : rn Ls xs d 156 32 [l0, l1] [.inl x] H = if h_bo x then some (some (.inl x), H) else none := rn_zret rfl
set_option maxRecDepth 20000 in
theorem e_M_go_0 : rn Ls xs d 157 0 [some (.inr u), l1] st H = rn Ls xs d 157 1 [some (.inr u), l1] (.inr u :: st) H := rn_nx rfl rfl
set_option maxRecDepth 20000 in
theorem e_M_go_1 : rn Ls xs d 157 1 [l0, l1] (.inr (.inl (some a)) :: st) (S, I, R) = if h_is S a 9 36 then rn Ls xs d 157 4 [l0, l1] (.inl (I a 10) :: st) (S, I, R) else none := rn_bc rfl rfl
set_option maxRecDepth 20000 in
theorem e_M_go_4 : rn Ls xs d 157 4 [some (.inr u), l1] st H = rn Ls xs d 157 5 [some (.inr u), l1] (.inr u :: st) H := rn_nx rfl rfl
set_option maxRecDepth 20000 in
theorem e_M_go_5 : rn Ls xs d 157 5 [l0, l1] (.inr (.inl (some a)) :: st) (S, I, R) = if h_is S a 9 36 then rn Ls xs d 157 8 [l0, l1] (.inl (I a 9) :: st) (S, I, R) else none := rn_bc rfl rfl
set_option maxRecDepth 20000 in
theorem e_M_go_8 : rn Ls xs d 157 8 [l0, l1] (.inl y :: .inl x :: st) H = if y ≤ x then rn Ls xs d 157 38 [l0, l1] st H else rn Ls xs d 157 11 [l0, l1] st H := rn_cmp (p := fun x y => y ≤ x) rfl
set_option maxRecDepth 20000 in
theorem e_M_go_11 : rn Ls xs d 157 11 [some (.inr u), l1] st H = rn Ls xs d 157 12 [some (.inr u), l1] (.inr u :: st) H := rn_nx rfl rfl
set_option maxRecDepth 20000 in
theorem e_M_go_12 : rn Ls xs d 157 12 [l0, l1] (.inr (.inl (some a)) :: st) (S, I, R) = if h_is S a 9 36 then rn Ls xs d 157 15 [l0, l1] (.inr (R a 8) :: st) (S, I, R) else none := rn_bc rfl rfl
set_option maxRecDepth 20000 in
theorem e_M_go_15 : rn Ls xs d 157 15 [some (.inr u), l1] st H = rn Ls xs d 157 16 [some (.inr u), l1] (.inr u :: st) H := rn_nx rfl rfl
set_option maxRecDepth 20000 in
theorem e_M_go_16 : rn Ls xs d 157 16 [l0, l1] (.inr (.inl (some a)) :: st) (S, I, R) = if h_is S a 9 36 then rn Ls xs d 157 19 [l0, l1] (.inl (I a 10) :: st) (S, I, R) else none := rn_bc rfl rfl
set_option maxRecDepth 20000 in
theorem e_M_go_19 : rn Ls xs d 157 19 [l0, l1] (.inl i :: .inr (.inl (some a)) :: st) (S, I, R) = if h_ia S a 0 i then rn Ls xs d 157 20 [l0, l1] (.inl (I a i.toNatClampNeg) :: st) (S, I, R) else none := rn_bc rfl rfl
set_option maxRecDepth 20000 in
theorem e_M_go_20 : rn Ls xs d 157 20 [l0, l1]  st H = rn Ls xs d 157 22 [l0, l1] (.inl 32 :: st) H := rn_nx rfl rfl
set_option maxRecDepth 20000 in
theorem e_M_go_22 : rn Ls xs d 157 22 [l0, l1] (.inl y :: .inl x :: st) H = if x ≠ y then rn Ls xs d 157 38 [l0, l1] st H else rn Ls xs d 157 25 [l0, l1] st H := rn_cmp (p := fun x y => x ≠ y) rfl
set_option maxRecDepth 20000 in
theorem e_M_go_25 : rn Ls xs d 157 25 [some (.inr u), l1] st H = rn Ls xs d 157 26 [some (.inr u), l1] (.inr u :: st) H := rn_nx rfl rfl
set_option maxRecDepth 20000 in
theorem e_M_go_26 : rn Ls xs d 157 26 [l0, l1] (v :: st) H = rn Ls xs d 157 27 [l0, l1] (v :: v :: st) H := rn_nx rfl rfl
set_option maxRecDepth 20000 in
theorem e_M_go_27 : rn Ls xs d 157 27 [l0, l1] (.inr (.inl (some a)) :: st) (S, I, R) = if h_is S a 9 36 then rn Ls xs d 157 30 [l0, l1] (.inl (I a 10) :: st) (S, I, R) else none := rn_bc rfl rfl
set_option maxRecDepth 20000 in
theorem e_M_go_30 : rn Ls xs d 157 30 [l0, l1]  st H = rn Ls xs d 157 31 [l0, l1] (.inl 1 :: st) H := rn_nx rfl rfl
set_option maxRecDepth 20000 in
theorem e_M_go_31 : rn Ls xs d 157 31 [l0, l1] (.inl y :: .inl x :: st) H = rn Ls xs d 157 32 [l0, l1] (.inl (x + y) :: st) H := rn_nx rfl rfl
set_option maxRecDepth 20000 in
theorem e_M_go_32 : rn Ls xs d 157 32 [l0, l1] (.inl x :: .inr (.inl (some a)) :: st) (S, I, R) = if h_is S a 9 36 then rn Ls xs d 157 35 [l0, l1] st (S, va_up I a (upd (I a) 10 x), R) else none := rn_bc rfl rfl
set_option maxRecDepth 20000 in
theorem e_M_go_35 : rn Ls xs d 157 35 [l0, l1] st H = rn Ls xs d 157 0 [l0, l1] st H := rn_nx rfl rfl
set_option maxRecDepth 20000 in
theorem e_M_go_38 : rn Ls xs d 157 38 [some (.inr u), l1] st H = rn Ls xs d 157 39 [some (.inr u), l1] (.inr u :: st) H := rn_nx rfl rfl
set_option maxRecDepth 20000 in
theorem e_M_go_39 : rn Ls xs d 157 39 [some (.inr u), l1] st H = rn Ls xs d 157 40 [some (.inr u), l1] (.inr u :: st) H := rn_nx rfl rfl
set_option maxRecDepth 20000 in
theorem e_M_go_40 : rn Ls xs d 157 40 [l0, l1] (.inr (.inl (some a)) :: st) (S, I, R) = if h_is S a 9 36 then rn Ls xs d 157 43 [l0, l1] (.inl (I a 10) :: st) (S, I, R) else none := rn_bc rfl rfl
set_option maxRecDepth 20000 in
theorem e_M_go_43 : rn Ls xs d 157 43 [l0, l1] (.inl x :: .inr (.inl (some a)) :: st) (S, I, R) = if h_is S a 9 36 then rn Ls xs d 157 46 [l0, l1] st (S, va_up I a (upd (I a) 11 x), R) else none := rn_bc rfl rfl
set_option maxRecDepth 20000 in
theorem e_M_go_46 : rn Ls xs d 157 46 [some (.inr u), l1] st H = rn Ls xs d 157 47 [some (.inr u), l1] (.inr u :: st) H := rn_nx rfl rfl
set_option maxRecDepth 20000 in
theorem e_M_go_47 : rn Ls xs d 157 47 [l0, l1] (.inr (.inl (some a)) :: st) (S, I, R) = if h_is S a 9 36 then rn Ls xs d 157 50 [l0, l1] (.inl (I a 11) :: st) (S, I, R) else none := rn_bc rfl rfl
set_option maxRecDepth 20000 in
theorem e_M_go_50 : rn Ls xs d 157 50 [some (.inr u), l1] st H = rn Ls xs d 157 51 [some (.inr u), l1] (.inr u :: st) H := rn_nx rfl rfl
set_option maxRecDepth 20000 in
theorem e_M_go_51 : rn Ls xs d 157 51 [l0, l1] (.inr (.inl (some a)) :: st) (S, I, R) = if h_is S a 9 36 then rn Ls xs d 157 54 [l0, l1] (.inl (I a 14) :: st) (S, I, R) else none := rn_bc rfl rfl
set_option maxRecDepth 20000 in
theorem e_M_go_54 : rn Ls xs d 157 54 [l0, l1] (.inl y :: .inl x :: st) H = if x ≠ y then rn Ls xs d 157 61 [l0, l1] st H else rn Ls xs d 157 57 [l0, l1] st H := rn_cmp (p := fun x y => x ≠ y) rfl
set_option maxRecDepth 20000 in
theorem e_M_go_57 : rn Ls xs d 157 57 [l0, l1]  st H = rn Ls xs d 157 58 [l0, l1] (.inl 1 :: st) H := rn_nx rfl rfl
set_option maxRecDepth 20000 in
theorem e_M_go_58 : rn Ls xs d 157 58 [l0, l1] st H = rn Ls xs d 157 62 [l0, l1] st H := rn_nx rfl rfl
set_option maxRecDepth 20000 in
theorem e_M_go_61 : rn Ls xs d 157 61 [l0, l1]  st H = rn Ls xs d 157 62 [l0, l1] (.inl 0 :: st) H := rn_nx rfl rfl
set_option maxRecDepth 20000 in
theorem e_M_go_62 : rn Ls xs d 157 62 [l0, l1] (.inl x :: st) H = rn Ls xs d 157 63 [l0, some (.inl x)] st H := rn_nx rfl rfl
set_option maxRecDepth 20000 in
theorem e_M_go_63 : rn Ls xs d 157 63 [some (.inr u), l1] st H = rn Ls xs d 157 64 [some (.inr u), l1] (.inr u :: st) H := rn_nx rfl rfl
set_option maxRecDepth 20000 in
theorem e_M_go_64 : rn Ls xs d 157 64 [l0, l1] (.inr (.inl (some a)) :: st) (S, I, R) = if h_is S a 9 36 then rn Ls xs d 157 67 [l0, l1] (.inl (I a 11) :: st) (S, I, R) else none := rn_bc rfl rfl
set_option maxRecDepth 20000 in
theorem e_M_go_67 : rn Ls xs d 157 67 [some (.inr u), l1] st H = rn Ls xs d 157 68 [some (.inr u), l1] (.inr u :: st) H := rn_nx rfl rfl
set_option maxRecDepth 20000 in
theorem e_M_go_68 : rn Ls xs d 157 68 [l0, l1] (.inr (.inl (some a)) :: st) (S, I, R) = if h_is S a 9 36 then rn Ls xs d 157 71 [l0, l1] (.inl (I a 9) :: st) (S, I, R) else none := rn_bc rfl rfl
set_option maxRecDepth 20000 in
theorem e_M_go_71 : rn Ls xs d 157 71 [l0, l1] (.inl y :: .inl x :: st) H = if x ≠ y then rn Ls xs d 157 82 [l0, l1] st H else rn Ls xs d 157 74 [l0, l1] st H := rn_cmp (p := fun x y => x ≠ y) rfl
set_option maxRecDepth 20000 in
theorem e_M_go_74 : rn Ls xs d 157 74 [some (.inr u), l1] st H = rn Ls xs d 157 75 [some (.inr u), l1] (.inr u :: st) H := rn_nx rfl rfl
set_option maxRecDepth 20000 in
theorem e_M_go_75 : rn Ls xs d 157 75 [l0, l1]  st H = rn Ls xs d 157 76 [l0, l1] (.inl 0 :: st) H := rn_nx rfl rfl
set_option maxRecDepth 20000 in
theorem e_M_go_76 : rn Ls xs d 157 76 [l0, l1] (.inl x :: .inr (.inl (some a)) :: st) (S, I, R) = if h_is S a 9 36 then rn Ls xs d 157 79 [l0, l1] st (S, va_up I a (upd (I a) 12 x), R) else none := rn_bc rfl rfl
set_option maxRecDepth 20000 in
theorem e_M_go_79 : rn Ls xs d 157 79 [l0, l1] st H = rn Ls xs d 157 303 [l0, l1] st H := rn_nx rfl rfl
set_option maxRecDepth 20000 in
theorem e_M_go_82 : rn Ls xs d 157 82 [some (.inr u), l1] st H = rn Ls xs d 157 83 [some (.inr u), l1] (.inr u :: st) H := rn_nx rfl rfl
set_option maxRecDepth 20000 in
theorem e_M_go_83 : rn Ls xs d 157 83 [some (.inr u), l1] st H = rn Ls xs d 157 84 [some (.inr u), l1] (.inr u :: st) H := rn_nx rfl rfl
set_option maxRecDepth 20000 in
theorem e_M_go_84 : rn Ls xs d 157 84 [l0, l1] (.inr (.inl (some a)) :: st) (S, I, R) = if h_is S a 9 36 then rn Ls xs d 157 87 [l0, l1] (.inl (I a 11) :: st) (S, I, R) else none := rn_bc rfl rfl
set_option maxRecDepth 20000 in
theorem e_M_go_87 : rn Ls xs (d + 1) 157 87 [l0, l1] [v1, (.inr (.inl (some a)))] (S, I, R) = if h_is S a 9 36 then rb Ls xs (d + 1) 157 90 [l0, l1] [] (rn Ls xs d 199 0 [some (.inr (.inl (some a))), some v1] [] (S, I, R)) else none := rn_callO rfl rfl (Nat.le_of_ble_eq_true rfl) rfl rfl
set_option maxRecDepth 20000 in
theorem e_M_go_90 : rn Ls xs d 157 90 [l0, l1] (.inl x :: st) H = if x = 0 then rn Ls xs d 157 154 [l0, l1] st H else rn Ls xs d 157 93 [l0, l1] st H := rn_if (p := fun x => x = 0) rfl
set_option maxRecDepth 20000 in
theorem e_M_go_93 : rn Ls xs d 157 93 [some (.inr u), l1] st H = rn Ls xs d 157 94 [some (.inr u), l1] (.inr u :: st) H := rn_nx rfl rfl
set_option maxRecDepth 20000 in
theorem e_M_go_94 : rn Ls xs d 157 94 [some (.inr u), l1] st H = rn Ls xs d 157 95 [some (.inr u), l1] (.inr u :: st) H := rn_nx rfl rfl
set_option maxRecDepth 20000 in
theorem e_M_go_95 : rn Ls xs d 157 95 [l0, l1] (.inr (.inl (some a)) :: st) (S, I, R) = if h_is S a 9 36 then rn Ls xs d 157 98 [l0, l1] (.inl (I a 10) :: st) (S, I, R) else none := rn_bc rfl rfl
set_option maxRecDepth 20000 in
theorem e_M_go_98 : rn Ls xs (d + 1) 157 98 [l0, l1] [v1, (.inr (.inl (some a)))] (S, I, R) = if h_is S a 9 36 then rb Ls xs (d + 1) 157 101 [l0, l1] [] (rn Ls xs d 199 0 [some (.inr (.inl (some a))), some v1] [] (S, I, R)) else none := rn_callO rfl rfl (Nat.le_of_ble_eq_true rfl) rfl rfl
set_option maxRecDepth 20000 in
theorem e_M_go_101 : rn Ls xs d 157 101 [l0, l1] (.inl x :: st) H = if x = 0 then rn Ls xs d 157 117 [l0, l1] st H else rn Ls xs d 157 104 [l0, l1] st H := rn_if (p := fun x => x = 0) rfl
set_option maxRecDepth 20000 in
theorem e_M_go_104 : rn Ls xs d 157 104 [some (.inr u), l1] st H = rn Ls xs d 157 105 [some (.inr u), l1] (.inr u :: st) H := rn_nx rfl rfl
set_option maxRecDepth 20000 in
theorem e_M_go_105 : rn Ls xs d 157 105 [l0, l1] (v :: st) H = rn Ls xs d 157 106 [l0, l1] (v :: v :: st) H := rn_nx rfl rfl
set_option maxRecDepth 20000 in
theorem e_M_go_106 : rn Ls xs d 157 106 [l0, l1] (.inr (.inl (some a)) :: st) (S, I, R) = if h_is S a 9 36 then rn Ls xs d 157 109 [l0, l1] (.inl (I a 10) :: st) (S, I, R) else none := rn_bc rfl rfl
set_option maxRecDepth 20000 in
theorem e_M_go_109 : rn Ls xs d 157 109 [l0, l1]  st H = rn Ls xs d 157 110 [l0, l1] (.inl 1 :: st) H := rn_nx rfl rfl
set_option maxRecDepth 20000 in
theorem e_M_go_110 : rn Ls xs d 157 110 [l0, l1] (.inl y :: .inl x :: st) H = rn Ls xs d 157 111 [l0, l1] (.inl (x + y) :: st) H := rn_nx rfl rfl
set_option maxRecDepth 20000 in
theorem e_M_go_111 : rn Ls xs d 157 111 [l0, l1] (.inl x :: .inr (.inl (some a)) :: st) (S, I, R) = if h_is S a 9 36 then rn Ls xs d 157 114 [l0, l1] st (S, va_up I a (upd (I a) 10 x), R) else none := rn_bc rfl rfl
set_option maxRecDepth 20000 in
theorem e_M_go_114 : rn Ls xs d 157 114 [l0, l1] st H = rn Ls xs d 157 93 [l0, l1] st H := rn_nx rfl rfl
set_option maxRecDepth 20000 in
theorem e_M_go_117 : rn Ls xs d 157 117 [some (.inr u), l1] st H = rn Ls xs d 157 118 [some (.inr u), l1] (.inr u :: st) H := rn_nx rfl rfl
set_option maxRecDepth 20000 in
theorem e_M_go_118 : rn Ls xs d 157 118 [l0, some (.inl x)] st H = rn Ls xs d 157 119 [l0, some (.inl x)] (.inl x :: st) H := rn_nx rfl rfl
set_option maxRecDepth 20000 in
theorem e_M_go_119 : rn Ls xs d 157 119 [l0, l1] (.inl x :: st) H = if x = 0 then rn Ls xs d 157 126 [l0, l1] st H else rn Ls xs d 157 122 [l0, l1] st H := rn_if (p := fun x => x = 0) rfl
set_option maxRecDepth 20000 in
theorem e_M_go_122 : rn Ls xs d 157 122 [l0, l1]  st H = rn Ls xs d 157 123 [l0, l1] (.inl 4 :: st) H := rn_nx rfl rfl
set_option maxRecDepth 20000 in
theorem e_M_go_123 : rn Ls xs d 157 123 [l0, l1] st H = rn Ls xs d 157 127 [l0, l1] st H := rn_nx rfl rfl
set_option maxRecDepth 20000 in
theorem e_M_go_126 : rn Ls xs d 157 126 [l0, l1]  st H = rn Ls xs d 157 127 [l0, l1] (.inl 1 :: st) H := rn_nx rfl rfl
set_option maxRecDepth 20000 in
theorem e_M_go_127 : rn Ls xs d 157 127 [l0, l1] (.inl x :: .inr (.inl (some a)) :: st) (S, I, R) = if h_is S a 9 36 then rn Ls xs d 157 130 [l0, l1] st (S, va_up I a (upd (I a) 12 x), R) else none := rn_bc rfl rfl
set_option maxRecDepth 20000 in
theorem e_M_go_130 : rn Ls xs d 157 130 [some (.inr u), l1] st H = rn Ls xs d 157 131 [some (.inr u), l1] (.inr u :: st) H := rn_nx rfl rfl
set_option maxRecDepth 20000 in
theorem e_M_go_131 : rn Ls xs d 157 131 [some (.inr u), l1] st H = rn Ls xs d 157 132 [some (.inr u), l1] (.inr u :: st) H := rn_nx rfl rfl
set_option maxRecDepth 20000 in
theorem e_M_go_132 : rn Ls xs d 157 132 [l0, l1] (.inr (.inl (some a)) :: st) (S, I, R) = if h_is S a 9 36 then rn Ls xs d 157 135 [l0, l1] (.inr (R a 8) :: st) (S, I, R) else none := rn_bc rfl rfl
set_option maxRecDepth 20000 in
theorem e_M_go_135 : rn Ls xs d 157 135 [some (.inr u), l1] st H = rn Ls xs d 157 136 [some (.inr u), l1] (.inr u :: st) H := rn_nx rfl rfl
set_option maxRecDepth 20000 in
theorem e_M_go_136 : rn Ls xs d 157 136 [l0, l1] (.inr (.inl (some a)) :: st) (S, I, R) = if h_is S a 9 36 then rn Ls xs d 157 139 [l0, l1] (.inl (I a 11) :: st) (S, I, R) else none := rn_bc rfl rfl
set_option maxRecDepth 20000 in
theorem e_M_go_139 : rn Ls xs d 157 139 [l0, l1] (.inl i :: .inr (.inl (some a)) :: st) (S, I, R) = if h_ia S a 0 i then rn Ls xs d 157 140 [l0, l1] (.inl (I a i.toNatClampNeg) :: st) (S, I, R) else none := rn_bc rfl rfl
set_option maxRecDepth 20000 in
theorem e_M_go_140 : rn Ls xs d 157 140 [l0, l1] (.inl x :: .inr (.inl (some a)) :: st) (S, I, R) = if h_is S a 9 36 then rn Ls xs d 157 143 [l0, l1] st (S, va_up I a (upd (I a) 13 x), R) else none := rn_bc rfl rfl
set_option maxRecDepth 20000 in
theorem e_M_go_143 : rn Ls xs d 157 143 [some (.inr u), l1] st H = rn Ls xs d 157 144 [some (.inr u), l1] (.inr u :: st) H := rn_nx rfl rfl
set_option maxRecDepth 20000 in
theorem e_M_go_144 : rn Ls xs d 157 144 [some (.inr u), l1] st H = rn Ls xs d 157 145 [some (.inr u), l1] (.inr u :: st) H := rn_nx rfl rfl
set_option maxRecDepth 20000 in
theorem e_M_go_145 : rn Ls xs d 157 145 [l0, l1] (.inr (.inl (some a)) :: st) (S, I, R) = if h_is S a 9 36 then rn Ls xs d 157 148 [l0, l1] (.inl (I a 10) :: st) (S, I, R) else none := rn_bc rfl rfl
set_option maxRecDepth 20000 in
theorem e_M_go_148 : rn Ls xs d 157 148 [l0, l1] (.inl x :: .inr (.inl (some a)) :: st) (S, I, R) = if h_is S a 9 36 then rn Ls xs d 157 151 [l0, l1] st (S, va_up I a (upd (I a) 14 x), R) else none := rn_bc rfl rfl
set_option maxRecDepth 20000 in
theorem e_M_go_151 : rn Ls xs d 157 151 [l0, l1] st H = rn Ls xs d 157 303 [l0, l1] st H := rn_nx rfl rfl
set_option maxRecDepth 20000 in
theorem e_M_go_154 : rn Ls xs d 157 154 [some (.inr u), l1] st H = rn Ls xs d 157 155 [some (.inr u), l1] (.inr u :: st) H := rn_nx rfl rfl
set_option maxRecDepth 20000 in
theorem e_M_go_155 : rn Ls xs d 157 155 [some (.inr u), l1] st H = rn Ls xs d 157 156 [some (.inr u), l1] (.inr u :: st) H := rn_nx rfl rfl
set_option maxRecDepth 20000 in
theorem e_M_go_156 : rn Ls xs d 157 156 [l0, l1] (.inr (.inl (some a)) :: st) (S, I, R) = if h_is S a 9 36 then rn Ls xs d 157 159 [l0, l1] (.inl (I a 11) :: st) (S, I, R) else none := rn_bc rfl rfl
set_option maxRecDepth 20000 in
theorem e_M_go_159 : rn Ls xs (d + 1) 157 159 [l0, l1] [v1, (.inr (.inl (some a)))] (S, I, R) = if h_is S a 9 36 then rb Ls xs (d + 1) 157 162 [l0, l1] [] (rn Ls xs d 200 0 [some (.inr (.inl (some a))), some v1] [] (S, I, R)) else none := rn_callO rfl rfl (Nat.le_of_ble_eq_true rfl) rfl rfl
set_option maxRecDepth 20000 in
theorem e_M_go_162 : rn Ls xs d 157 162 [l0, l1] (.inl x :: st) H = if x = 0 then rn Ls xs d 157 275 [l0, l1] st H else rn Ls xs d 157 165 [l0, l1] st H := rn_if (p := fun x => x = 0) rfl
set_option maxRecDepth 20000 in
theorem e_M_go_165 : rn Ls xs d 157 165 [some (.inr u), l1] st H = rn Ls xs d 157 166 [some (.inr u), l1] (.inr u :: st) H := rn_nx rfl rfl
set_option maxRecDepth 20000 in
theorem e_M_go_166 : rn Ls xs d 157 166 [l0, l1]  st H = rn Ls xs d 157 167 [l0, l1] (.inl 0 :: st) H := rn_nx rfl rfl
set_option maxRecDepth 20000 in
theorem e_M_go_167 : rn Ls xs d 157 167 [l0, l1] (.inl x :: .inr (.inl (some a)) :: st) (S, I, R) = if h_is S a 9 36 then rn Ls xs d 157 170 [l0, l1] st (S, va_up I a (upd (I a) 13 x), R) else none := rn_bc rfl rfl
set_option maxRecDepth 20000 in
theorem e_M_go_170 : rn Ls xs d 157 170 [some (.inr u), l1] st H = rn Ls xs d 157 171 [some (.inr u), l1] (.inr u :: st) H := rn_nx rfl rfl
set_option maxRecDepth 20000 in
theorem e_M_go_171 : rn Ls xs d 157 171 [some (.inr u), l1] st H = rn Ls xs d 157 172 [some (.inr u), l1] (.inr u :: st) H := rn_nx rfl rfl
set_option maxRecDepth 20000 in
theorem e_M_go_172 : rn Ls xs d 157 172 [l0, l1] (.inr (.inl (some a)) :: st) (S, I, R) = if h_is S a 9 36 then rn Ls xs d 157 175 [l0, l1] (.inl (I a 10) :: st) (S, I, R) else none := rn_bc rfl rfl
set_option maxRecDepth 20000 in
theorem e_M_go_175 : rn Ls xs (d + 1) 157 175 [l0, l1] [v1, (.inr (.inl (some a)))] (S, I, R) = if h_is S a 9 36 then rb Ls xs (d + 1) 157 178 [l0, l1] [] (rn Ls xs d 200 0 [some (.inr (.inl (some a))), some v1] [] (S, I, R)) else none := rn_callO rfl rfl (Nat.le_of_ble_eq_true rfl) rfl rfl
set_option maxRecDepth 20000 in
theorem e_M_go_178 : rn Ls xs d 157 178 [l0, l1] (.inl x :: st) H = if x = 0 then rn Ls xs d 157 238 [l0, l1] st H else rn Ls xs d 157 181 [l0, l1] st H := rn_if (p := fun x => x = 0) rfl
set_option maxRecDepth 20000 in
theorem e_M_go_181 : rn Ls xs d 157 181 [some (.inr u), l1] st H = rn Ls xs d 157 182 [some (.inr u), l1] (.inr u :: st) H := rn_nx rfl rfl
set_option maxRecDepth 20000 in
theorem e_M_go_182 : rn Ls xs d 157 182 [some (.inr u), l1] st H = rn Ls xs d 157 183 [some (.inr u), l1] (.inr u :: st) H := rn_nx rfl rfl
set_option maxRecDepth 20000 in
theorem e_M_go_183 : rn Ls xs d 157 183 [l0, l1] (.inr (.inl (some a)) :: st) (S, I, R) = if h_is S a 9 36 then rn Ls xs d 157 186 [l0, l1] (.inl (I a 10) :: st) (S, I, R) else none := rn_bc rfl rfl
set_option maxRecDepth 20000 in
theorem e_M_go_186 : rn Ls xs d 157 186 [some (.inr u), l1] st H = rn Ls xs d 157 187 [some (.inr u), l1] (.inr u :: st) H := rn_nx rfl rfl
set_option maxRecDepth 20000 in
theorem e_M_go_187 : rn Ls xs d 157 187 [l0, l1] (.inr (.inl (some a)) :: st) (S, I, R) = if h_is S a 9 36 then rn Ls xs d 157 190 [l0, l1] (.inl (I a 11) :: st) (S, I, R) else none := rn_bc rfl rfl
set_option maxRecDepth 20000 in
theorem e_M_go_190 : rn Ls xs d 157 190 [l0, l1] (.inl y :: .inl x :: st) H = rn Ls xs d 157 191 [l0, l1] (.inl (x - y) :: st) H := rn_nx rfl rfl
set_option maxRecDepth 20000 in
theorem e_M_go_191 : rn Ls xs d 157 191 [l0, l1]  st H = rn Ls xs d 157 192 [l0, l1] (.inl 4 :: st) H := rn_nx rfl rfl
set_option maxRecDepth 20000 in
theorem e_M_go_192 : rn Ls xs d 157 192 [l0, l1] (.inl y :: .inl x :: st) H = if y ≤ x then rn Ls xs d 157 218 [l0, l1] st H else rn Ls xs d 157 195 [l0, l1] st H := rn_cmp (p := fun x y => y ≤ x) rfl
set_option maxRecDepth 20000 in
theorem e_M_go_195 : rn Ls xs d 157 195 [l0, l1]  st H = rn Ls xs d 157 197 [l0, l1] (.inl 10 :: st) H := rn_nx rfl rfl
set_option maxRecDepth 20000 in
theorem e_M_go_197 : rn Ls xs d 157 197 [some (.inr u), l1] st H = rn Ls xs d 157 198 [some (.inr u), l1] (.inr u :: st) H := rn_nx rfl rfl
set_option maxRecDepth 20000 in
theorem e_M_go_198 : rn Ls xs d 157 198 [l0, l1] (.inr (.inl (some a)) :: st) (S, I, R) = if h_is S a 9 36 then rn Ls xs d 157 201 [l0, l1] (.inl (I a 13) :: st) (S, I, R) else none := rn_bc rfl rfl
set_option maxRecDepth 20000 in
theorem e_M_go_201 : rn Ls xs d 157 201 [l0, l1] (.inl y :: .inl x :: st) H = rn Ls xs d 157 202 [l0, l1] (.inl (x * y) :: st) H := rn_nx rfl rfl
set_option maxRecDepth 20000 in
theorem e_M_go_202 : rn Ls xs d 157 202 [some (.inr u), l1] st H = rn Ls xs d 157 203 [some (.inr u), l1] (.inr u :: st) H := rn_nx rfl rfl
set_option maxRecDepth 20000 in
theorem e_M_go_203 : rn Ls xs d 157 203 [l0, l1] (.inr (.inl (some a)) :: st) (S, I, R) = if h_is S a 9 36 then rn Ls xs d 157 206 [l0, l1] (.inr (R a 8) :: st) (S, I, R) else none := rn_bc rfl rfl
set_option maxRecDepth 20000 in
theorem e_M_go_206 : rn Ls xs d 157 206 [some (.inr u), l1] st H = rn Ls xs d 157 207 [some (.inr u), l1] (.inr u :: st) H := rn_nx rfl rfl
set_option maxRecDepth 20000 in
theorem e_M_go_207 : rn Ls xs d 157 207 [l0, l1] (.inr (.inl (some a)) :: st) (S, I, R) = if h_is S a 9 36 then rn Ls xs d 157 210 [l0, l1] (.inl (I a 10) :: st) (S, I, R) else none := rn_bc rfl rfl
set_option maxRecDepth 20000 in
theorem e_M_go_210 : rn Ls xs d 157 210 [l0, l1] (.inl i :: .inr (.inl (some a)) :: st) (S, I, R) = if h_ia S a 0 i then rn Ls xs d 157 211 [l0, l1] (.inl (I a i.toNatClampNeg) :: st) (S, I, R) else none := rn_bc rfl rfl
set_option maxRecDepth 20000 in
theorem e_M_go_211 : rn Ls xs d 157 211 [l0, l1] (.inl y :: .inl x :: st) H = rn Ls xs d 157 212 [l0, l1] (.inl (x + y) :: st) H := rn_nx rfl rfl
set_option maxRecDepth 20000 in
theorem e_M_go_212 : rn Ls xs d 157 212 [l0, l1]  st H = rn Ls xs d 157 214 [l0, l1] (.inl 48 :: st) H := rn_nx rfl rfl
set_option maxRecDepth 20000 in
theorem e_M_go_214 : rn Ls xs d 157 214 [l0, l1] (.inl y :: .inl x :: st) H = rn Ls xs d 157 215 [l0, l1] (.inl (x - y) :: st) H := rn_nx rfl rfl
set_option maxRecDepth 20000 in
theorem e_M_go_215 : rn Ls xs d 157 215 [l0, l1] st H = rn Ls xs d 157 222 [l0, l1] st H := rn_nx rfl rfl
set_option maxRecDepth 20000 in
theorem e_M_go_218 : rn Ls xs d 157 218 [some (.inr u), l1] st H = rn Ls xs d 157 219 [some (.inr u), l1] (.inr u :: st) H := rn_nx rfl rfl
set_option maxRecDepth 20000 in
theorem e_M_go_219 : rn Ls xs d 157 219 [l0, l1] (.inr (.inl (some a)) :: st) (S, I, R) = if h_is S a 9 36 then rn Ls xs d 157 222 [l0, l1] (.inl (I a 13) :: st) (S, I, R) else none := rn_bc rfl rfl
set_option maxRecDepth 20000 in
theorem e_M_go_222 : rn Ls xs d 157 222 [l0, l1] (.inl x :: .inr (.inl (some a)) :: st) (S, I, R) = if h_is S a 9 36 then rn Ls xs d 157 225 [l0, l1] st (S, va_up I a (upd (I a) 13 x), R) else none := rn_bc rfl rfl
set_option maxRecDepth 20000 in
theorem e_M_go_225 : rn Ls xs d 157 225 [some (.inr u), l1] st H = rn Ls xs d 157 226 [some (.inr u), l1] (.inr u :: st) H := rn_nx rfl rfl
set_option maxRecDepth 20000 in
theorem e_M_go_226 : rn Ls xs d 157 226 [l0, l1] (v :: st) H = rn Ls xs d 157 227 [l0, l1] (v :: v :: st) H := rn_nx rfl rfl
set_option maxRecDepth 20000 in
theorem e_M_go_227 : rn Ls xs d 157 227 [l0, l1] (.inr (.inl (some a)) :: st) (S, I, R) = if h_is S a 9 36 then rn Ls xs d 157 230 [l0, l1] (.inl (I a 10) :: st) (S, I, R) else none := rn_bc rfl rfl
set_option maxRecDepth 20000 in
theorem e_M_go_230 : rn Ls xs d 157 230 [l0, l1]  st H = rn Ls xs d 157 231 [l0, l1] (.inl 1 :: st) H := rn_nx rfl rfl
set_option maxRecDepth 20000 in
theorem e_M_go_231 : rn Ls xs d 157 231 [l0, l1] (.inl y :: .inl x :: st) H = rn Ls xs d 157 232 [l0, l1] (.inl (x + y) :: st) H := rn_nx rfl rfl
set_option maxRecDepth 20000 in
theorem e_M_go_232 : rn Ls xs d 157 232 [l0, l1] (.inl x :: .inr (.inl (some a)) :: st) (S, I, R) = if h_is S a 9 36 then rn Ls xs d 157 235 [l0, l1] st (S, va_up I a (upd (I a) 10 x), R) else none := rn_bc rfl rfl
set_option maxRecDepth 20000 in
theorem e_M_go_235 : rn Ls xs d 157 235 [l0, l1] st H = rn Ls xs d 157 170 [l0, l1] st H := rn_nx rfl rfl
set_option maxRecDepth 20000 in
theorem e_M_go_238 : rn Ls xs d 157 238 [some (.inr u), l1] st H = rn Ls xs d 157 239 [some (.inr u), l1] (.inr u :: st) H := rn_nx rfl rfl
set_option maxRecDepth 20000 in
theorem e_M_go_239 : rn Ls xs d 157 239 [l0, some (.inl x)] st H = rn Ls xs d 157 240 [l0, some (.inl x)] (.inl x :: st) H := rn_nx rfl rfl
set_option maxRecDepth 20000 in
theorem e_M_go_240 : rn Ls xs d 157 240 [l0, l1] (.inl x :: st) H = if x ≠ 0 then rn Ls xs d 157 256 [l0, l1] st H else rn Ls xs d 157 243 [l0, l1] st H := rn_if (p := fun x => x ≠ 0) rfl
set_option maxRecDepth 20000 in
theorem e_M_go_243 : rn Ls xs d 157 243 [some (.inr u), l1] st H = rn Ls xs d 157 244 [some (.inr u), l1] (.inr u :: st) H := rn_nx rfl rfl
set_option maxRecDepth 20000 in
theorem e_M_go_244 : rn Ls xs d 157 244 [l0, l1] (.inr (.inl (some a)) :: st) (S, I, R) = if h_is S a 9 36 then rn Ls xs d 157 247 [l0, l1] (.inl (I a 10) :: st) (S, I, R) else none := rn_bc rfl rfl
set_option maxRecDepth 20000 in
theorem e_M_go_247 : rn Ls xs d 157 247 [some (.inr u), l1] st H = rn Ls xs d 157 248 [some (.inr u), l1] (.inr u :: st) H := rn_nx rfl rfl
set_option maxRecDepth 20000 in
theorem e_M_go_248 : rn Ls xs d 157 248 [l0, l1] (.inr (.inl (some a)) :: st) (S, I, R) = if h_is S a 9 36 then rn Ls xs d 157 251 [l0, l1] (.inl (I a 11) :: st) (S, I, R) else none := rn_bc rfl rfl
set_option maxRecDepth 20000 in
theorem e_M_go_251 : rn Ls xs d 157 251 [l0, l1] (.inl y :: .inl x :: st) H = rn Ls xs d 157 252 [l0, l1] (.inl (x - y) :: st) H := rn_nx rfl rfl
set_option maxRecDepth 20000 in
theorem e_M_go_252 : rn Ls xs d 157 252 [l0, l1]  st H = rn Ls xs d 157 253 [l0, l1] (.inl 4 :: st) H := rn_nx rfl rfl
set_option maxRecDepth 20000 in
theorem e_M_go_253 : rn Ls xs d 157 253 [l0, l1] (.inl y :: .inl x :: st) H = if x ≤ y then rn Ls xs d 157 260 [l0, l1] st H else rn Ls xs d 157 256 [l0, l1] st H := rn_cmp (p := fun x y => x ≤ y) rfl
set_option maxRecDepth 20000 in
theorem e_M_go_256 : rn Ls xs d 157 256 [l0, l1]  st H = rn Ls xs d 157 257 [l0, l1] (.inl 4 :: st) H := rn_nx rfl rfl
set_option maxRecDepth 20000 in
theorem e_M_go_257 : rn Ls xs d 157 257 [l0, l1] st H = rn Ls xs d 157 261 [l0, l1] st H := rn_nx rfl rfl
set_option maxRecDepth 20000 in
theorem e_M_go_260 : rn Ls xs d 157 260 [l0, l1]  st H = rn Ls xs d 157 261 [l0, l1] (.inl 2 :: st) H := rn_nx rfl rfl
set_option maxRecDepth 20000 in
theorem e_M_go_261 : rn Ls xs d 157 261 [l0, l1] (.inl x :: .inr (.inl (some a)) :: st) (S, I, R) = if h_is S a 9 36 then rn Ls xs d 157 264 [l0, l1] st (S, va_up I a (upd (I a) 12 x), R) else none := rn_bc rfl rfl
set_option maxRecDepth 20000 in
theorem e_M_go_264 : rn Ls xs d 157 264 [some (.inr u), l1] st H = rn Ls xs d 157 265 [some (.inr u), l1] (.inr u :: st) H := rn_nx rfl rfl
set_option maxRecDepth 20000 in
theorem e_M_go_265 : rn Ls xs d 157 265 [some (.inr u), l1] st H = rn Ls xs d 157 266 [some (.inr u), l1] (.inr u :: st) H := rn_nx rfl rfl
set_option maxRecDepth 20000 in
theorem e_M_go_266 : rn Ls xs d 157 266 [l0, l1] (.inr (.inl (some a)) :: st) (S, I, R) = if h_is S a 9 36 then rn Ls xs d 157 269 [l0, l1] (.inl (I a 10) :: st) (S, I, R) else none := rn_bc rfl rfl
set_option maxRecDepth 20000 in
theorem e_M_go_269 : rn Ls xs d 157 269 [l0, l1] (.inl x :: .inr (.inl (some a)) :: st) (S, I, R) = if h_is S a 9 36 then rn Ls xs d 157 272 [l0, l1] st (S, va_up I a (upd (I a) 14 x), R) else none := rn_bc rfl rfl
set_option maxRecDepth 20000 in
theorem e_M_go_272 : rn Ls xs d 157 272 [l0, l1] st H = rn Ls xs d 157 303 [l0, l1] st H := rn_nx rfl rfl
set_option maxRecDepth 20000 in
theorem e_M_go_275 : rn Ls xs d 157 275 [some (.inr u), l1] st H = rn Ls xs d 157 276 [some (.inr u), l1] (.inr u :: st) H := rn_nx rfl rfl
set_option maxRecDepth 20000 in
theorem e_M_go_276 : rn Ls xs d 157 276 [l0, l1]  st H = rn Ls xs d 157 277 [l0, l1] (.inl 3 :: st) H := rn_nx rfl rfl
set_option maxRecDepth 20000 in
theorem e_M_go_277 : rn Ls xs d 157 277 [l0, l1] (.inl x :: .inr (.inl (some a)) :: st) (S, I, R) = if h_is S a 9 36 then rn Ls xs d 157 280 [l0, l1] st (S, va_up I a (upd (I a) 12 x), R) else none := rn_bc rfl rfl
set_option maxRecDepth 20000 in
theorem e_M_go_280 : rn Ls xs d 157 280 [some (.inr u), l1] st H = rn Ls xs d 157 281 [some (.inr u), l1] (.inr u :: st) H := rn_nx rfl rfl
set_option maxRecDepth 20000 in
theorem e_M_go_281 : rn Ls xs d 157 281 [some (.inr u), l1] st H = rn Ls xs d 157 282 [some (.inr u), l1] (.inr u :: st) H := rn_nx rfl rfl
set_option maxRecDepth 20000 in
theorem e_M_go_282 : rn Ls xs d 157 282 [l0, l1] (.inr (.inl (some a)) :: st) (S, I, R) = if h_is S a 9 36 then rn Ls xs d 157 285 [l0, l1] (.inr (R a 8) :: st) (S, I, R) else none := rn_bc rfl rfl
set_option maxRecDepth 20000 in
theorem e_M_go_285 : rn Ls xs d 157 285 [some (.inr u), l1] st H = rn Ls xs d 157 286 [some (.inr u), l1] (.inr u :: st) H := rn_nx rfl rfl
set_option maxRecDepth 20000 in
theorem e_M_go_286 : rn Ls xs d 157 286 [l0, l1] (.inr (.inl (some a)) :: st) (S, I, R) = if h_is S a 9 36 then rn Ls xs d 157 289 [l0, l1] (.inl (I a 11) :: st) (S, I, R) else none := rn_bc rfl rfl
set_option maxRecDepth 20000 in
theorem e_M_go_289 : rn Ls xs d 157 289 [l0, l1] (.inl i :: .inr (.inl (some a)) :: st) (S, I, R) = if h_ia S a 0 i then rn Ls xs d 157 290 [l0, l1] (.inl (I a i.toNatClampNeg) :: st) (S, I, R) else none := rn_bc rfl rfl
set_option maxRecDepth 20000 in
theorem e_M_go_290 : rn Ls xs d 157 290 [l0, l1] (.inl x :: .inr (.inl (some a)) :: st) (S, I, R) = if h_is S a 9 36 then rn Ls xs d 157 293 [l0, l1] st (S, va_up I a (upd (I a) 13 x), R) else none := rn_bc rfl rfl
set_option maxRecDepth 20000 in
theorem e_M_go_293 : rn Ls xs d 157 293 [some (.inr u), l1] st H = rn Ls xs d 157 294 [some (.inr u), l1] (.inr u :: st) H := rn_nx rfl rfl
set_option maxRecDepth 20000 in
theorem e_M_go_294 : rn Ls xs d 157 294 [l0, l1] (v :: st) H = rn Ls xs d 157 295 [l0, l1] (v :: v :: st) H := rn_nx rfl rfl
set_option maxRecDepth 20000 in
theorem e_M_go_295 : rn Ls xs d 157 295 [l0, l1] (.inr (.inl (some a)) :: st) (S, I, R) = if h_is S a 9 36 then rn Ls xs d 157 298 [l0, l1] (.inl (I a 10) :: st) (S, I, R) else none := rn_bc rfl rfl
set_option maxRecDepth 20000 in
theorem e_M_go_298 : rn Ls xs d 157 298 [l0, l1]  st H = rn Ls xs d 157 299 [l0, l1] (.inl 1 :: st) H := rn_nx rfl rfl
set_option maxRecDepth 20000 in
theorem e_M_go_299 : rn Ls xs d 157 299 [l0, l1] (.inl y :: .inl x :: st) H = rn Ls xs d 157 300 [l0, l1] (.inl (x + y) :: st) H := rn_nx rfl rfl
set_option maxRecDepth 20000 in
theorem e_M_go_300 : rn Ls xs d 157 300 [l0, l1] (.inl x :: .inr (.inl (some a)) :: st) (S, I, R) = if h_is S a 9 36 then rn Ls xs d 157 303 [l0, l1] st (S, va_up I a (upd (I a) 10 x), R) else none := rn_bc rfl rfl
set_option maxRecDepth 20000 in
theorem e_M_go_303 : rn Ls xs d 157 303 [l0, l1] [] H = some (none, H) := rn_done rfl rfl
theorem e_M_takesKey_0 : rn Ls xs d 158 0 [some (.inr u), l1, l2, l3, l4] st H = rn Ls xs d 158 1 [some (.inr u), l1, l2, l3, l4] (.inr u :: st) H := rn_nx rfl rfl
theorem e_M_takesKey_1 : rn Ls xs d 158 1 [l0, l1, l2, l3, l4] (.inr (.inl (some a)) :: st) (S, I, R) = if h_is S a 9 36 then rn Ls xs d 158 4 [l0, l1, l2, l3, l4] (.inl (I a 12) :: st) (S, I, R) else none := rn_bc rfl rfl
theorem e_M_takesKey_4 : rn Ls xs d 158 4 [l0, l1, l2, l3, l4]  st H = rn Ls xs d 158 5 [l0, l1, l2, l3, l4] (.inl 1 :: st) H := rn_nx rfl rfl
theorem e_M_takesKey_5 : rn Ls xs d 158 5 [l0, l1, l2, l3, l4] (.inl y :: .inl x :: st) H = if x = y then rn Ls xs d 158 10 [l0, l1, l2, l3, l4] st H else rn Ls xs d 158 8 [l0, l1, l2, l3, l4] st H := rn_cmp (p := fun x y => x = y) rfl
theorem e_M_takesKey_8 : rn Ls xs d 158 8 [l0, l1, l2, l3, l4]  st H = rn Ls xs d 158 9 [l0, l1, l2, l3, l4] (.inl 0 :: st) H := rn_nx rfl rfl
theorem e_M_takesKey_9 : rn Ls xs d 158 9 [l0, l1, l2, l3, l4] [.inl x] H = if h_bo x then some (some (.inl x), H) else none := rn_zret rfl
theorem e_M_takesKey_10 : rn Ls xs d 158 10 [l0, l1, l2, l3, l4]  st H = rn Ls xs d 158 11 [l0, l1, l2, l3, l4] (.inl 0 :: st) H := rn_nx rfl rfl
theorem e_M_takesKey_11 : rn Ls xs d 158 11 [l0, l1, l2, l3, l4] (.inl x :: st) H = rn Ls xs d 158 12 [l0, some (.inl x), l2, l3, l4] st H := rn_nx rfl rfl
theorem e_M_takesKey_12 : rn Ls xs d 158 12 [l0, some (.inl x), l2, l3, l4] st H = rn Ls xs d 158 13 [l0, some (.inl x), l2, l3, l4] (.inl x :: st) H := rn_nx rfl rfl
theorem e_M_takesKey_13 : rn Ls xs d 158 13 [l0, l1, l2, l3, l4]  st H = rn Ls xs d 158 14 [l0, l1, l2, l3, l4] (.inl 3 :: st) H := rn_nx rfl rfl
theorem e_M_takesKey_14 : rn Ls xs d 158 14 [l0, l1, l2, l3, l4] (.inl y :: .inl x :: st) H = if y ≤ x then rn Ls xs d 158 127 [l0, l1, l2, l3, l4] st H else rn Ls xs d 158 17 [l0, l1, l2, l3, l4] st H := rn_cmp (p := fun x y => y ≤ x) rfl
theorem e_M_takesKey_17 : rn Ls xs d 158 17 [some (.inr u), l1, l2, l3, l4] st H = rn Ls xs d 158 18 [some (.inr u), l1, l2, l3, l4] (.inr u :: st) H := rn_nx rfl rfl
theorem e_M_takesKey_18 : rn Ls xs d 158 18 [l0, l1, l2, l3, l4] (.inr (.inl (some a)) :: st) (S, I, R) = if h_is S a 9 36 then rn Ls xs d 158 21 [l0, l1, l2, l3, l4] (.inr (R a 17) :: st) (S, I, R) else none := rn_bc rfl rfl
theorem e_M_takesKey_21 : rn Ls xs d 158 21 [l0, some (.inl x), l2, l3, l4] st H = rn Ls xs d 158 22 [l0, some (.inl x), l2, l3, l4] (.inl x :: st) H := rn_nx rfl rfl
theorem e_M_takesKey_22 : rn Ls xs d 158 22 [l0, l1, l2, l3, l4]  st H = rn Ls xs d 158 23 [l0, l1, l2, l3, l4] (.inl 1 :: st) H := rn_nx rfl rfl
theorem e_M_takesKey_23 : rn Ls xs d 158 23 [l0, l1, l2, l3, l4] (.inl y :: .inl x :: st) H = rn Ls xs d 158 24 [l0, l1, l2, l3, l4] (.inl (x + y) :: st) H := rn_nx rfl rfl
theorem e_M_takesKey_24 : rn Ls xs d 158 24 [l0, l1, l2, l3, l4] (.inl i :: .inr (.inl (some a)) :: st) (S, I, R) = if h_ia S a 0 i then rn Ls xs d 158 25 [l0, l1, l2, l3, l4] (.inl (I a i.toNatClampNeg) :: st) (S, I, R) else none := rn_bc rfl rfl
theorem e_M_takesKey_25 : rn Ls xs d 158 25 [some (.inr u), l1, l2, l3, l4] st H = rn Ls xs d 158 26 [some (.inr u), l1, l2, l3, l4] (.inr u :: st) H := rn_nx rfl rfl
theorem e_M_takesKey_26 : rn Ls xs d 158 26 [l0, l1, l2, l3, l4] (.inr (.inl (some a)) :: st) (S, I, R) = if h_is S a 9 36 then rn Ls xs d 158 29 [l0, l1, l2, l3, l4] (.inr (R a 17) :: st) (S, I, R) else none := rn_bc rfl rfl
theorem e_M_takesKey_29 : rn Ls xs d 158 29 [l0, some (.inl x), l2, l3, l4] st H = rn Ls xs d 158 30 [l0, some (.inl x), l2, l3, l4] (.inl x :: st) H := rn_nx rfl rfl
theorem e_M_takesKey_30 : rn Ls xs d 158 30 [l0, l1, l2, l3, l4] (.inl i :: .inr (.inl (some a)) :: st) (S, I, R) = if h_ia S a 0 i then rn Ls xs d 158 31 [l0, l1, l2, l3, l4] (.inl (I a i.toNatClampNeg) :: st) (S, I, R) else none := rn_bc rfl rfl
theorem e_M_takesKey_31 : rn Ls xs d 158 31 [l0, l1, l2, l3, l4] (.inl y :: .inl x :: st) H = rn Ls xs d 158 32 [l0, l1, l2, l3, l4] (.inl (x - y) :: st) H := rn_nx rfl rfl
theorem e_M_takesKey_32 : rn Ls xs d 158 32 [l0, l1, l2, l3, l4] (.inl x :: st) H = rn Ls xs d 158 33 [l0, l1, some (.inl x), l3, l4] st H := rn_nx rfl rfl
theorem e_M_takesKey_33 : rn Ls xs d 158 33 [l0, l1, some (.inl x), l3, l4] st H = rn Ls xs d 158 34 [l0, l1, some (.inl x), l3, l4] (.inl x :: st) H := rn_nx rfl rfl
theorem e_M_takesKey_34 : rn Ls xs d 158 34 [some (.inr u), l1, l2, l3, l4] st H = rn Ls xs d 158 35 [some (.inr u), l1, l2, l3, l4] (.inr u :: st) H := rn_nx rfl rfl
theorem e_M_takesKey_35 : rn Ls xs d 158 35 [l0, l1, l2, l3, l4] (.inr (.inl (some a)) :: st) (S, I, R) = if h_is S a 9 36 then rn Ls xs d 158 38 [l0, l1, l2, l3, l4] (.inl (I a 10) :: st) (S, I, R) else none := rn_bc rfl rfl
theorem e_M_takesKey_38 : rn Ls xs d 158 38 [some (.inr u), l1, l2, l3, l4] st H = rn Ls xs d 158 39 [some (.inr u), l1, l2, l3, l4] (.inr u :: st) H := rn_nx rfl rfl
theorem e_M_takesKey_39 : rn Ls xs d 158 39 [l0, l1, l2, l3, l4] (.inr (.inl (some a)) :: st) (S, I, R) = if h_is S a 9 36 then rn Ls xs d 158 42 [l0, l1, l2, l3, l4] (.inl (I a 11) :: st) (S, I, R) else none := rn_bc rfl rfl
theorem e_M_takesKey_42 : rn Ls xs d 158 42 [l0, l1, l2, l3, l4] (.inl y :: .inl x :: st) H = rn Ls xs d 158 43 [l0, l1, l2, l3, l4] (.inl (x - y) :: st) H := rn_nx rfl rfl
theorem e_M_takesKey_43 : rn Ls xs d 158 43 [l0, l1, l2, l3, l4] (.inl y :: .inl x :: st) H = if x ≠ y then rn Ls xs d 158 50 [l0, l1, l2, l3, l4] st H else rn Ls xs d 158 46 [l0, l1, l2, l3, l4] st H := rn_cmp (p := fun x y => x ≠ y) rfl
theorem e_M_takesKey_46 : rn Ls xs d 158 46 [l0, l1, l2, l3, l4]  st H = rn Ls xs d 158 47 [l0, l1, l2, l3, l4] (.inl 1 :: st) H := rn_nx rfl rfl
theorem e_M_takesKey_47 : rn Ls xs d 158 47 [l0, l1, l2, l3, l4] st H = rn Ls xs d 158 51 [l0, l1, l2, l3, l4] st H := rn_nx rfl rfl
theorem e_M_takesKey_50 : rn Ls xs d 158 50 [l0, l1, l2, l3, l4]  st H = rn Ls xs d 158 51 [l0, l1, l2, l3, l4] (.inl 0 :: st) H := rn_nx rfl rfl
theorem e_M_takesKey_51 : rn Ls xs d 158 51 [l0, l1, l2, l3, l4] (.inl x :: st) H = rn Ls xs d 158 52 [l0, l1, l2, some (.inl x), l4] st H := rn_nx rfl rfl
theorem e_M_takesKey_52 : rn Ls xs d 158 52 [l0, l1, l2, l3, l4]  st H = rn Ls xs d 158 53 [l0, l1, l2, l3, l4] (.inl 0 :: st) H := rn_nx rfl rfl
theorem e_M_takesKey_53 : rn Ls xs d 158 53 [l0, l1, l2, l3, l4] (.inl x :: st) H = rn Ls xs d 158 55 [l0, l1, l2, l3, some (.inl x)] st H := rn_nx rfl rfl
theorem e_M_takesKey_55 : rn Ls xs d 158 55 [l0, l1, l2, l3, some (.inl x)] st H = rn Ls xs d 158 57 [l0, l1, l2, l3, some (.inl x)] (.inl x :: st) H := rn_nx rfl rfl
theorem e_M_takesKey_57 : rn Ls xs d 158 57 [l0, l1, some (.inl x), l3, l4] st H = rn Ls xs d 158 58 [l0, l1, some (.inl x), l3, l4] (.inl x :: st) H := rn_nx rfl rfl
theorem e_M_takesKey_58 : rn Ls xs d 158 58 [l0, l1, l2, l3, l4] (.inl y :: .inl x :: st) H = if y ≤ x then rn Ls xs d 158 106 [l0, l1, l2, l3, l4] st H else rn Ls xs d 158 61 [l0, l1, l2, l3, l4] st H := rn_cmp (p := fun x y => y ≤ x) rfl
theorem e_M_takesKey_61 : rn Ls xs d 158 61 [l0, l1, l2, some (.inl x), l4] st H = rn Ls xs d 158 62 [l0, l1, l2, some (.inl x), l4] (.inl x :: st) H := rn_nx rfl rfl
theorem e_M_takesKey_62 : rn Ls xs d 158 62 [l0, l1, l2, l3, l4] (.inl x :: st) H = if x = 0 then rn Ls xs d 158 106 [l0, l1, l2, l3, l4] st H else rn Ls xs d 158 65 [l0, l1, l2, l3, l4] st H := rn_if (p := fun x => x = 0) rfl
theorem e_M_takesKey_65 : rn Ls xs d 158 65 [some (.inr u), l1, l2, l3, l4] st H = rn Ls xs d 158 66 [some (.inr u), l1, l2, l3, l4] (.inr u :: st) H := rn_nx rfl rfl
theorem e_M_takesKey_66 : rn Ls xs d 158 66 [l0, l1, l2, l3, l4] (.inr (.inl (some a)) :: st) (S, I, R) = if h_is S a 9 36 then rn Ls xs d 158 69 [l0, l1, l2, l3, l4] (.inr (R a 8) :: st) (S, I, R) else none := rn_bc rfl rfl
theorem e_M_takesKey_69 : rn Ls xs d 158 69 [some (.inr u), l1, l2, l3, l4] st H = rn Ls xs d 158 70 [some (.inr u), l1, l2, l3, l4] (.inr u :: st) H := rn_nx rfl rfl
theorem e_M_takesKey_70 : rn Ls xs d 158 70 [l0, l1, l2, l3, l4] (.inr (.inl (some a)) :: st) (S, I, R) = if h_is S a 9 36 then rn Ls xs d 158 73 [l0, l1, l2, l3, l4] (.inl (I a 11) :: st) (S, I, R) else none := rn_bc rfl rfl
theorem e_M_takesKey_73 : rn Ls xs d 158 73 [l0, l1, l2, l3, some (.inl x)] st H = rn Ls xs d 158 75 [l0, l1, l2, l3, some (.inl x)] (.inl x :: st) H := rn_nx rfl rfl
theorem e_M_takesKey_75 : rn Ls xs d 158 75 [l0, l1, l2, l3, l4] (.inl y :: .inl x :: st) H = rn Ls xs d 158 76 [l0, l1, l2, l3, l4] (.inl (x + y) :: st) H := rn_nx rfl rfl
theorem e_M_takesKey_76 : rn Ls xs d 158 76 [l0, l1, l2, l3, l4] (.inl i :: .inr (.inl (some a)) :: st) (S, I, R) = if h_ia S a 0 i then rn Ls xs d 158 77 [l0, l1, l2, l3, l4] (.inl (I a i.toNatClampNeg) :: st) (S, I, R) else none := rn_bc rfl rfl
theorem e_M_takesKey_77 : rn Ls xs d 158 77 [some (.inr u), l1, l2, l3, l4] st H = rn Ls xs d 158 78 [some (.inr u), l1, l2, l3, l4] (.inr u :: st) H := rn_nx rfl rfl
theorem e_M_takesKey_78 : rn Ls xs d 158 78 [l0, l1, l2, l3, l4] (.inr (.inl (some a)) :: st) (S, I, R) = if h_is S a 9 36 then rn Ls xs d 158 81 [l0, l1, l2, l3, l4] (.inr (R a 16) :: st) (S, I, R) else none := rn_bc rfl rfl
theorem e_M_takesKey_81 : rn Ls xs d 158 81 [some (.inr u), l1, l2, l3, l4] st H = rn Ls xs d 158 82 [some (.inr u), l1, l2, l3, l4] (.inr u :: st) H := rn_nx rfl rfl
theorem e_M_takesKey_82 : rn Ls xs d 158 82 [l0, l1, l2, l3, l4] (.inr (.inl (some a)) :: st) (S, I, R) = if h_is S a 9 36 then rn Ls xs d 158 85 [l0, l1, l2, l3, l4] (.inr (R a 17) :: st) (S, I, R) else none := rn_bc rfl rfl
theorem e_M_takesKey_85 : rn Ls xs d 158 85 [l0, some (.inl x), l2, l3, l4] st H = rn Ls xs d 158 86 [l0, some (.inl x), l2, l3, l4] (.inl x :: st) H := rn_nx rfl rfl
theorem e_M_takesKey_86 : rn Ls xs d 158 86 [l0, l1, l2, l3, l4] (.inl i :: .inr (.inl (some a)) :: st) (S, I, R) = if h_ia S a 0 i then rn Ls xs d 158 87 [l0, l1, l2, l3, l4] (.inl (I a i.toNatClampNeg) :: st) (S, I, R) else none := rn_bc rfl rfl
theorem e_M_takesKey_87 : rn Ls xs d 158 87 [l0, l1, l2, l3, some (.inl x)] st H = rn Ls xs d 158 89 [l0, l1, l2, l3, some (.inl x)] (.inl x :: st) H := rn_nx rfl rfl
theorem e_M_takesKey_89 : rn Ls xs d 158 89 [l0, l1, l2, l3, l4] (.inl y :: .inl x :: st) H = rn Ls xs d 158 90 [l0, l1, l2, l3, l4] (.inl (x + y) :: st) H := rn_nx rfl rfl
theorem e_M_takesKey_90 : rn Ls xs d 158 90 [l0, l1, l2, l3, l4] (.inl i :: .inr (.inl (some a)) :: st) (S, I, R) = if h_ia S a 2 i then rn Ls xs d 158 91 [l0, l1, l2, l3, l4] (.inl (I a i.toNatClampNeg) :: st) (S, I, R) else none := rn_bc rfl rfl
theorem e_M_takesKey_91 : rn Ls xs d 158 91 [l0, l1, l2, l3, l4] (.inl y :: .inl x :: st) H = if x ≠ y then rn Ls xs d 158 98 [l0, l1, l2, l3, l4] st H else rn Ls xs d 158 94 [l0, l1, l2, l3, l4] st H := rn_cmp (p := fun x y => x ≠ y) rfl
theorem e_M_takesKey_94 : rn Ls xs d 158 94 [l0, l1, l2, l3, l4]  st H = rn Ls xs d 158 95 [l0, l1, l2, l3, l4] (.inl 1 :: st) H := rn_nx rfl rfl
theorem e_M_takesKey_95 : rn Ls xs d 158 95 [l0, l1, l2, l3, l4] st H = rn Ls xs d 158 99 [l0, l1, l2, l3, l4] st H := rn_nx rfl rfl
theorem e_M_takesKey_98 : rn Ls xs d 158 98 [l0, l1, l2, l3, l4]  st H = rn Ls xs d 158 99 [l0, l1, l2, l3, l4] (.inl 0 :: st) H := rn_nx rfl rfl
theorem e_M_takesKey_99 : rn Ls xs d 158 99 [l0, l1, l2, l3, l4] (.inl x :: st) H = rn Ls xs d 158 100 [l0, l1, l2, some (.inl x), l4] st H := rn_nx rfl rfl
theorem e_M_takesKey_100 : rn Ls xs d 158 100 [l0, l1, l2, l3, some (.inl x)] st H = rn Ls xs d 158 103 [l0, l1, l2, l3, some (.inl (x + 1))] st H := rn_nx rfl rfl
theorem e_M_takesKey_103 : rn Ls xs d 158 103 [l0, l1, l2, l3, l4] st H = rn Ls xs d 158 55 [l0, l1, l2, l3, l4] st H := rn_nx rfl rfl
theorem e_M_takesKey_106 : rn Ls xs d 158 106 [l0, l1, l2, some (.inl x), l4] st H = rn Ls xs d 158 107 [l0, l1, l2, some (.inl x), l4] (.inl x :: st) H := rn_nx rfl rfl
theorem e_M_takesKey_107 : rn Ls xs d 158 107 [l0, l1, l2, l3, l4] (.inl x :: st) H = if x = 0 then rn Ls xs d 158 121 [l0, l1, l2, l3, l4] st H else rn Ls xs d 158 110 [l0, l1, l2, l3, l4] st H := rn_if (p := fun x => x = 0) rfl
theorem e_M_takesKey_110 : rn Ls xs d 158 110 [some (.inr u), l1, l2, l3, l4] st H = rn Ls xs d 158 111 [some (.inr u), l1, l2, l3, l4] (.inr u :: st) H := rn_nx rfl rfl
theorem e_M_takesKey_111 : rn Ls xs d 158 111 [l0, some (.inl x), l2, l3, l4] st H = rn Ls xs d 158 112 [l0, some (.inl x), l2, l3, l4] (.inl x :: st) H := rn_nx rfl rfl
theorem e_M_takesKey_112 : rn Ls xs d 158 112 [l0, l1, l2, l3, l4] (.inl x :: .inr (.inl (some a)) :: st) (S, I, R) = if h_is S a 9 36 then rn Ls xs d 158 115 [l0, l1, l2, l3, l4] st (S, va_up I a (upd (I a) 15 x), R) else none := rn_bc rfl rfl
theorem e_M_takesKey_115 : rn Ls xs d 158 115 [some (.inr u), l1, l2, l3, l4] st H = rn Ls xs d 158 116 [some (.inr u), l1, l2, l3, l4] (.inr u :: st) H := rn_nx rfl rfl
theorem e_M_takesKey_116 : rn Ls xs (d + 1) 158 116 [l0, l1, l2, l3, l4] [(.inr (.inl (some a)))] (S, I, R) = if h_is S a 9 36 then rb Ls xs (d + 1) 158 119 [l0, l1, l2, l3, l4] [] (rn Ls xs d 157 0 [some (.inr (.inl (some a))), none] [] (S, I, R)) else none := rn_callO rfl rfl (Nat.le_of_ble_eq_true rfl) rfl rfl
theorem e_M_takesKey_119 : rn Ls xs d 158 119 [l0, l1, l2, l3, l4]  st H = rn Ls xs d 158 120 [l0, l1, l2, l3, l4] (.inl 1 :: st) H := rn_nx rfl rfl
theorem e_M_takesKey_120 : rn Ls xs d 158 120 [l0, l1, l2, l3, l4] [.inl x] H = if h_bo x then some (some (.inl x), H) else none := rn_zret rfl
theorem e_M_takesKey_121 : rn Ls xs d 158 121 [l0, some (.inl x), l2, l3, l4] st H = rn Ls xs d 158 124 [l0, some (.inl (x + 1)), l2, l3, l4] st H := rn_nx rfl rfl
theorem e_M_takesKey_124 : rn Ls xs d 158 124 [l0, l1, l2, l3, l4] st H = rn Ls xs d 158 12 [l0, l1, l2, l3, l4] st H := rn_nx rfl rfl
theorem e_M_takesKey_127 : rn Ls xs d 158 127 [l0, l1, l2, l3, l4]  st H = rn Ls xs d 158 128 [l0, l1, l2, l3, l4] (.inl 0 :: st) H := rn_nx rfl rfl
theorem e_M_takesKey_128 : rn Ls xs d 158 128 [l0, l1, l2, l3, l4] [.inl x] H = if h_bo x then some (some (.inl x), H) else none := rn_zret rfl
set_option maxRecDepth 20000 in
theorem e_M_takesE_0 : rn Ls xs d 159 0 [l0, l1, l2, l3, l4]  st H = rn Ls xs d 159 1 [l0, l1, l2, l3, l4] (.inl 0 :: st) H := rn_nx rfl rfl
set_option maxRecDepth 20000 in
theorem e_M_takesE_1 : rn Ls xs d 159 1 [l0, l1, l2, l3, l4] (.inl x :: st) H = rn Ls xs d 159 2 [l0, some (.inl x), l2, l3, l4] st H := rn_nx rfl rfl
set_option maxRecDepth 20000 in
theorem e_M_takesE_2 : rn Ls xs d 159 2 [l0, l1, l2, l3, l4]  st H = rn Ls xs d 159 3 [l0, l1, l2, l3, l4] (.inl 0 :: st) H := rn_nx rfl rfl
set_option maxRecDepth 20000 in
theorem e_M_takesE_3 : rn Ls xs d 159 3 [l0, l1, l2, l3, l4] (.inl x :: st) H = rn Ls xs d 159 4 [l0, l1, some (.inl x), l3, l4] st H := rn_nx rfl rfl
set_option maxRecDepth 20000 in
theorem e_M_takesE_4 : rn Ls xs d 159 4 [l0, l1, l2, l3, l4]  st H = rn Ls xs d 159 5 [l0, l1, l2, l3, l4] (.inl 1 :: st) H := rn_nx rfl rfl
set_option maxRecDepth 20000 in
theorem e_M_takesE_5 : rn Ls xs d 159 5 [l0, l1, l2, l3, l4] (.inl x :: st) H = rn Ls xs d 159 6 [l0, l1, l2, some (.inl x), l4] st H := rn_nx rfl rfl
set_option maxRecDepth 20000 in
theorem e_M_takesE_6 : rn Ls xs d 159 6 [some (.inr u), l1, l2, l3, l4] st H = rn Ls xs d 159 7 [some (.inr u), l1, l2, l3, l4] (.inr u :: st) H := rn_nx rfl rfl
set_option maxRecDepth 20000 in
theorem e_M_takesE_7 : rn Ls xs d 159 7 [l0, l1, l2, l3, l4]  st H = rn Ls xs d 159 8 [l0, l1, l2, l3, l4] (.inl 0 :: st) H := rn_nx rfl rfl
set_option maxRecDepth 20000 in
theorem e_M_takesE_8 : rn Ls xs d 159 8 [l0, l1, l2, l3, l4] (.inl x :: .inr (.inl (some a)) :: st) (S, I, R) = if h_is S a 9 36 then rn Ls xs d 159 11 [l0, l1, l2, l3, l4] st (S, va_up I a (upd (I a) 19 x), R) else none := rn_bc rfl rfl
set_option maxRecDepth 20000 in
theorem e_M_takesE_11 : rn Ls xs d 159 11 [some (.inr u), l1, l2, l3, l4] st H = rn Ls xs d 159 12 [some (.inr u), l1, l2, l3, l4] (.inr u :: st) H := rn_nx rfl rfl
set_option maxRecDepth 20000 in
theorem e_M_takesE_12 : rn Ls xs d 159 12 [l0, l1, l2, l3, l4]  st H = rn Ls xs d 159 13 [l0, l1, l2, l3, l4] (.inl 0 :: st) H := rn_nx rfl rfl
set_option maxRecDepth 20000 in
theorem e_M_takesE_13 : rn Ls xs d 159 13 [l0, l1, l2, l3, l4] (.inl x :: .inr (.inl (some a)) :: st) (S, I, R) = if h_is S a 9 36 then rn Ls xs d 159 16 [l0, l1, l2, l3, l4] st (S, va_up I a (upd (I a) 20 x), R) else none := rn_bc rfl rfl
set_option maxRecDepth 20000 in
theorem e_M_takesE_16 : rn Ls xs d 159 16 [some (.inr u), l1, l2, l3, l4] st H = rn Ls xs d 159 17 [some (.inr u), l1, l2, l3, l4] (.inr u :: st) H := rn_nx rfl rfl
set_option maxRecDepth 20000 in
theorem e_M_takesE_17 : rn Ls xs d 159 17 [l0, l1, l2, l3, l4]  st H = rn Ls xs d 159 18 [l0, l1, l2, l3, l4] (.inl 0 :: st) H := rn_nx rfl rfl
set_option maxRecDepth 20000 in
theorem e_M_takesE_18 : rn Ls xs d 159 18 [l0, l1, l2, l3, l4] (.inl x :: .inr (.inl (some a)) :: st) (S, I, R) = if h_is S a 9 36 then rn Ls xs d 159 21 [l0, l1, l2, l3, l4] st (S, va_up I a (upd (I a) 22 x), R) else none := rn_bc rfl rfl
set_option maxRecDepth 20000 in
theorem e_M_takesE_21 : rn Ls xs d 159 21 [some (.inr u), l1, l2, l3, l4] st H = rn Ls xs d 159 22 [some (.inr u), l1, l2, l3, l4] (.inr u :: st) H := rn_nx rfl rfl
set_option maxRecDepth 20000 in
theorem e_M_takesE_22 : rn Ls xs d 159 22 [l0, l1, l2, l3, l4] (.inr (.inl (some a)) :: st) (S, I, R) = if h_is S a 9 36 then rn Ls xs d 159 25 [l0, l1, l2, l3, l4] (.inr (R a 23) :: st) (S, I, R) else none := rn_bc rfl rfl
set_option maxRecDepth 20000 in
theorem e_M_takesE_25 : rn Ls xs d 159 25 [l0, l1, l2, l3, l4]  st H = rn Ls xs d 159 26 [l0, l1, l2, l3, l4] (.inl 0 :: st) H := rn_nx rfl rfl
set_option maxRecDepth 20000 in
theorem e_M_takesE_26 : rn Ls xs d 159 26 [l0, l1, l2, l3, l4]  st H = rn Ls xs d 159 27 [l0, l1, l2, l3, l4] (.inl 0 :: st) H := rn_nx rfl rfl
set_option maxRecDepth 20000 in
theorem e_M_takesE_27 : rn Ls xs d 159 27 [l0, l1, l2, l3, l4] (.inl x :: .inl i :: .inr (.inl (some a)) :: st) (S, I, R) = if h_ia S a 1 i then rn Ls xs d 159 28 [l0, l1, l2, l3, l4] st (S, va_up I a (upd (I a) i.toNatClampNeg (vp_nar .boolean x)), R) else none := rn_bc rfl rfl
set_option maxRecDepth 20000 in
theorem e_M_takesE_28 : rn Ls xs d 159 28 [l0, l1, l2, some (.inl x), l4] st H = rn Ls xs d 159 29 [l0, l1, l2, some (.inl x), l4] (.inl x :: st) H := rn_nx rfl rfl
set_option maxRecDepth 20000 in
theorem e_M_takesE_29 : rn Ls xs d 159 29 [l0, l1, l2, l3, l4] (.inl x :: st) H = if x ≠ 0 then rn Ls xs d 159 39 [l0, l1, l2, l3, l4] st H else rn Ls xs d 159 32 [l0, l1, l2, l3, l4] st H := rn_if (p := fun x => x ≠ 0) rfl
set_option maxRecDepth 20000 in
theorem e_M_takesE_32 : rn Ls xs d 159 32 [some (.inr u), l1, l2, l3, l4] st H = rn Ls xs d 159 33 [some (.inr u), l1, l2, l3, l4] (.inr u :: st) H := rn_nx rfl rfl
set_option maxRecDepth 20000 in
theorem e_M_takesE_33 : rn Ls xs d 159 33 [l0, l1, l2, l3, l4] (.inr (.inl (some a)) :: st) (S, I, R) = if h_is S a 9 36 then rn Ls xs d 159 36 [l0, l1, l2, l3, l4] (.inl (I a 12) :: st) (S, I, R) else none := rn_bc rfl rfl
set_option maxRecDepth 20000 in
theorem e_M_takesE_36 : rn Ls xs d 159 36 [l0, l1, l2, l3, l4] (.inl x :: st) H = if x = 0 then rn Ls xs d 159 345 [l0, l1, l2, l3, l4] st H else rn Ls xs d 159 39 [l0, l1, l2, l3, l4] st H := rn_if (p := fun x => x = 0) rfl
set_option maxRecDepth 20000 in
theorem e_M_takesE_39 : rn Ls xs d 159 39 [l0, l1, l2, some (.inl x), l4] st H = rn Ls xs d 159 40 [l0, l1, l2, some (.inl x), l4] (.inl x :: st) H := rn_nx rfl rfl
set_option maxRecDepth 20000 in
theorem e_M_takesE_40 : rn Ls xs d 159 40 [l0, l1, l2, l3, l4] (.inl x :: st) H = if x = 0 then rn Ls xs d 159 180 [l0, l1, l2, l3, l4] st H else rn Ls xs d 159 43 [l0, l1, l2, l3, l4] st H := rn_if (p := fun x => x = 0) rfl
set_option maxRecDepth 20000 in
theorem e_M_takesE_43 : rn Ls xs d 159 43 [some (.inr u), l1, l2, l3, l4] st H = rn Ls xs d 159 44 [some (.inr u), l1, l2, l3, l4] (.inr u :: st) H := rn_nx rfl rfl
set_option maxRecDepth 20000 in
theorem e_M_takesE_44 : rn Ls xs d 159 44 [l0, l1, l2, l3, l4] (.inr (.inl (some a)) :: st) (S, I, R) = if h_is S a 9 36 then rn Ls xs d 159 47 [l0, l1, l2, l3, l4] (.inl (I a 12) :: st) (S, I, R) else none := rn_bc rfl rfl
set_option maxRecDepth 20000 in
theorem e_M_takesE_47 : rn Ls xs d 159 47 [l0, l1, l2, l3, l4]  st H = rn Ls xs d 159 48 [l0, l1, l2, l3, l4] (.inl 3 :: st) H := rn_nx rfl rfl
set_option maxRecDepth 20000 in
theorem e_M_takesE_48 : rn Ls xs d 159 48 [l0, l1, l2, l3, l4] (.inl y :: .inl x :: st) H = if x ≠ y then rn Ls xs d 159 97 [l0, l1, l2, l3, l4] st H else rn Ls xs d 159 51 [l0, l1, l2, l3, l4] st H := rn_cmp (p := fun x y => x ≠ y) rfl
set_option maxRecDepth 20000 in
theorem e_M_takesE_51 : rn Ls xs d 159 51 [some (.inr u), l1, l2, l3, l4] st H = rn Ls xs d 159 52 [some (.inr u), l1, l2, l3, l4] (.inr u :: st) H := rn_nx rfl rfl
set_option maxRecDepth 20000 in
theorem e_M_takesE_52 : rn Ls xs d 159 52 [l0, l1, l2, l3, l4] (.inr (.inl (some a)) :: st) (S, I, R) = if h_is S a 9 36 then rn Ls xs d 159 55 [l0, l1, l2, l3, l4] (.inl (I a 13) :: st) (S, I, R) else none := rn_bc rfl rfl
set_option maxRecDepth 20000 in
theorem e_M_takesE_55 : rn Ls xs d 159 55 [l0, l1, l2, l3, l4]  st H = rn Ls xs d 159 57 [l0, l1, l2, l3, l4] (.inl 33 :: st) H := rn_nx rfl rfl
set_option maxRecDepth 20000 in
theorem e_M_takesE_57 : rn Ls xs d 159 57 [l0, l1, l2, l3, l4] (.inl y :: .inl x :: st) H = if x ≠ y then rn Ls xs d 159 97 [l0, l1, l2, l3, l4] st H else rn Ls xs d 159 60 [l0, l1, l2, l3, l4] st H := rn_cmp (p := fun x y => x ≠ y) rfl
set_option maxRecDepth 20000 in
theorem e_M_takesE_60 : rn Ls xs d 159 60 [l0, l1, some (.inl x), l3, l4] st H = rn Ls xs d 159 61 [l0, l1, some (.inl x), l3, l4] (.inl x :: st) H := rn_nx rfl rfl
set_option maxRecDepth 20000 in
theorem e_M_takesE_61 : rn Ls xs d 159 61 [l0, l1, l2, l3, l4]  st H = rn Ls xs d 159 63 [l0, l1, l2, l3, l4] (.inl 8 :: st) H := rn_nx rfl rfl
set_option maxRecDepth 20000 in
theorem e_M_takesE_63 : rn Ls xs d 159 63 [l0, l1, l2, l3, l4] (.inl y :: .inl x :: st) H = if y ≤ x then rn Ls xs d 159 97 [l0, l1, l2, l3, l4] st H else rn Ls xs d 159 66 [l0, l1, l2, l3, l4] st H := rn_cmp (p := fun x y => y ≤ x) rfl
set_option maxRecDepth 20000 in
theorem e_M_takesE_66 : rn Ls xs d 159 66 [some (.inr u), l1, l2, l3, l4] st H = rn Ls xs d 159 67 [some (.inr u), l1, l2, l3, l4] (.inr u :: st) H := rn_nx rfl rfl
set_option maxRecDepth 20000 in
theorem e_M_takesE_67 : rn Ls xs d 159 67 [l0, l1, l2, l3, l4] (.inr (.inl (some a)) :: st) (S, I, R) = if h_is S a 9 36 then rn Ls xs d 159 70 [l0, l1, l2, l3, l4] (.inr (R a 21) :: st) (S, I, R) else none := rn_bc rfl rfl
set_option maxRecDepth 20000 in
theorem e_M_takesE_70 : rn Ls xs d 159 70 [some (.inr u), l1, l2, l3, l4] st H = rn Ls xs d 159 71 [some (.inr u), l1, l2, l3, l4] (.inr u :: st) H := rn_nx rfl rfl
set_option maxRecDepth 20000 in
theorem e_M_takesE_71 : rn Ls xs d 159 71 [l0, l1, l2, l3, l4] (.inr (.inl (some a)) :: st) (S, I, R) = if h_is S a 9 36 then rn Ls xs d 159 74 [l0, l1, l2, l3, l4] (.inl (I a 22) :: st) (S, I, R) else none := rn_bc rfl rfl
set_option maxRecDepth 20000 in
theorem e_M_takesE_74 : rn Ls xs d 159 74 [l0, l1, l2, l3, l4]  st H = rn Ls xs d 159 76 [l0, l1, l2, l3, l4] (.inl (-10) :: st) H := rn_nx rfl rfl
set_option maxRecDepth 20000 in
theorem e_M_takesE_76 : rn Ls xs d 159 76 [l0, l1, l2, l3, l4] (.inl x :: .inl i :: .inr (.inl (some a)) :: st) (S, I, R) = if h_ia S a 0 i then rn Ls xs d 159 77 [l0, l1, l2, l3, l4] st (S, va_up I a (upd (I a) i.toNatClampNeg x), R) else none := rn_bc rfl rfl
set_option maxRecDepth 20000 in
theorem e_M_takesE_77 : rn Ls xs d 159 77 [some (.inr u), l1, l2, l3, l4] st H = rn Ls xs d 159 78 [some (.inr u), l1, l2, l3, l4] (.inr u :: st) H := rn_nx rfl rfl
set_option maxRecDepth 20000 in
theorem e_M_takesE_78 : rn Ls xs d 159 78 [l0, l1, l2, l3, l4] (v :: st) H = rn Ls xs d 159 79 [l0, l1, l2, l3, l4] (v :: v :: st) H := rn_nx rfl rfl
set_option maxRecDepth 20000 in
theorem e_M_takesE_79 : rn Ls xs d 159 79 [l0, l1, l2, l3, l4] (.inr (.inl (some a)) :: st) (S, I, R) = if h_is S a 9 36 then rn Ls xs d 159 82 [l0, l1, l2, l3, l4] (.inl (I a 22) :: st) (S, I, R) else none := rn_bc rfl rfl
set_option maxRecDepth 20000 in
theorem e_M_takesE_82 : rn Ls xs d 159 82 [l0, l1, l2, l3, l4]  st H = rn Ls xs d 159 83 [l0, l1, l2, l3, l4] (.inl 1 :: st) H := rn_nx rfl rfl
set_option maxRecDepth 20000 in
theorem e_M_takesE_83 : rn Ls xs d 159 83 [l0, l1, l2, l3, l4] (.inl y :: .inl x :: st) H = rn Ls xs d 159 84 [l0, l1, l2, l3, l4] (.inl (x + y) :: st) H := rn_nx rfl rfl
set_option maxRecDepth 20000 in
theorem e_M_takesE_84 : rn Ls xs d 159 84 [l0, l1, l2, l3, l4] (.inl x :: .inr (.inl (some a)) :: st) (S, I, R) = if h_is S a 9 36 then rn Ls xs d 159 87 [l0, l1, l2, l3, l4] st (S, va_up I a (upd (I a) 22 x), R) else none := rn_bc rfl rfl
set_option maxRecDepth 20000 in
theorem e_M_takesE_87 : rn Ls xs d 159 87 [l0, l1, some (.inl x), l3, l4] st H = rn Ls xs d 159 90 [l0, l1, some (.inl (x + 1)), l3, l4] st H := rn_nx rfl rfl
set_option maxRecDepth 20000 in
theorem e_M_takesE_90 : rn Ls xs d 159 90 [some (.inr u), l1, l2, l3, l4] st H = rn Ls xs d 159 91 [some (.inr u), l1, l2, l3, l4] (.inr u :: st) H := rn_nx rfl rfl
set_option maxRecDepth 20000 in
theorem e_M_takesE_91 : rn Ls xs (d + 1) 159 91 [l0, l1, l2, l3, l4] [(.inr (.inl (some a)))] (S, I, R) = if h_is S a 9 36 then rb Ls xs (d + 1) 159 94 [l0, l1, l2, l3, l4] [] (rn Ls xs d 157 0 [some (.inr (.inl (some a))), none] [] (S, I, R)) else none := rn_callO rfl rfl (Nat.le_of_ble_eq_true rfl) rfl rfl
set_option maxRecDepth 20000 in
theorem e_M_takesE_94 : rn Ls xs d 159 94 [l0, l1, l2, l3, l4] st H = rn Ls xs d 159 172 [l0, l1, l2, l3, l4] st H := rn_nx rfl rfl
set_option maxRecDepth 20000 in
theorem e_M_takesE_97 : rn Ls xs d 159 97 [some (.inr u), l1, l2, l3, l4] st H = rn Ls xs d 159 98 [some (.inr u), l1, l2, l3, l4] (.inr u :: st) H := rn_nx rfl rfl
set_option maxRecDepth 20000 in
theorem e_M_takesE_98 : rn Ls xs d 159 98 [l0, l1, l2, l3, l4] (.inr (.inl (some a)) :: st) (S, I, R) = if h_is S a 9 36 then rn Ls xs d 159 101 [l0, l1, l2, l3, l4] (.inl (I a 12) :: st) (S, I, R) else none := rn_bc rfl rfl
set_option maxRecDepth 20000 in
theorem e_M_takesE_101 : rn Ls xs d 159 101 [l0, l1, l2, l3, l4]  st H = rn Ls xs d 159 102 [l0, l1, l2, l3, l4] (.inl 3 :: st) H := rn_nx rfl rfl
set_option maxRecDepth 20000 in
theorem e_M_takesE_102 : rn Ls xs d 159 102 [l0, l1, l2, l3, l4] (.inl y :: .inl x :: st) H = if x ≠ y then rn Ls xs d 159 158 [l0, l1, l2, l3, l4] st H else rn Ls xs d 159 105 [l0, l1, l2, l3, l4] st H := rn_cmp (p := fun x y => x ≠ y) rfl
set_option maxRecDepth 20000 in
theorem e_M_takesE_105 : rn Ls xs d 159 105 [some (.inr u), l1, l2, l3, l4] st H = rn Ls xs d 159 106 [some (.inr u), l1, l2, l3, l4] (.inr u :: st) H := rn_nx rfl rfl
set_option maxRecDepth 20000 in
theorem e_M_takesE_106 : rn Ls xs d 159 106 [l0, l1, l2, l3, l4] (.inr (.inl (some a)) :: st) (S, I, R) = if h_is S a 9 36 then rn Ls xs d 159 109 [l0, l1, l2, l3, l4] (.inl (I a 13) :: st) (S, I, R) else none := rn_bc rfl rfl
set_option maxRecDepth 20000 in
theorem e_M_takesE_109 : rn Ls xs d 159 109 [l0, l1, l2, l3, l4]  st H = rn Ls xs d 159 111 [l0, l1, l2, l3, l4] (.inl 40 :: st) H := rn_nx rfl rfl
set_option maxRecDepth 20000 in
theorem e_M_takesE_111 : rn Ls xs d 159 111 [l0, l1, l2, l3, l4] (.inl y :: .inl x :: st) H = if x ≠ y then rn Ls xs d 159 158 [l0, l1, l2, l3, l4] st H else rn Ls xs d 159 114 [l0, l1, l2, l3, l4] st H := rn_cmp (p := fun x y => x ≠ y) rfl
set_option maxRecDepth 20000 in
theorem e_M_takesE_114 : rn Ls xs d 159 114 [l0, some (.inl x), l2, l3, l4] st H = rn Ls xs d 159 115 [l0, some (.inl x), l2, l3, l4] (.inl x :: st) H := rn_nx rfl rfl
set_option maxRecDepth 20000 in
theorem e_M_takesE_115 : rn Ls xs d 159 115 [l0, l1, l2, l3, l4]  st H = rn Ls xs d 159 117 [l0, l1, l2, l3, l4] (.inl 8 :: st) H := rn_nx rfl rfl
set_option maxRecDepth 20000 in
theorem e_M_takesE_117 : rn Ls xs d 159 117 [l0, l1, l2, l3, l4] (.inl y :: .inl x :: st) H = if y ≤ x then rn Ls xs d 159 158 [l0, l1, l2, l3, l4] st H else rn Ls xs d 159 120 [l0, l1, l2, l3, l4] st H := rn_cmp (p := fun x y => y ≤ x) rfl
set_option maxRecDepth 20000 in
theorem e_M_takesE_120 : rn Ls xs d 159 120 [some (.inr u), l1, l2, l3, l4] st H = rn Ls xs d 159 121 [some (.inr u), l1, l2, l3, l4] (.inr u :: st) H := rn_nx rfl rfl
set_option maxRecDepth 20000 in
theorem e_M_takesE_121 : rn Ls xs d 159 121 [l0, l1, l2, l3, l4] (.inr (.inl (some a)) :: st) (S, I, R) = if h_is S a 9 36 then rn Ls xs d 159 124 [l0, l1, l2, l3, l4] (.inr (R a 21) :: st) (S, I, R) else none := rn_bc rfl rfl
set_option maxRecDepth 20000 in
theorem e_M_takesE_124 : rn Ls xs d 159 124 [some (.inr u), l1, l2, l3, l4] st H = rn Ls xs d 159 125 [some (.inr u), l1, l2, l3, l4] (.inr u :: st) H := rn_nx rfl rfl
set_option maxRecDepth 20000 in
theorem e_M_takesE_125 : rn Ls xs d 159 125 [l0, l1, l2, l3, l4] (.inr (.inl (some a)) :: st) (S, I, R) = if h_is S a 9 36 then rn Ls xs d 159 128 [l0, l1, l2, l3, l4] (.inl (I a 22) :: st) (S, I, R) else none := rn_bc rfl rfl
set_option maxRecDepth 20000 in
theorem e_M_takesE_128 : rn Ls xs d 159 128 [l0, l1, l2, l3, l4]  st H = rn Ls xs d 159 130 [l0, l1, l2, l3, l4] (.inl (-11) :: st) H := rn_nx rfl rfl
set_option maxRecDepth 20000 in
theorem e_M_takesE_130 : rn Ls xs d 159 130 [l0, l1, l2, l3, l4] (.inl x :: .inl i :: .inr (.inl (some a)) :: st) (S, I, R) = if h_ia S a 0 i then rn Ls xs d 159 131 [l0, l1, l2, l3, l4] st (S, va_up I a (upd (I a) i.toNatClampNeg x), R) else none := rn_bc rfl rfl
set_option maxRecDepth 20000 in
theorem e_M_takesE_131 : rn Ls xs d 159 131 [some (.inr u), l1, l2, l3, l4] st H = rn Ls xs d 159 132 [some (.inr u), l1, l2, l3, l4] (.inr u :: st) H := rn_nx rfl rfl
set_option maxRecDepth 20000 in
theorem e_M_takesE_132 : rn Ls xs d 159 132 [l0, l1, l2, l3, l4] (v :: st) H = rn Ls xs d 159 133 [l0, l1, l2, l3, l4] (v :: v :: st) H := rn_nx rfl rfl
set_option maxRecDepth 20000 in
theorem e_M_takesE_133 : rn Ls xs d 159 133 [l0, l1, l2, l3, l4] (.inr (.inl (some a)) :: st) (S, I, R) = if h_is S a 9 36 then rn Ls xs d 159 136 [l0, l1, l2, l3, l4] (.inl (I a 22) :: st) (S, I, R) else none := rn_bc rfl rfl
set_option maxRecDepth 20000 in
theorem e_M_takesE_136 : rn Ls xs d 159 136 [l0, l1, l2, l3, l4]  st H = rn Ls xs d 159 137 [l0, l1, l2, l3, l4] (.inl 1 :: st) H := rn_nx rfl rfl
set_option maxRecDepth 20000 in
theorem e_M_takesE_137 : rn Ls xs d 159 137 [l0, l1, l2, l3, l4] (.inl y :: .inl x :: st) H = rn Ls xs d 159 138 [l0, l1, l2, l3, l4] (.inl (x + y) :: st) H := rn_nx rfl rfl
set_option maxRecDepth 20000 in
theorem e_M_takesE_138 : rn Ls xs d 159 138 [l0, l1, l2, l3, l4] (.inl x :: .inr (.inl (some a)) :: st) (S, I, R) = if h_is S a 9 36 then rn Ls xs d 159 141 [l0, l1, l2, l3, l4] st (S, va_up I a (upd (I a) 22 x), R) else none := rn_bc rfl rfl
set_option maxRecDepth 20000 in
theorem e_M_takesE_141 : rn Ls xs d 159 141 [l0, some (.inl x), l2, l3, l4] st H = rn Ls xs d 159 144 [l0, some (.inl (x + 1)), l2, l3, l4] st H := rn_nx rfl rfl
set_option maxRecDepth 20000 in
theorem e_M_takesE_144 : rn Ls xs d 159 144 [some (.inr u), l1, l2, l3, l4] st H = rn Ls xs d 159 145 [some (.inr u), l1, l2, l3, l4] (.inr u :: st) H := rn_nx rfl rfl
set_option maxRecDepth 20000 in
theorem e_M_takesE_145 : rn Ls xs d 159 145 [l0, l1, l2, l3, l4] (.inr (.inl (some a)) :: st) (S, I, R) = if h_is S a 9 36 then rn Ls xs d 159 148 [l0, l1, l2, l3, l4] (.inr (R a 23) :: st) (S, I, R) else none := rn_bc rfl rfl
set_option maxRecDepth 20000 in
theorem e_M_takesE_148 : rn Ls xs d 159 148 [l0, some (.inl x), l2, l3, l4] st H = rn Ls xs d 159 149 [l0, some (.inl x), l2, l3, l4] (.inl x :: st) H := rn_nx rfl rfl
set_option maxRecDepth 20000 in
theorem e_M_takesE_149 : rn Ls xs d 159 149 [l0, l1, l2, l3, l4]  st H = rn Ls xs d 159 150 [l0, l1, l2, l3, l4] (.inl 0 :: st) H := rn_nx rfl rfl
set_option maxRecDepth 20000 in
theorem e_M_takesE_150 : rn Ls xs d 159 150 [l0, l1, l2, l3, l4] (.inl x :: .inl i :: .inr (.inl (some a)) :: st) (S, I, R) = if h_ia S a 1 i then rn Ls xs d 159 151 [l0, l1, l2, l3, l4] st (S, va_up I a (upd (I a) i.toNatClampNeg (vp_nar .boolean x)), R) else none := rn_bc rfl rfl
set_option maxRecDepth 20000 in
theorem e_M_takesE_151 : rn Ls xs d 159 151 [some (.inr u), l1, l2, l3, l4] st H = rn Ls xs d 159 152 [some (.inr u), l1, l2, l3, l4] (.inr u :: st) H := rn_nx rfl rfl
set_option maxRecDepth 20000 in
theorem e_M_takesE_152 : rn Ls xs (d + 1) 159 152 [l0, l1, l2, l3, l4] [(.inr (.inl (some a)))] (S, I, R) = if h_is S a 9 36 then rb Ls xs (d + 1) 159 155 [l0, l1, l2, l3, l4] [] (rn Ls xs d 157 0 [some (.inr (.inl (some a))), none] [] (S, I, R)) else none := rn_callO rfl rfl (Nat.le_of_ble_eq_true rfl) rfl rfl
set_option maxRecDepth 20000 in
theorem e_M_takesE_155 : rn Ls xs d 159 155 [l0, l1, l2, l3, l4] st H = rn Ls xs d 159 172 [l0, l1, l2, l3, l4] st H := rn_nx rfl rfl
set_option maxRecDepth 20000 in
theorem e_M_takesE_158 : rn Ls xs d 159 158 [some (.inr u), l1, l2, l3, l4] st H = rn Ls xs d 159 159 [some (.inr u), l1, l2, l3, l4] (.inr u :: st) H := rn_nx rfl rfl
set_option maxRecDepth 20000 in
theorem e_M_takesE_159 : rn Ls xs (d + 1) 159 159 [l0, l1, l2, l3, l4] [(.inr (.inl (some a)))] (S, I, R) = if h_is S a 9 36 then rb Ls xs (d + 1) 159 162 [l0, l1, l2, l3, l4] [] (rn Ls xs d 201 0 [some (.inr (.inl (some a))), none] [] (S, I, R)) else none := rn_callO rfl rfl (Nat.le_of_ble_eq_true rfl) rfl rfl
set_option maxRecDepth 20000 in
theorem e_M_takesE_162 : rn Ls xs d 159 162 [l0, l1, l2, l3, l4] (.inl x :: st) H = if x = 0 then rn Ls xs d 159 170 [l0, l1, l2, l3, l4] st H else rn Ls xs d 159 165 [l0, l1, l2, l3, l4] st H := rn_if (p := fun x => x = 0) rfl
set_option maxRecDepth 20000 in
theorem e_M_takesE_165 : rn Ls xs d 159 165 [l0, l1, l2, l3, l4]  st H = rn Ls xs d 159 166 [l0, l1, l2, l3, l4] (.inl 0 :: st) H := rn_nx rfl rfl
set_option maxRecDepth 20000 in
theorem e_M_takesE_166 : rn Ls xs d 159 166 [l0, l1, l2, l3, l4] (.inl x :: st) H = rn Ls xs d 159 167 [l0, l1, l2, some (.inl x), l4] st H := rn_nx rfl rfl
set_option maxRecDepth 20000 in
theorem e_M_takesE_167 : rn Ls xs d 159 167 [l0, l1, l2, l3, l4] st H = rn Ls xs d 159 172 [l0, l1, l2, l3, l4] st H := rn_nx rfl rfl
set_option maxRecDepth 20000 in
theorem e_M_takesE_170 : rn Ls xs d 159 170 [l0, l1, l2, l3, l4]  st H = rn Ls xs d 159 171 [l0, l1, l2, l3, l4] (.inl 0 :: st) H := rn_nx rfl rfl
set_option maxRecDepth 20000 in
theorem e_M_takesE_171 : rn Ls xs d 159 171 [l0, l1, l2, l3, l4] [.inl x] H = if h_bo x then some (some (.inl x), H) else none := rn_zret rfl
set_option maxRecDepth 20000 in
theorem e_M_takesE_172 : rn Ls xs d 159 172 [some (.inr u), l1, l2, l3, l4] st H = rn Ls xs d 159 173 [some (.inr u), l1, l2, l3, l4] (.inr u :: st) H := rn_nx rfl rfl
set_option maxRecDepth 20000 in
theorem e_M_takesE_173 : rn Ls xs (d + 1) 159 173 [l0, l1, l2, l3, l4] [(.inr (.inl (some a)))] (S, I, R) = if h_is S a 9 36 then rb Ls xs (d + 1) 159 176 [l0, l1, l2, l3, l4] [] (rn Ls xs d 202 0 [some (.inr (.inl (some a))), none, none] [] (S, I, R)) else none := rn_callO rfl rfl (Nat.le_of_ble_eq_true rfl) rfl rfl
set_option maxRecDepth 20000 in
theorem e_M_takesE_176 : rn Ls xs d 159 176 [l0, l1, l2, l3, l4] (.inl x :: st) H = rn Ls xs d 159 177 [l0, l1, some (.inl x), l3, l4] st H := rn_nx rfl rfl
set_option maxRecDepth 20000 in
theorem e_M_takesE_177 : rn Ls xs d 159 177 [l0, l1, l2, l3, l4] st H = rn Ls xs d 159 28 [l0, l1, l2, l3, l4] st H := rn_nx rfl rfl
set_option maxRecDepth 20000 in
theorem e_M_takesE_180 : rn Ls xs d 159 180 [some (.inr u), l1, l2, l3, l4] st H = rn Ls xs d 159 181 [some (.inr u), l1, l2, l3, l4] (.inr u :: st) H := rn_nx rfl rfl
set_option maxRecDepth 20000 in
theorem e_M_takesE_181 : rn Ls xs d 159 181 [l0, l1, l2, l3, l4] (.inr (.inl (some a)) :: st) (S, I, R) = if h_is S a 9 36 then rn Ls xs d 159 184 [l0, l1, l2, l3, l4] (.inl (I a 12) :: st) (S, I, R) else none := rn_bc rfl rfl
set_option maxRecDepth 20000 in
theorem e_M_takesE_184 : rn Ls xs d 159 184 [l0, l1, l2, l3, l4]  st H = rn Ls xs d 159 185 [l0, l1, l2, l3, l4] (.inl 3 :: st) H := rn_nx rfl rfl
set_option maxRecDepth 20000 in
theorem e_M_takesE_185 : rn Ls xs d 159 185 [l0, l1, l2, l3, l4] (.inl y :: .inl x :: st) H = if x ≠ y then rn Ls xs d 159 237 [l0, l1, l2, l3, l4] st H else rn Ls xs d 159 188 [l0, l1, l2, l3, l4] st H := rn_cmp (p := fun x y => x ≠ y) rfl
set_option maxRecDepth 20000 in
theorem e_M_takesE_188 : rn Ls xs d 159 188 [some (.inr u), l1, l2, l3, l4] st H = rn Ls xs d 159 189 [some (.inr u), l1, l2, l3, l4] (.inr u :: st) H := rn_nx rfl rfl
set_option maxRecDepth 20000 in
theorem e_M_takesE_189 : rn Ls xs d 159 189 [l0, l1, l2, l3, l4] (.inr (.inl (some a)) :: st) (S, I, R) = if h_is S a 9 36 then rn Ls xs d 159 192 [l0, l1, l2, l3, l4] (.inl (I a 13) :: st) (S, I, R) else none := rn_bc rfl rfl
set_option maxRecDepth 20000 in
theorem e_M_takesE_192 : rn Ls xs d 159 192 [l0, l1, l2, l3, l4]  st H = rn Ls xs d 159 194 [l0, l1, l2, l3, l4] (.inl 41 :: st) H := rn_nx rfl rfl
set_option maxRecDepth 20000 in
theorem e_M_takesE_194 : rn Ls xs d 159 194 [l0, l1, l2, l3, l4] (.inl y :: .inl x :: st) H = if x ≠ y then rn Ls xs d 159 237 [l0, l1, l2, l3, l4] st H else rn Ls xs d 159 197 [l0, l1, l2, l3, l4] st H := rn_cmp (p := fun x y => x ≠ y) rfl
set_option maxRecDepth 20000 in
theorem e_M_takesE_197 : rn Ls xs d 159 197 [l0, some (.inl x), l2, l3, l4] st H = rn Ls xs d 159 198 [l0, some (.inl x), l2, l3, l4] (.inl x :: st) H := rn_nx rfl rfl
set_option maxRecDepth 20000 in
theorem e_M_takesE_198 : rn Ls xs d 159 198 [l0, l1, l2, l3, l4] (.inl x :: st) H = if x ≤ 0 then rn Ls xs d 159 237 [l0, l1, l2, l3, l4] st H else rn Ls xs d 159 201 [l0, l1, l2, l3, l4] st H := rn_if (p := fun x => x ≤ 0) rfl
set_option maxRecDepth 20000 in
theorem e_M_takesE_201 : rn Ls xs d 159 201 [some (.inr u), l1, l2, l3, l4] st H = rn Ls xs d 159 202 [some (.inr u), l1, l2, l3, l4] (.inr u :: st) H := rn_nx rfl rfl
set_option maxRecDepth 20000 in
theorem e_M_takesE_202 : rn Ls xs d 159 202 [l0, l1, l2, l3, l4]  st H = rn Ls xs d 159 203 [l0, l1, l2, l3, l4] (.inl 0 :: st) H := rn_nx rfl rfl
set_option maxRecDepth 20000 in
theorem e_M_takesE_203 : rn Ls xs (d + 1) 159 203 [l0, l1, l2, l3, l4] [v1, (.inr (.inl (some a)))] (S, I, R) = if h_is S a 9 36 then rb Ls xs (d + 1) 159 206 [l0, l1, l2, l3, l4] [] (rn Ls xs d 203 0 [some (.inr (.inl (some a))), some v1] [] (S, I, R)) else none := rn_callO rfl rfl (Nat.le_of_ble_eq_true rfl) rfl rfl
set_option maxRecDepth 20000 in
theorem e_M_takesE_206 : rn Ls xs d 159 206 [some (.inr u), l1, l2, l3, l4] st H = rn Ls xs d 159 207 [some (.inr u), l1, l2, l3, l4] (.inr u :: st) H := rn_nx rfl rfl
set_option maxRecDepth 20000 in
theorem e_M_takesE_207 : rn Ls xs d 159 207 [l0, l1, l2, l3, l4] (v :: st) H = rn Ls xs d 159 208 [l0, l1, l2, l3, l4] (v :: v :: st) H := rn_nx rfl rfl
set_option maxRecDepth 20000 in
theorem e_M_takesE_208 : rn Ls xs d 159 208 [l0, l1, l2, l3, l4] (.inr (.inl (some a)) :: st) (S, I, R) = if h_is S a 9 36 then rn Ls xs d 159 211 [l0, l1, l2, l3, l4] (.inl (I a 22) :: st) (S, I, R) else none := rn_bc rfl rfl
set_option maxRecDepth 20000 in
theorem e_M_takesE_211 : rn Ls xs d 159 211 [l0, l1, l2, l3, l4]  st H = rn Ls xs d 159 212 [l0, l1, l2, l3, l4] (.inl 1 :: st) H := rn_nx rfl rfl
set_option maxRecDepth 20000 in
theorem e_M_takesE_212 : rn Ls xs d 159 212 [l0, l1, l2, l3, l4] (.inl y :: .inl x :: st) H = rn Ls xs d 159 213 [l0, l1, l2, l3, l4] (.inl (x - y) :: st) H := rn_nx rfl rfl
set_option maxRecDepth 20000 in
theorem e_M_takesE_213 : rn Ls xs d 159 213 [l0, l1, l2, l3, l4] (.inl x :: .inr (.inl (some a)) :: st) (S, I, R) = if h_is S a 9 36 then rn Ls xs d 159 216 [l0, l1, l2, l3, l4] st (S, va_up I a (upd (I a) 22 x), R) else none := rn_bc rfl rfl
set_option maxRecDepth 20000 in
theorem e_M_takesE_216 : rn Ls xs d 159 216 [l0, some (.inl x), l2, l3, l4] st H = rn Ls xs d 159 219 [l0, some (.inl (x + (-1))), l2, l3, l4] st H := rn_nx rfl rfl
set_option maxRecDepth 20000 in
theorem e_M_takesE_219 : rn Ls xs d 159 219 [some (.inr u), l1, l2, l3, l4] st H = rn Ls xs d 159 220 [some (.inr u), l1, l2, l3, l4] (.inr u :: st) H := rn_nx rfl rfl
set_option maxRecDepth 20000 in
theorem e_M_takesE_220 : rn Ls xs d 159 220 [l0, l1, l2, l3, l4]  st H = rn Ls xs d 159 222 [l0, l1, l2, l3, l4] (.inl 6 :: st) H := rn_nx rfl rfl
set_option maxRecDepth 20000 in
theorem e_M_takesE_222 : rn Ls xs (d + 1) 159 222 [l0, l1, l2, l3, l4] [v1, (.inr (.inl (some a)))] (S, I, R) = if h_is S a 9 36 then rb Ls xs (d + 1) 159 225 [l0, l1, l2, l3, l4] [] (rn Ls xs d 203 0 [some (.inr (.inl (some a))), some v1] [] (S, I, R)) else none := rn_callO rfl rfl (Nat.le_of_ble_eq_true rfl) rfl rfl
set_option maxRecDepth 20000 in
theorem e_M_takesE_225 : rn Ls xs d 159 225 [some (.inr u), l1, l2, l3, l4] st H = rn Ls xs d 159 226 [some (.inr u), l1, l2, l3, l4] (.inr u :: st) H := rn_nx rfl rfl
set_option maxRecDepth 20000 in
theorem e_M_takesE_226 : rn Ls xs (d + 1) 159 226 [l0, l1, l2, l3, l4] [(.inr (.inl (some a)))] (S, I, R) = if h_is S a 9 36 then rb Ls xs (d + 1) 159 229 [l0, l1, l2, l3, l4] [] (rn Ls xs d 202 0 [some (.inr (.inl (some a))), none, none] [] (S, I, R)) else none := rn_callO rfl rfl (Nat.le_of_ble_eq_true rfl) rfl rfl
set_option maxRecDepth 20000 in
theorem e_M_takesE_229 : rn Ls xs d 159 229 [l0, l1, l2, l3, l4] (.inl x :: st) H = rn Ls xs d 159 230 [l0, l1, some (.inl x), l3, l4] st H := rn_nx rfl rfl
set_option maxRecDepth 20000 in
theorem e_M_takesE_230 : rn Ls xs d 159 230 [some (.inr u), l1, l2, l3, l4] st H = rn Ls xs d 159 231 [some (.inr u), l1, l2, l3, l4] (.inr u :: st) H := rn_nx rfl rfl
set_option maxRecDepth 20000 in
theorem e_M_takesE_231 : rn Ls xs (d + 1) 159 231 [l0, l1, l2, l3, l4] [(.inr (.inl (some a)))] (S, I, R) = if h_is S a 9 36 then rb Ls xs (d + 1) 159 234 [l0, l1, l2, l3, l4] [] (rn Ls xs d 157 0 [some (.inr (.inl (some a))), none] [] (S, I, R)) else none := rn_callO rfl rfl (Nat.le_of_ble_eq_true rfl) rfl rfl
set_option maxRecDepth 20000 in
theorem e_M_takesE_234 : rn Ls xs d 159 234 [l0, l1, l2, l3, l4] st H = rn Ls xs d 159 28 [l0, l1, l2, l3, l4] st H := rn_nx rfl rfl
set_option maxRecDepth 20000 in
theorem e_M_takesE_237 : rn Ls xs d 159 237 [some (.inr u), l1, l2, l3, l4] st H = rn Ls xs d 159 238 [some (.inr u), l1, l2, l3, l4] (.inr u :: st) H := rn_nx rfl rfl
set_option maxRecDepth 20000 in
theorem e_M_takesE_238 : rn Ls xs (d + 1) 159 238 [l0, l1, l2, l3, l4] [(.inr (.inl (some a)))] (S, I, R) = if h_is S a 9 36 then rb Ls xs (d + 1) 159 241 [l0, l1, l2, l3, l4] [] (rn Ls xs d 204 0 [some (.inr (.inl (some a)))] [] (S, I, R)) else none := rn_callO rfl rfl (Nat.le_of_ble_eq_true rfl) rfl rfl
set_option maxRecDepth 20000 in
theorem e_M_takesE_241 : rn Ls xs d 159 241 [l0, l1, l2, l3, l4] (.inl x :: st) H = rn Ls xs d 159 243 [l0, l1, l2, l3, some (.inl x)] st H := rn_nx rfl rfl
set_option maxRecDepth 20000 in
theorem e_M_takesE_243 : rn Ls xs d 159 243 [l0, l1, l2, l3, some (.inl x)] st H = rn Ls xs d 159 245 [l0, l1, l2, l3, some (.inl x)] (.inl x :: st) H := rn_nx rfl rfl
set_option maxRecDepth 20000 in
theorem e_M_takesE_245 : rn Ls xs d 159 245 [l0, l1, l2, l3, l4] (.inl x :: st) H = if x = 0 then rn Ls xs d 159 266 [l0, l1, l2, l3, l4] st H else rn Ls xs d 159 248 [l0, l1, l2, l3, l4] st H := rn_if (p := fun x => x = 0) rfl
set_option maxRecDepth 20000 in
theorem e_M_takesE_248 : rn Ls xs d 159 248 [l0, l1, l2, l3, some (.inl x)] st H = rn Ls xs d 159 250 [l0, l1, l2, l3, some (.inl x)] (.inl x :: st) H := rn_nx rfl rfl
set_option maxRecDepth 20000 in
theorem e_M_takesE_250 : rn Ls xs (d + 1) 159 250 [l0, l1, l2, l3, l4] [v0] H = rb Ls xs (d + 1) 159 253 [l0, l1, l2, l3, l4] [] (rn Ls xs d 205 0 [some v0] [] H) := rn_call rfl (Nat.le_of_ble_eq_true rfl) (Nat.le_of_ble_eq_true rfl) rfl rfl
set_option maxRecDepth 20000 in
theorem e_M_takesE_253 : rn Ls xs d 159 253 [l0, l1, l2, l3, l4]  st H = rn Ls xs d 159 254 [l0, l1, l2, l3, l4] (.inl 3 :: st) H := rn_nx rfl rfl
set_option maxRecDepth 20000 in
theorem e_M_takesE_254 : rn Ls xs d 159 254 [l0, l1, l2, l3, l4] (.inl y :: .inl x :: st) H = if x ≠ y then rn Ls xs d 159 268 [l0, l1, l2, l3, l4] st H else rn Ls xs d 159 257 [l0, l1, l2, l3, l4] st H := rn_cmp (p := fun x y => x ≠ y) rfl
set_option maxRecDepth 20000 in
theorem e_M_takesE_257 : rn Ls xs d 159 257 [some (.inr u), l1, l2, l3, l4] st H = rn Ls xs d 159 258 [some (.inr u), l1, l2, l3, l4] (.inr u :: st) H := rn_nx rfl rfl
set_option maxRecDepth 20000 in
theorem e_M_takesE_258 : rn Ls xs d 159 258 [l0, l1, l2, l3, l4] (.inr (.inl (some a)) :: st) (S, I, R) = if h_is S a 9 36 then rn Ls xs d 159 261 [l0, l1, l2, l3, l4] (.inr (R a 23) :: st) (S, I, R) else none := rn_bc rfl rfl
set_option maxRecDepth 20000 in
theorem e_M_takesE_261 : rn Ls xs d 159 261 [l0, some (.inl x), l2, l3, l4] st H = rn Ls xs d 159 262 [l0, some (.inl x), l2, l3, l4] (.inl x :: st) H := rn_nx rfl rfl
set_option maxRecDepth 20000 in
theorem e_M_takesE_262 : rn Ls xs d 159 262 [l0, l1, l2, l3, l4] (.inl i :: .inr (.inl (some a)) :: st) (S, I, R) = if h_ia S a 1 i then rn Ls xs d 159 263 [l0, l1, l2, l3, l4] (.inl (I a i.toNatClampNeg) :: st) (S, I, R) else none := rn_bc rfl rfl
set_option maxRecDepth 20000 in
theorem e_M_takesE_263 : rn Ls xs d 159 263 [l0, l1, l2, l3, l4] (.inl x :: st) H = if x = 0 then rn Ls xs d 159 268 [l0, l1, l2, l3, l4] st H else rn Ls xs d 159 266 [l0, l1, l2, l3, l4] st H := rn_if (p := fun x => x = 0) rfl
set_option maxRecDepth 20000 in
theorem e_M_takesE_266 : rn Ls xs d 159 266 [l0, l1, l2, l3, l4]  st H = rn Ls xs d 159 267 [l0, l1, l2, l3, l4] (.inl 0 :: st) H := rn_nx rfl rfl
set_option maxRecDepth 20000 in
theorem e_M_takesE_267 : rn Ls xs d 159 267 [l0, l1, l2, l3, l4] [.inl x] H = if h_bo x then some (some (.inl x), H) else none := rn_zret rfl
set_option maxRecDepth 20000 in
theorem e_M_takesE_268 : rn Ls xs d 159 268 [some (.inr u), l1, l2, l3, l4] st H = rn Ls xs d 159 269 [some (.inr u), l1, l2, l3, l4] (.inr u :: st) H := rn_nx rfl rfl
set_option maxRecDepth 20000 in
theorem e_M_takesE_269 : rn Ls xs d 159 269 [l0, l1, l2, l3, l4] (.inr (.inl (some a)) :: st) (S, I, R) = if h_is S a 9 36 then rn Ls xs d 159 272 [l0, l1, l2, l3, l4] (.inr (R a 23) :: st) (S, I, R) else none := rn_bc rfl rfl
set_option maxRecDepth 20000 in
theorem e_M_takesE_272 : rn Ls xs d 159 272 [l0, some (.inl x), l2, l3, l4] st H = rn Ls xs d 159 273 [l0, some (.inl x), l2, l3, l4] (.inl x :: st) H := rn_nx rfl rfl
set_option maxRecDepth 20000 in
theorem e_M_takesE_273 : rn Ls xs d 159 273 [l0, l1, l2, l3, some (.inl x)] st H = rn Ls xs d 159 275 [l0, l1, l2, l3, some (.inl x)] (.inl x :: st) H := rn_nx rfl rfl
set_option maxRecDepth 20000 in
theorem e_M_takesE_275 : rn Ls xs (d + 1) 159 275 [l0, l1, l2, l3, l4] [v0, v1, v2] H = rb Ls xs (d + 1) 159 278 [l0, l1, l2, l3, l4] [v1, v2] (rn Ls xs d 205 0 [some v0] [] H) := rn_call rfl (Nat.le_of_ble_eq_true rfl) (Nat.le_of_ble_eq_true rfl) rfl rfl
set_option maxRecDepth 20000 in
theorem e_M_takesE_278 : rn Ls xs d 159 278 [l0, l1, l2, l3, l4]  st H = rn Ls xs d 159 279 [l0, l1, l2, l3, l4] (.inl 3 :: st) H := rn_nx rfl rfl
set_option maxRecDepth 20000 in
theorem e_M_takesE_279 : rn Ls xs d 159 279 [l0, l1, l2, l3, l4] (.inl y :: .inl x :: st) H = if x = y then rn Ls xs d 159 300 [l0, l1, l2, l3, l4] st H else rn Ls xs d 159 282 [l0, l1, l2, l3, l4] st H := rn_cmp (p := fun x y => x = y) rfl
set_option maxRecDepth 20000 in
theorem e_M_takesE_282 : rn Ls xs d 159 282 [l0, l1, l2, l3, some (.inl x)] st H = rn Ls xs d 159 284 [l0, l1, l2, l3, some (.inl x)] (.inl x :: st) H := rn_nx rfl rfl
set_option maxRecDepth 20000 in
theorem e_M_takesE_284 : rn Ls xs (d + 1) 159 284 [l0, l1, l2, l3, l4] [v0, v1, v2] H = rb Ls xs (d + 1) 159 287 [l0, l1, l2, l3, l4] [v1, v2] (rn Ls xs d 205 0 [some v0] [] H) := rn_call rfl (Nat.le_of_ble_eq_true rfl) (Nat.le_of_ble_eq_true rfl) rfl rfl
set_option maxRecDepth 20000 in
theorem e_M_takesE_287 : rn Ls xs d 159 287 [l0, l1, l2, l3, l4]  st H = rn Ls xs d 159 288 [l0, l1, l2, l3, l4] (.inl 3 :: st) H := rn_nx rfl rfl
set_option maxRecDepth 20000 in
theorem e_M_takesE_288 : rn Ls xs d 159 288 [l0, l1, l2, l3, l4] (.inl y :: .inl x :: st) H = if x ≤ y then rn Ls xs d 159 304 [l0, l1, l2, l3, l4] st H else rn Ls xs d 159 291 [l0, l1, l2, l3, l4] st H := rn_cmp (p := fun x y => x ≤ y) rfl
set_option maxRecDepth 20000 in
theorem e_M_takesE_291 : rn Ls xs d 159 291 [some (.inr u), l1, l2, l3, l4] st H = rn Ls xs d 159 292 [some (.inr u), l1, l2, l3, l4] (.inr u :: st) H := rn_nx rfl rfl
set_option maxRecDepth 20000 in
theorem e_M_takesE_292 : rn Ls xs d 159 292 [l0, l1, l2, l3, l4] (.inr (.inl (some a)) :: st) (S, I, R) = if h_is S a 9 36 then rn Ls xs d 159 295 [l0, l1, l2, l3, l4] (.inr (R a 23) :: st) (S, I, R) else none := rn_bc rfl rfl
set_option maxRecDepth 20000 in
theorem e_M_takesE_295 : rn Ls xs d 159 295 [l0, some (.inl x), l2, l3, l4] st H = rn Ls xs d 159 296 [l0, some (.inl x), l2, l3, l4] (.inl x :: st) H := rn_nx rfl rfl
set_option maxRecDepth 20000 in
theorem e_M_takesE_296 : rn Ls xs d 159 296 [l0, l1, l2, l3, l4] (.inl i :: .inr (.inl (some a)) :: st) (S, I, R) = if h_ia S a 1 i then rn Ls xs d 159 297 [l0, l1, l2, l3, l4] (.inl (I a i.toNatClampNeg) :: st) (S, I, R) else none := rn_bc rfl rfl
set_option maxRecDepth 20000 in
theorem e_M_takesE_297 : rn Ls xs d 159 297 [l0, l1, l2, l3, l4] (.inl x :: st) H = if x = 0 then rn Ls xs d 159 304 [l0, l1, l2, l3, l4] st H else rn Ls xs d 159 300 [l0, l1, l2, l3, l4] st H := rn_if (p := fun x => x = 0) rfl
set_option maxRecDepth 20000 in
theorem e_M_takesE_300 : rn Ls xs d 159 300 [l0, l1, l2, l3, l4]  st H = rn Ls xs d 159 301 [l0, l1, l2, l3, l4] (.inl 1 :: st) H := rn_nx rfl rfl
set_option maxRecDepth 20000 in
theorem e_M_takesE_301 : rn Ls xs d 159 301 [l0, l1, l2, l3, l4] st H = rn Ls xs d 159 305 [l0, l1, l2, l3, l4] st H := rn_nx rfl rfl
set_option maxRecDepth 20000 in
theorem e_M_takesE_304 : rn Ls xs d 159 304 [l0, l1, l2, l3, l4]  st H = rn Ls xs d 159 305 [l0, l1, l2, l3, l4] (.inl 0 :: st) H := rn_nx rfl rfl
set_option maxRecDepth 20000 in
theorem e_M_takesE_305 : rn Ls xs d 159 305 [l0, l1, l2, l3, l4] (.inl x :: .inl i :: .inr (.inl (some a)) :: st) (S, I, R) = if h_ia S a 1 i then rn Ls xs d 159 306 [l0, l1, l2, l3, l4] st (S, va_up I a (upd (I a) i.toNatClampNeg (vp_nar .boolean x)), R) else none := rn_bc rfl rfl
set_option maxRecDepth 20000 in
theorem e_M_takesE_306 : rn Ls xs d 159 306 [some (.inr u), l1, l2, l3, l4] st H = rn Ls xs d 159 307 [some (.inr u), l1, l2, l3, l4] (.inr u :: st) H := rn_nx rfl rfl
set_option maxRecDepth 20000 in
theorem e_M_takesE_307 : rn Ls xs d 159 307 [l0, l1, l2, l3, some (.inl x)] st H = rn Ls xs d 159 309 [l0, l1, l2, l3, some (.inl x)] (.inl x :: st) H := rn_nx rfl rfl
set_option maxRecDepth 20000 in
theorem e_M_takesE_309 : rn Ls xs (d + 1) 159 309 [l0, l1, l2, l3, l4] [v0, v1] H = rb Ls xs (d + 1) 159 312 [l0, l1, l2, l3, l4] [v1] (rn Ls xs d 205 0 [some v0] [] H) := rn_call rfl (Nat.le_of_ble_eq_true rfl) (Nat.le_of_ble_eq_true rfl) rfl rfl
set_option maxRecDepth 20000 in
theorem e_M_takesE_312 : rn Ls xs (d + 1) 159 312 [l0, l1, l2, l3, l4] [v1, (.inr (.inl (some a)))] (S, I, R) = if h_is S a 9 36 then rb Ls xs (d + 1) 159 315 [l0, l1, l2, l3, l4] [] (rn Ls xs d 203 0 [some (.inr (.inl (some a))), some v1] [] (S, I, R)) else none := rn_callO rfl rfl (Nat.le_of_ble_eq_true rfl) rfl rfl
set_option maxRecDepth 20000 in
theorem e_M_takesE_315 : rn Ls xs d 159 315 [some (.inr u), l1, l2, l3, l4] st H = rn Ls xs d 159 316 [some (.inr u), l1, l2, l3, l4] (.inr u :: st) H := rn_nx rfl rfl
set_option maxRecDepth 20000 in
theorem e_M_takesE_316 : rn Ls xs d 159 316 [l0, l1, l2, l3, l4] (.inr (.inl (some a)) :: st) (S, I, R) = if h_is S a 9 36 then rn Ls xs d 159 319 [l0, l1, l2, l3, l4] (.inr (R a 21) :: st) (S, I, R) else none := rn_bc rfl rfl
set_option maxRecDepth 20000 in
theorem e_M_takesE_319 : rn Ls xs d 159 319 [some (.inr u), l1, l2, l3, l4] st H = rn Ls xs d 159 320 [some (.inr u), l1, l2, l3, l4] (.inr u :: st) H := rn_nx rfl rfl
set_option maxRecDepth 20000 in
theorem e_M_takesE_320 : rn Ls xs d 159 320 [l0, l1, l2, l3, l4] (.inr (.inl (some a)) :: st) (S, I, R) = if h_is S a 9 36 then rn Ls xs d 159 323 [l0, l1, l2, l3, l4] (.inl (I a 22) :: st) (S, I, R) else none := rn_bc rfl rfl
set_option maxRecDepth 20000 in
theorem e_M_takesE_323 : rn Ls xs d 159 323 [l0, l1, l2, l3, some (.inl x)] st H = rn Ls xs d 159 325 [l0, l1, l2, l3, some (.inl x)] (.inl x :: st) H := rn_nx rfl rfl
set_option maxRecDepth 20000 in
theorem e_M_takesE_325 : rn Ls xs d 159 325 [l0, l1, l2, l3, l4] (.inl x :: .inl i :: .inr (.inl (some a)) :: st) (S, I, R) = if h_ia S a 0 i then rn Ls xs d 159 326 [l0, l1, l2, l3, l4] st (S, va_up I a (upd (I a) i.toNatClampNeg x), R) else none := rn_bc rfl rfl
set_option maxRecDepth 20000 in
theorem e_M_takesE_326 : rn Ls xs d 159 326 [some (.inr u), l1, l2, l3, l4] st H = rn Ls xs d 159 327 [some (.inr u), l1, l2, l3, l4] (.inr u :: st) H := rn_nx rfl rfl
set_option maxRecDepth 20000 in
theorem e_M_takesE_327 : rn Ls xs d 159 327 [l0, l1, l2, l3, l4] (v :: st) H = rn Ls xs d 159 328 [l0, l1, l2, l3, l4] (v :: v :: st) H := rn_nx rfl rfl
set_option maxRecDepth 20000 in
theorem e_M_takesE_328 : rn Ls xs d 159 328 [l0, l1, l2, l3, l4] (.inr (.inl (some a)) :: st) (S, I, R) = if h_is S a 9 36 then rn Ls xs d 159 331 [l0, l1, l2, l3, l4] (.inl (I a 22) :: st) (S, I, R) else none := rn_bc rfl rfl
set_option maxRecDepth 20000 in
theorem e_M_takesE_331 : rn Ls xs d 159 331 [l0, l1, l2, l3, l4]  st H = rn Ls xs d 159 332 [l0, l1, l2, l3, l4] (.inl 1 :: st) H := rn_nx rfl rfl
set_option maxRecDepth 20000 in
theorem e_M_takesE_332 : rn Ls xs d 159 332 [l0, l1, l2, l3, l4] (.inl y :: .inl x :: st) H = rn Ls xs d 159 333 [l0, l1, l2, l3, l4] (.inl (x + y) :: st) H := rn_nx rfl rfl
set_option maxRecDepth 20000 in
theorem e_M_takesE_333 : rn Ls xs d 159 333 [l0, l1, l2, l3, l4] (.inl x :: .inr (.inl (some a)) :: st) (S, I, R) = if h_is S a 9 36 then rn Ls xs d 159 336 [l0, l1, l2, l3, l4] st (S, va_up I a (upd (I a) 22 x), R) else none := rn_bc rfl rfl
set_option maxRecDepth 20000 in
theorem e_M_takesE_336 : rn Ls xs d 159 336 [l0, l1, l2, l3, l4]  st H = rn Ls xs d 159 337 [l0, l1, l2, l3, l4] (.inl 1 :: st) H := rn_nx rfl rfl
set_option maxRecDepth 20000 in
theorem e_M_takesE_337 : rn Ls xs d 159 337 [l0, l1, l2, l3, l4] (.inl x :: st) H = rn Ls xs d 159 338 [l0, l1, l2, some (.inl x), l4] st H := rn_nx rfl rfl
set_option maxRecDepth 20000 in
theorem e_M_takesE_338 : rn Ls xs d 159 338 [some (.inr u), l1, l2, l3, l4] st H = rn Ls xs d 159 339 [some (.inr u), l1, l2, l3, l4] (.inr u :: st) H := rn_nx rfl rfl
set_option maxRecDepth 20000 in
theorem e_M_takesE_339 : rn Ls xs (d + 1) 159 339 [l0, l1, l2, l3, l4] [(.inr (.inl (some a)))] (S, I, R) = if h_is S a 9 36 then rb Ls xs (d + 1) 159 342 [l0, l1, l2, l3, l4] [] (rn Ls xs d 157 0 [some (.inr (.inl (some a))), none] [] (S, I, R)) else none := rn_callO rfl rfl (Nat.le_of_ble_eq_true rfl) rfl rfl
set_option maxRecDepth 20000 in
theorem e_M_takesE_342 : rn Ls xs d 159 342 [l0, l1, l2, l3, l4] st H = rn Ls xs d 159 28 [l0, l1, l2, l3, l4] st H := rn_nx rfl rfl
set_option maxRecDepth 20000 in
theorem e_M_takesE_345 : rn Ls xs d 159 345 [some (.inr u), l1, l2, l3, l4] st H = rn Ls xs d 159 346 [some (.inr u), l1, l2, l3, l4] (.inr u :: st) H := rn_nx rfl rfl
set_option maxRecDepth 20000 in
theorem e_M_takesE_346 : rn Ls xs d 159 346 [l0, l1, l2, l3, l4]  st H = rn Ls xs d 159 347 [l0, l1, l2, l3, l4] (.inl 0 :: st) H := rn_nx rfl rfl
set_option maxRecDepth 20000 in
theorem e_M_takesE_347 : rn Ls xs (d + 1) 159 347 [l0, l1, l2, l3, l4] [v1, (.inr (.inl (some a)))] (S, I, R) = if h_is S a 9 36 then rb Ls xs (d + 1) 159 350 [l0, l1, l2, l3, l4] [] (rn Ls xs d 203 0 [some (.inr (.inl (some a))), some v1] [] (S, I, R)) else none := rn_callO rfl rfl (Nat.le_of_ble_eq_true rfl) rfl rfl
set_option maxRecDepth 20000 in
theorem e_M_takesE_350 : rn Ls xs d 159 350 [l0, some (.inl x), l2, l3, l4] st H = rn Ls xs d 159 351 [l0, some (.inl x), l2, l3, l4] (.inl x :: st) H := rn_nx rfl rfl
set_option maxRecDepth 20000 in
theorem e_M_takesE_351 : rn Ls xs d 159 351 [l0, l1, l2, l3, l4] (.inl x :: st) H = if x ≠ 0 then rn Ls xs d 159 358 [l0, l1, l2, l3, l4] st H else rn Ls xs d 159 354 [l0, l1, l2, l3, l4] st H := rn_if (p := fun x => x ≠ 0) rfl
set_option maxRecDepth 20000 in
theorem e_M_takesE_354 : rn Ls xs d 159 354 [l0, l1, l2, l3, l4]  st H = rn Ls xs d 159 355 [l0, l1, l2, l3, l4] (.inl 1 :: st) H := rn_nx rfl rfl
set_option maxRecDepth 20000 in
theorem e_M_takesE_355 : rn Ls xs d 159 355 [l0, l1, l2, l3, l4] st H = rn Ls xs d 159 359 [l0, l1, l2, l3, l4] st H := rn_nx rfl rfl
set_option maxRecDepth 20000 in
theorem e_M_takesE_358 : rn Ls xs d 159 358 [l0, l1, l2, l3, l4]  st H = rn Ls xs d 159 359 [l0, l1, l2, l3, l4] (.inl 0 :: st) H := rn_nx rfl rfl
set_option maxRecDepth 20000 in
theorem e_M_takesE_359 : rn Ls xs d 159 359 [l0, l1, l2, l3, l4] [.inl x] H = if h_bo x then some (some (.inl x), H) else none := rn_zret rfl
theorem e_H_becomeBlank_0 : rn Ls xs d 160 0 [some (.inr u), l1, l2] st H = rn Ls xs d 160 1 [some (.inr u), l1, l2] (.inr u :: st) H := rn_nx rfl rfl
theorem e_H_becomeBlank_1 : rn Ls xs d 160 1 [l0, some (.inl x), l2] st H = rn Ls xs d 160 2 [l0, some (.inl x), l2] (.inl x :: st) H := rn_nx rfl rfl
theorem e_H_becomeBlank_2 : rn Ls xs d 160 2 [l0, l1, l2] (.inl x :: .inr (.inl (some a)) :: st) (S, I, R) = if h_is S a 2 3 then rn Ls xs d 160 5 [l0, l1, l2] st (S, va_up I a (upd (I a) 1 x), R) else none := rn_bc rfl rfl
theorem e_H_becomeBlank_5 : rn Ls xs d 160 5 [some (.inr u), l1, l2] st H = rn Ls xs d 160 6 [some (.inr u), l1, l2] (.inr u :: st) H := rn_nx rfl rfl
theorem e_H_becomeBlank_6 : rn Ls xs d 160 6 [l0, l1, some (.inl x)] st H = rn Ls xs d 160 7 [l0, l1, some (.inl x)] (.inl x :: st) H := rn_nx rfl rfl
theorem e_H_becomeBlank_7 : rn Ls xs d 160 7 [l0, l1, l2] (.inl x :: .inr (.inl (some a)) :: st) (S, I, R) = if h_is S a 2 3 then rn Ls xs d 160 10 [l0, l1, l2] st (S, va_up I a (upd (I a) 2 x), R) else none := rn_bc rfl rfl
theorem e_H_becomeBlank_10 : rn Ls xs d 160 10 [some (.inr u), l1, l2] st H = rn Ls xs d 160 11 [some (.inr u), l1, l2] (.inr u :: st) H := rn_nx rfl rfl
theorem e_H_becomeBlank_11 : rn Ls xs d 160 11 [l0, l1, l2] (.inr (.inl (some a)) :: st) (S, I, R) = if h_is S a 2 3 then rn Ls xs d 160 14 [l0, l1, l2] (.inr (R a 0) :: st) (S, I, R) else none := rn_bc rfl rfl
theorem e_H_becomeBlank_14 : rn Ls xs d 160 14 [l0, l1, l2]  st H = rn Ls xs d 160 15 [l0, l1, l2] (.inl 0 :: st) H := rn_nx rfl rfl
theorem e_H_becomeBlank_15 : rn Ls xs (d + 1) 160 15 [l0, l1, l2] [v1, v0] H = rb Ls xs (d + 1) 160 18 [l0, l1, l2] [] (rn Ls xs d 182 0 [some v0, some v1, none, none] [] H) := rn_call rfl (Nat.le_of_ble_eq_true rfl) (Nat.le_of_ble_eq_true rfl) rfl rfl
theorem e_H_becomeBlank_18 : rn Ls xs d 160 18 [l0, l1, l2] [] H = some (none, H) := rn_done rfl rfl
theorem e_H_hasPlace_0 : rn Ls xs d 161 0 [l0, some (.inl x)] st H = rn Ls xs d 161 1 [l0, some (.inl x)] (.inl x :: st) H := rn_nx rfl rfl
theorem e_H_hasPlace_1 : rn Ls xs d 161 1 [l0, l1]  st H = rn Ls xs d 161 2 [l0, l1] (.inl 0 :: st) H := rn_nx rfl rfl
theorem e_H_hasPlace_2 : rn Ls xs d 161 2 [some (.inr u), l1] st H = rn Ls xs d 161 3 [some (.inr u), l1] (.inr u :: st) H := rn_nx rfl rfl
theorem e_H_hasPlace_3 : rn Ls xs d 161 3 [l0, l1] (.inr (.inl (some a)) :: st) (S, I, R) = if h_is S a 2 3 then rn Ls xs d 161 6 [l0, l1] (.inl (I a 2) :: st) (S, I, R) else none := rn_bc rfl rfl
theorem e_H_hasPlace_6 : rn Ls xs d 161 6 [l0, l1]  st H = rn Ls xs d 161 7 [l0, l1] (.inl 1 :: st) H := rn_nx rfl rfl
theorem e_H_hasPlace_7 : rn Ls xs d 161 7 [l0, l1] (.inl y :: .inl x :: st) H = rn Ls xs d 161 8 [l0, l1] (.inl (x - y) :: st) H := rn_nx rfl rfl
theorem e_H_hasPlace_8 : rn Ls xs (d + 1) 161 8 [l0, l1] [v2, v1, v0] H = rb Ls xs (d + 1) 161 11 [l0, l1] [] (rn Ls xs d 94 0 [some v0, some v1, some v2] [] H) := rn_call rfl (Nat.le_of_ble_eq_true rfl) (Nat.le_of_ble_eq_true rfl) rfl rfl
theorem e_H_hasPlace_11 : rn Ls xs d 161 11 [l0, l1] [.inl x] H = if h_bo x then some (some (.inl x), H) else none := rn_zret rfl
theorem e_H_hasNumber_0 : rn Ls xs d 162 0 [some (.inr u), l1] st H = rn Ls xs d 162 1 [some (.inr u), l1] (.inr u :: st) H := rn_nx rfl rfl
theorem e_H_hasNumber_1 : rn Ls xs d 162 1 [l0, some (.inl x)] st H = rn Ls xs d 162 2 [l0, some (.inl x)] (.inl x :: st) H := rn_nx rfl rfl
theorem e_H_hasNumber_2 : rn Ls xs (d + 1) 162 2 [l0, l1] [v1, (.inr (.inl (some a)))] (S, I, R) = if h_is S a 2 3 then rb Ls xs (d + 1) 162 5 [l0, l1] [] (rn Ls xs d 161 0 [some (.inr (.inl (some a))), some v1] [] (S, I, R)) else none := rn_callO rfl rfl (Nat.le_of_ble_eq_true rfl) rfl rfl
theorem e_H_hasNumber_5 : rn Ls xs d 162 5 [l0, l1] (.inl x :: st) H = if x = 0 then rn Ls xs d 162 23 [l0, l1] st H else rn Ls xs d 162 8 [l0, l1] st H := rn_if (p := fun x => x = 0) rfl
theorem e_H_hasNumber_8 : rn Ls xs d 162 8 [some (.inr u), l1] st H = rn Ls xs d 162 9 [some (.inr u), l1] (.inr u :: st) H := rn_nx rfl rfl
theorem e_H_hasNumber_9 : rn Ls xs d 162 9 [l0, l1] (.inr (.inl (some a)) :: st) (S, I, R) = if h_is S a 2 3 then rn Ls xs d 162 12 [l0, l1] (.inr (R a 0) :: st) (S, I, R) else none := rn_bc rfl rfl
theorem e_H_hasNumber_12 : rn Ls xs d 162 12 [l0, some (.inl x)] st H = rn Ls xs d 162 13 [l0, some (.inl x)] (.inl x :: st) H := rn_nx rfl rfl
theorem e_H_hasNumber_13 : rn Ls xs d 162 13 [l0, l1] (.inl i :: .inr (.inl (some a)) :: st) (S, I, R) = if h_ia S a 0 i then rn Ls xs d 162 14 [l0, l1] (.inl (I a i.toNatClampNeg) :: st) (S, I, R) else none := rn_bc rfl rfl
theorem e_H_hasNumber_14 : rn Ls xs d 162 14 [l0, l1]  st H = rn Ls xs d 162 16 [l0, l1] (.inl (-1000000005) :: st) H := rn_nx rfl rfl
theorem e_H_hasNumber_16 : rn Ls xs d 162 16 [l0, l1] (.inl y :: .inl x :: st) H = if x = y then rn Ls xs d 162 23 [l0, l1] st H else rn Ls xs d 162 19 [l0, l1] st H := rn_cmp (p := fun x y => x = y) rfl
theorem e_H_hasNumber_19 : rn Ls xs d 162 19 [l0, l1]  st H = rn Ls xs d 162 20 [l0, l1] (.inl 1 :: st) H := rn_nx rfl rfl
theorem e_H_hasNumber_20 : rn Ls xs d 162 20 [l0, l1] st H = rn Ls xs d 162 24 [l0, l1] st H := rn_nx rfl rfl
theorem e_H_hasNumber_23 : rn Ls xs d 162 23 [l0, l1]  st H = rn Ls xs d 162 24 [l0, l1] (.inl 0 :: st) H := rn_nx rfl rfl
theorem e_H_hasNumber_24 : rn Ls xs d 162 24 [l0, l1] [.inl x] H = if h_bo x then some (some (.inl x), H) else none := rn_zret rfl
theorem e_W_held_0 : rn Ls xs d 163 0 [l0, some (.inl x), l2] st H = rn Ls xs d 163 1 [l0, some (.inl x), l2] (.inl x :: st) H := rn_nx rfl rfl
theorem e_W_held_1 : rn Ls xs d 163 1 [some (.inl x), l1, l2] st H = rn Ls xs d 163 2 [some (.inl x), l1, l2] (.inl x :: st) H := rn_nx rfl rfl
theorem e_W_held_2 : rn Ls xs d 163 2 [l0, l1, some (.inl x)] st H = rn Ls xs d 163 3 [l0, l1, some (.inl x)] (.inl x :: st) H := rn_nx rfl rfl
theorem e_W_held_3 : rn Ls xs (d + 1) 163 3 [l0, l1, l2] [v1, v0, v2] H = rb Ls xs (d + 1) 163 6 [l0, l1, l2] [v2] (rn Ls xs d 116 0 [some v0, some v1] [] H) := rn_call rfl (Nat.le_of_ble_eq_true rfl) (Nat.le_of_ble_eq_true rfl) rfl rfl
theorem e_W_held_6 : rn Ls xs (d + 1) 163 6 [l0, l1, l2] [v1, v0] H = rb Ls xs (d + 1) 163 9 [l0, l1, l2] [] (rn Ls xs d 206 0 [some v0, some v1] [] H) := rn_call rfl (Nat.le_of_ble_eq_true rfl) (Nat.le_of_ble_eq_true rfl) rfl rfl
theorem e_W_held_9 : rn Ls xs d 163 9 [l0, l1, l2] [.inl x] H = some (some (.inl x), H) := rn_done rfl rfl
theorem e_H_hasPlaces_0 : rn Ls xs d 164 0 [l0, l1, some (.inl x)] st H = rn Ls xs d 164 1 [l0, l1, some (.inl x)] (.inl x :: st) H := rn_nx rfl rfl
theorem e_H_hasPlaces_1 : rn Ls xs d 164 1 [l0, l1, l2] (.inl x :: st) H = if x < 0 then rn Ls xs d 164 30 [l0, l1, l2] st H else rn Ls xs d 164 4 [l0, l1, l2] st H := rn_if (p := fun x => x < 0) rfl
theorem e_H_hasPlaces_4 : rn Ls xs d 164 4 [l0, some (.inl x), l2] st H = rn Ls xs d 164 5 [l0, some (.inl x), l2] (.inl x :: st) H := rn_nx rfl rfl
theorem e_H_hasPlaces_5 : rn Ls xs d 164 5 [l0, l1, l2]  st H = rn Ls xs d 164 6 [l0, l1, l2] (.inl 0 :: st) H := rn_nx rfl rfl
theorem e_H_hasPlaces_6 : rn Ls xs d 164 6 [some (.inr u), l1, l2] st H = rn Ls xs d 164 7 [some (.inr u), l1, l2] (.inr u :: st) H := rn_nx rfl rfl
theorem e_H_hasPlaces_7 : rn Ls xs d 164 7 [l0, l1, l2] (.inr (.inl (some a)) :: st) (S, I, R) = if h_is S a 2 3 then rn Ls xs d 164 10 [l0, l1, l2] (.inl (I a 2) :: st) (S, I, R) else none := rn_bc rfl rfl
theorem e_H_hasPlaces_10 : rn Ls xs (d + 1) 164 10 [l0, l1, l2] [v2, v1, v0] H = rb Ls xs (d + 1) 164 13 [l0, l1, l2] [] (rn Ls xs d 94 0 [some v0, some v1, some v2] [] H) := rn_call rfl (Nat.le_of_ble_eq_true rfl) (Nat.le_of_ble_eq_true rfl) rfl rfl
theorem e_H_hasPlaces_13 : rn Ls xs d 164 13 [l0, l1, l2] (.inl x :: st) H = if x = 0 then rn Ls xs d 164 30 [l0, l1, l2] st H else rn Ls xs d 164 16 [l0, l1, l2] st H := rn_if (p := fun x => x = 0) rfl
theorem e_H_hasPlaces_16 : rn Ls xs d 164 16 [l0, l1, some (.inl x)] st H = rn Ls xs d 164 17 [l0, l1, some (.inl x)] (.inl x :: st) H := rn_nx rfl rfl
theorem e_H_hasPlaces_17 : rn Ls xs d 164 17 [some (.inr u), l1, l2] st H = rn Ls xs d 164 18 [some (.inr u), l1, l2] (.inr u :: st) H := rn_nx rfl rfl
theorem e_H_hasPlaces_18 : rn Ls xs d 164 18 [l0, l1, l2] (.inr (.inl (some a)) :: st) (S, I, R) = if h_is S a 2 3 then rn Ls xs d 164 21 [l0, l1, l2] (.inl (I a 2) :: st) (S, I, R) else none := rn_bc rfl rfl
theorem e_H_hasPlaces_21 : rn Ls xs d 164 21 [l0, some (.inl x), l2] st H = rn Ls xs d 164 22 [l0, some (.inl x), l2] (.inl x :: st) H := rn_nx rfl rfl
theorem e_H_hasPlaces_22 : rn Ls xs d 164 22 [l0, l1, l2] (.inl y :: .inl x :: st) H = rn Ls xs d 164 23 [l0, l1, l2] (.inl (x - y) :: st) H := rn_nx rfl rfl
theorem e_H_hasPlaces_23 : rn Ls xs d 164 23 [l0, l1, l2] (.inl y :: .inl x :: st) H = if y < x then rn Ls xs d 164 30 [l0, l1, l2] st H else rn Ls xs d 164 26 [l0, l1, l2] st H := rn_cmp (p := fun x y => y < x) rfl
theorem e_H_hasPlaces_26 : rn Ls xs d 164 26 [l0, l1, l2]  st H = rn Ls xs d 164 27 [l0, l1, l2] (.inl 1 :: st) H := rn_nx rfl rfl
theorem e_H_hasPlaces_27 : rn Ls xs d 164 27 [l0, l1, l2] st H = rn Ls xs d 164 31 [l0, l1, l2] st H := rn_nx rfl rfl
theorem e_H_hasPlaces_30 : rn Ls xs d 164 30 [l0, l1, l2]  st H = rn Ls xs d 164 31 [l0, l1, l2] (.inl 0 :: st) H := rn_nx rfl rfl
theorem e_H_hasPlaces_31 : rn Ls xs d 164 31 [l0, l1, l2] [.inl x] H = if h_bo x then some (some (.inl x), H) else none := rn_zret rfl
theorem e_W_isSlot_0 : rn Ls xs d 165 0 [some (.inl x)] st H = rn Ls xs d 165 1 [some (.inl x)] (.inl x :: st) H := rn_nx rfl rfl
theorem e_W_isSlot_1 : rn Ls xs d 165 1 [l0]  st H = rn Ls xs d 165 2 [l0] (.inl 0 :: st) H := rn_nx rfl rfl
theorem e_W_isSlot_2 : rn Ls xs d 165 2 [l0]  st H = rn Ls xs d 165 3 [l0] (.inl 4 :: st) H := rn_nx rfl rfl
theorem e_W_isSlot_3 : rn Ls xs (d + 1) 165 3 [l0] [v2, v1, v0] H = rb Ls xs (d + 1) 165 6 [l0] [] (rn Ls xs d 94 0 [some v0, some v1, some v2] [] H) := rn_call rfl (Nat.le_of_ble_eq_true rfl) (Nat.le_of_ble_eq_true rfl) rfl rfl
theorem e_W_isSlot_6 : rn Ls xs d 165 6 [l0] [.inl x] H = if h_bo x then some (some (.inl x), H) else none := rn_zret rfl
theorem e_K_becomeAs_0 : rn Ls xs d 166 0 [some (.inr u), l1] st H = rn Ls xs d 166 1 [some (.inr u), l1] (.inr u :: st) H := rn_nx rfl rfl
theorem e_K_becomeAs_1 : rn Ls xs d 166 1 [l0, some (.inr u)] st H = rn Ls xs d 166 2 [l0, some (.inr u)] (.inr u :: st) H := rn_nx rfl rfl
theorem e_K_becomeAs_2 : rn Ls xs d 166 2 [l0, l1] (.inr (.inl (some a)) :: st) (S, I, R) = if h_is S a 7 6 then rn Ls xs d 166 5 [l0, l1] (.inl (I a 0) :: st) (S, I, R) else none := rn_bc rfl rfl
theorem e_K_becomeAs_5 : rn Ls xs d 166 5 [l0, l1] (.inl x :: .inr (.inl (some a)) :: st) (S, I, R) = if h_is S a 7 6 then rn Ls xs d 166 8 [l0, l1] st (S, va_up I a (upd (I a) 0 x), R) else none := rn_bc rfl rfl
theorem e_K_becomeAs_8 : rn Ls xs d 166 8 [some (.inr u), l1] st H = rn Ls xs d 166 9 [some (.inr u), l1] (.inr u :: st) H := rn_nx rfl rfl
theorem e_K_becomeAs_9 : rn Ls xs d 166 9 [l0, some (.inr u)] st H = rn Ls xs d 166 10 [l0, some (.inr u)] (.inr u :: st) H := rn_nx rfl rfl
theorem e_K_becomeAs_10 : rn Ls xs d 166 10 [l0, l1] (.inr (.inl (some a)) :: st) (S, I, R) = if h_is S a 7 6 then rn Ls xs d 166 13 [l0, l1] (.inl (I a 1) :: st) (S, I, R) else none := rn_bc rfl rfl
theorem e_K_becomeAs_13 : rn Ls xs d 166 13 [l0, l1] (.inl x :: .inr (.inl (some a)) :: st) (S, I, R) = if h_is S a 7 6 then rn Ls xs d 166 16 [l0, l1] st (S, va_up I a (upd (I a) 1 x), R) else none := rn_bc rfl rfl
theorem e_K_becomeAs_16 : rn Ls xs d 166 16 [some (.inr u), l1] st H = rn Ls xs d 166 17 [some (.inr u), l1] (.inr u :: st) H := rn_nx rfl rfl
theorem e_K_becomeAs_17 : rn Ls xs d 166 17 [l0, some (.inr u)] st H = rn Ls xs d 166 18 [l0, some (.inr u)] (.inr u :: st) H := rn_nx rfl rfl
theorem e_K_becomeAs_18 : rn Ls xs d 166 18 [l0, l1] (.inr (.inl (some a)) :: st) (S, I, R) = if h_is S a 7 6 then rn Ls xs d 166 21 [l0, l1] (.inl (I a 2) :: st) (S, I, R) else none := rn_bc rfl rfl
theorem e_K_becomeAs_21 : rn Ls xs d 166 21 [l0, l1] (.inl x :: .inr (.inl (some a)) :: st) (S, I, R) = if h_is S a 7 6 then rn Ls xs d 166 24 [l0, l1] st (S, va_up I a (upd (I a) 2 x), R) else none := rn_bc rfl rfl
theorem e_K_becomeAs_24 : rn Ls xs d 166 24 [some (.inr u), l1] st H = rn Ls xs d 166 25 [some (.inr u), l1] (.inr u :: st) H := rn_nx rfl rfl
theorem e_K_becomeAs_25 : rn Ls xs d 166 25 [l0, some (.inr u)] st H = rn Ls xs d 166 26 [l0, some (.inr u)] (.inr u :: st) H := rn_nx rfl rfl
theorem e_K_becomeAs_26 : rn Ls xs d 166 26 [l0, l1] (.inr (.inl (some a)) :: st) (S, I, R) = if h_is S a 7 6 then rn Ls xs d 166 29 [l0, l1] (.inl (I a 3) :: st) (S, I, R) else none := rn_bc rfl rfl
theorem e_K_becomeAs_29 : rn Ls xs d 166 29 [l0, l1] (.inl x :: .inr (.inl (some a)) :: st) (S, I, R) = if h_is S a 7 6 then rn Ls xs d 166 32 [l0, l1] st (S, va_up I a (upd (I a) 3 x), R) else none := rn_bc rfl rfl
theorem e_K_becomeAs_32 : rn Ls xs d 166 32 [some (.inr u), l1] st H = rn Ls xs d 166 33 [some (.inr u), l1] (.inr u :: st) H := rn_nx rfl rfl
theorem e_K_becomeAs_33 : rn Ls xs d 166 33 [l0, some (.inr u)] st H = rn Ls xs d 166 34 [l0, some (.inr u)] (.inr u :: st) H := rn_nx rfl rfl
theorem e_K_becomeAs_34 : rn Ls xs d 166 34 [l0, l1] (.inr (.inl (some a)) :: st) (S, I, R) = if h_is S a 7 6 then rn Ls xs d 166 37 [l0, l1] (.inl (I a 4) :: st) (S, I, R) else none := rn_bc rfl rfl
theorem e_K_becomeAs_37 : rn Ls xs d 166 37 [l0, l1] (.inl x :: .inr (.inl (some a)) :: st) (S, I, R) = if h_is S a 7 6 then rn Ls xs d 166 40 [l0, l1] st (S, va_up I a (upd (I a) 4 x), R) else none := rn_bc rfl rfl
theorem e_K_becomeAs_40 : rn Ls xs d 166 40 [some (.inr u), l1] st H = rn Ls xs d 166 41 [some (.inr u), l1] (.inr u :: st) H := rn_nx rfl rfl
theorem e_K_becomeAs_41 : rn Ls xs d 166 41 [l0, some (.inr u)] st H = rn Ls xs d 166 42 [l0, some (.inr u)] (.inr u :: st) H := rn_nx rfl rfl
theorem e_K_becomeAs_42 : rn Ls xs d 166 42 [l0, l1] (.inr (.inl (some a)) :: st) (S, I, R) = if h_is S a 7 6 then rn Ls xs d 166 45 [l0, l1] (.inl (I a 5) :: st) (S, I, R) else none := rn_bc rfl rfl
theorem e_K_becomeAs_45 : rn Ls xs d 166 45 [l0, l1] (.inl x :: .inr (.inl (some a)) :: st) (S, I, R) = if h_is S a 7 6 && h_bo x then rn Ls xs d 166 48 [l0, l1] st (S, va_up I a (upd (I a) 5 x), R) else none := rn_bc rfl rfl
theorem e_K_becomeAs_48 : rn Ls xs d 166 48 [l0, l1] [] H = some (none, H) := rn_done rfl rfl
theorem e_H_becomeAs_0 : rn Ls xs d 167 0 [some (.inr u), l1] st H = rn Ls xs d 167 1 [some (.inr u), l1] (.inr u :: st) H := rn_nx rfl rfl
theorem e_H_becomeAs_1 : rn Ls xs d 167 1 [l0, some (.inr u)] st H = rn Ls xs d 167 2 [l0, some (.inr u)] (.inr u :: st) H := rn_nx rfl rfl
theorem e_H_becomeAs_2 : rn Ls xs d 167 2 [l0, l1] (.inr (.inl (some a)) :: st) (S, I, R) = if h_is S a 2 3 then rn Ls xs d 167 5 [l0, l1] (.inl (I a 1) :: st) (S, I, R) else none := rn_bc rfl rfl
theorem e_H_becomeAs_5 : rn Ls xs d 167 5 [l0, l1] (.inl x :: .inr (.inl (some a)) :: st) (S, I, R) = if h_is S a 2 3 then rn Ls xs d 167 8 [l0, l1] st (S, va_up I a (upd (I a) 1 x), R) else none := rn_bc rfl rfl
theorem e_H_becomeAs_8 : rn Ls xs d 167 8 [some (.inr u), l1] st H = rn Ls xs d 167 9 [some (.inr u), l1] (.inr u :: st) H := rn_nx rfl rfl
theorem e_H_becomeAs_9 : rn Ls xs d 167 9 [l0, some (.inr u)] st H = rn Ls xs d 167 10 [l0, some (.inr u)] (.inr u :: st) H := rn_nx rfl rfl
theorem e_H_becomeAs_10 : rn Ls xs d 167 10 [l0, l1] (.inr (.inl (some a)) :: st) (S, I, R) = if h_is S a 2 3 then rn Ls xs d 167 13 [l0, l1] (.inl (I a 2) :: st) (S, I, R) else none := rn_bc rfl rfl
theorem e_H_becomeAs_13 : rn Ls xs d 167 13 [l0, l1] (.inl x :: .inr (.inl (some a)) :: st) (S, I, R) = if h_is S a 2 3 then rn Ls xs d 167 16 [l0, l1] st (S, va_up I a (upd (I a) 2 x), R) else none := rn_bc rfl rfl
theorem e_H_becomeAs_16 : rn Ls xs d 167 16 [l0, some (.inr u)] st H = rn Ls xs d 167 17 [l0, some (.inr u)] (.inr u :: st) H := rn_nx rfl rfl
theorem e_H_becomeAs_17 : rn Ls xs d 167 17 [l0, l1] (.inr (.inl (some a)) :: st) (S, I, R) = if h_is S a 2 3 then rn Ls xs d 167 20 [l0, l1] (.inr (R a 0) :: st) (S, I, R) else none := rn_bc rfl rfl
theorem e_H_becomeAs_20 : rn Ls xs d 167 20 [l0, l1]  st H = rn Ls xs d 167 21 [l0, l1] (.inl 0 :: st) H := rn_nx rfl rfl
theorem e_H_becomeAs_21 : rn Ls xs d 167 21 [some (.inr u), l1] st H = rn Ls xs d 167 22 [some (.inr u), l1] (.inr u :: st) H := rn_nx rfl rfl
theorem e_H_becomeAs_22 : rn Ls xs d 167 22 [l0, l1] (.inr (.inl (some a)) :: st) (S, I, R) = if h_is S a 2 3 then rn Ls xs d 167 25 [l0, l1] (.inr (R a 0) :: st) (S, I, R) else none := rn_bc rfl rfl
theorem e_H_becomeAs_25 : rn Ls xs d 167 25 [l0, l1]  st H = rn Ls xs d 167 26 [l0, l1] (.inl 0 :: st) H := rn_nx rfl rfl
theorem e_H_becomeAs_26 : rn Ls xs d 167 26 [l0, l1]  st H = rn Ls xs d 167 28 [l0, l1] (.inl 24 :: st) H := rn_nx rfl rfl
theorem e_H_becomeAs_28 : rn Ls xs (d + 1) 167 28 [l0, l1] (.inl z :: .inl y :: .inr (.inl (some b)) :: .inl x :: .inr (.inl (some a)) :: []) (S, I, R) = if h_cp S a b x y z then rn Ls xs (d + 1) 167 31 [l0, l1] [] (S, va_up I b (va_cpy (I a) (I b) x.toNatClampNeg y.toNatClampNeg z.toNatClampNeg), R) else none := rn_copy rfl (Nat.le_of_ble_eq_true rfl)
theorem e_H_becomeAs_31 : rn Ls xs d 167 31 [l0, l1] [] H = some (none, H) := rn_done rfl rfl
theorem e_M_isSlot_0 : rn Ls xs d 168 0 [some (.inl x)] st H = rn Ls xs d 168 1 [some (.inl x)] (.inl x :: st) H := rn_nx rfl rfl
theorem e_M_isSlot_1 : rn Ls xs d 168 1 [l0]  st H = rn Ls xs d 168 2 [l0] (.inl 0 :: st) H := rn_nx rfl rfl
theorem e_M_isSlot_2 : rn Ls xs d 168 2 [l0]  st H = rn Ls xs d 168 3 [l0] (.inl 4 :: st) H := rn_nx rfl rfl
theorem e_M_isSlot_3 : rn Ls xs (d + 1) 168 3 [l0] [v2, v1, v0] H = rb Ls xs (d + 1) 168 6 [l0] [] (rn Ls xs d 97 0 [some v0, some v1, some v2] [] H) := rn_call rfl (Nat.le_of_ble_eq_true rfl) (Nat.le_of_ble_eq_true rfl) rfl rfl
theorem e_M_isSlot_6 : rn Ls xs d 168 6 [l0] [.inl x] H = if h_bo x then some (some (.inl x), H) else none := rn_zret rfl
theorem e_W_findingUnless_0 : rn Ls xs d 169 0 [some (.inr u), l1, l2, l3] st H = rn Ls xs d 169 1 [some (.inr u), l1, l2, l3] (.inr u :: st) H := rn_nx rfl rfl
theorem e_W_findingUnless_1 : rn Ls xs d 169 1 [l0, l1, l2, l3] (.inr (.inl (some a)) :: st) (S, I, R) = if h_is S a 8 10 then rn Ls xs d 169 4 [l0, l1, l2, l3] (.inr (R a 6) :: st) (S, I, R) else none := rn_bc rfl rfl
theorem e_W_findingUnless_4 : rn Ls xs d 169 4 [l0, some (.inl x), l2, l3] st H = rn Ls xs d 169 5 [l0, some (.inl x), l2, l3] (.inl x :: st) H := rn_nx rfl rfl
theorem e_W_findingUnless_5 : rn Ls xs d 169 5 [l0, l1, l2, l3] (.inl i :: .inr (.inl (some a)) :: st) (S, I, R) = if h_ia S a 7 i then (match R a i.toNatClampNeg with | .inl o => rn Ls xs d 169 6 [l0, l1, l2, l3] (.inr (.inl o) :: st) (S, I, R) | .inr _ => none) else none := rn_aald rfl
theorem e_W_findingUnless_6 : rn Ls xs d 169 6 [l0, l1, l2, l3] (.inr (.inl (some a)) :: st) (S, I, R) = if h_is S a 4 4 then rn Ls xs d 169 9 [l0, l1, l2, l3] (.inl (I a 3) :: st) (S, I, R) else none := rn_bc rfl rfl
theorem e_W_findingUnless_9 : rn Ls xs d 169 9 [l0, l1, l2, l3] (.inl x :: st) H = rn Ls xs d 169 10 [l0, l1, l2, some (.inl x)] st H := rn_nx rfl rfl
theorem e_W_findingUnless_10 : rn Ls xs d 169 10 [l0, l1, l2, some (.inl x)] st H = rn Ls xs d 169 11 [l0, l1, l2, some (.inl x)] (.inl x :: st) H := rn_nx rfl rfl
theorem e_W_findingUnless_11 : rn Ls xs d 169 11 [l0, l1, l2, l3] (.inl x :: st) H = if x ≠ 0 then rn Ls xs d 169 17 [l0, l1, l2, l3] st H else rn Ls xs d 169 14 [l0, l1, l2, l3] st H := rn_if (p := fun x => x ≠ 0) rfl
theorem e_W_findingUnless_14 : rn Ls xs d 169 14 [l0, l1, l2, l3]  st H = rn Ls xs d 169 16 [l0, l1, l2, l3] (.inl (-1000000011) :: st) H := rn_nx rfl rfl
theorem e_W_findingUnless_16 : rn Ls xs d 169 16 [l0, l1, l2, l3] [.inl x] H = some (some (.inl x), H) := rn_done rfl rfl
theorem e_W_findingUnless_17 : rn Ls xs d 169 17 [l0, l1, l2, some (.inl x)] st H = rn Ls xs d 169 18 [l0, l1, l2, some (.inl x)] (.inl x :: st) H := rn_nx rfl rfl
theorem e_W_findingUnless_18 : rn Ls xs d 169 18 [l0, l1, some (.inl x), l3] st H = rn Ls xs d 169 19 [l0, l1, some (.inl x), l3] (.inl x :: st) H := rn_nx rfl rfl
theorem e_W_findingUnless_19 : rn Ls xs d 169 19 [l0, l1, l2, l3] (.inl y :: .inl x :: st) H = if x ≠ y then rn Ls xs d 169 26 [l0, l1, l2, l3] st H else rn Ls xs d 169 22 [l0, l1, l2, l3] st H := rn_cmp (p := fun x y => x ≠ y) rfl
theorem e_W_findingUnless_22 : rn Ls xs d 169 22 [l0, l1, l2, l3]  st H = rn Ls xs d 169 23 [l0, l1, l2, l3] (.inl 0 :: st) H := rn_nx rfl rfl
theorem e_W_findingUnless_23 : rn Ls xs d 169 23 [l0, l1, l2, l3] st H = rn Ls xs d 169 28 [l0, l1, l2, l3] st H := rn_nx rfl rfl
theorem e_W_findingUnless_26 : rn Ls xs d 169 26 [l0, l1, l2, l3]  st H = rn Ls xs d 169 28 [l0, l1, l2, l3] (.inl (-1000000012) :: st) H := rn_nx rfl rfl
theorem e_W_findingUnless_28 : rn Ls xs d 169 28 [l0, l1, l2, l3] [.inl x] H = some (some (.inl x), H) := rn_done rfl rfl
theorem e_F_rightOnes_0 : rn Ls xs d 170 0 [some (.inr u), l1, l2, l3, l4, l5, l6] st H = rn Ls xs d 170 1 [some (.inr u), l1, l2, l3, l4, l5, l6] (.inr u :: st) H := rn_nx rfl rfl
theorem e_F_rightOnes_1 : rn Ls xs d 170 1 [l0, l1, l2, l3, l4, l5, l6] (.inr (.inl (some a)) :: st) (S, I, R) = if h_is S a 0 5 then rn Ls xs d 170 4 [l0, l1, l2, l3, l4, l5, l6] (.inr (R a 0) :: st) (S, I, R) else none := rn_bc rfl rfl
theorem e_F_rightOnes_4 : rn Ls xs d 170 4 [l0, some (.inr u), l2, l3, l4, l5, l6] st H = rn Ls xs d 170 5 [l0, some (.inr u), l2, l3, l4, l5, l6] (.inr u :: st) H := rn_nx rfl rfl
theorem e_F_rightOnes_5 : rn Ls xs (d + 1) 170 5 [l0, l1, l2, l3, l4, l5, l6] [v1, (.inr (.inl (some a)))] (S, I, R) = if h_is S a 3 11 then rb Ls xs (d + 1) 170 8 [l0, l1, l2, l3, l4, l5, l6] [] (rn Ls xs d 172 0 [some (.inr (.inl (some a))), some v1, none] [] (S, I, R)) else none := rn_callO rfl rfl (Nat.le_of_ble_eq_true rfl) rfl rfl
theorem e_F_rightOnes_8 : rn Ls xs d 170 8 [l0, l1, l2, l3, l4, l5, l6]  st H = rn Ls xs d 170 9 [l0, l1, l2, l3, l4, l5, l6] (.inl 0 :: st) H := rn_nx rfl rfl
theorem e_F_rightOnes_9 : rn Ls xs d 170 9 [l0, l1, l2, l3, l4, l5, l6] (.inl x :: st) H = rn Ls xs d 170 11 [l0, l1, l2, l3, l4, some (.inl x), l6] st H := rn_nx rfl rfl
theorem e_F_rightOnes_11 : rn Ls xs d 170 11 [l0, l1, l2, l3, l4, l5, l6]  st H = rn Ls xs d 170 12 [l0, l1, l2, l3, l4, l5, l6] (.inl 0 :: st) H := rn_nx rfl rfl
theorem e_F_rightOnes_12 : rn Ls xs d 170 12 [l0, l1, l2, l3, l4, l5, l6] (.inl x :: st) H = rn Ls xs d 170 14 [l0, l1, l2, l3, l4, l5, some (.inl x)] st H := rn_nx rfl rfl
theorem e_F_rightOnes_14 : rn Ls xs d 170 14 [l0, l1, l2, l3, l4, l5, some (.inl x)] st H = rn Ls xs d 170 16 [l0, l1, l2, l3, l4, l5, some (.inl x)] (.inl x :: st) H := rn_nx rfl rfl
theorem e_F_rightOnes_16 : rn Ls xs d 170 16 [l0, l1, some (.inl x), l3, l4, l5, l6] st H = rn Ls xs d 170 17 [l0, l1, some (.inl x), l3, l4, l5, l6] (.inl x :: st) H := rn_nx rfl rfl
theorem e_F_rightOnes_17 : rn Ls xs d 170 17 [l0, l1, l2, l3, l4, l5, l6] (.inl y :: .inl x :: st) H = if y ≤ x then rn Ls xs d 170 88 [l0, l1, l2, l3, l4, l5, l6] st H else rn Ls xs d 170 20 [l0, l1, l2, l3, l4, l5, l6] st H := rn_cmp (p := fun x y => y ≤ x) rfl
theorem e_F_rightOnes_20 : rn Ls xs d 170 20 [some (.inr u), l1, l2, l3, l4, l5, l6] st H = rn Ls xs d 170 21 [some (.inr u), l1, l2, l3, l4, l5, l6] (.inr u :: st) H := rn_nx rfl rfl
theorem e_F_rightOnes_21 : rn Ls xs d 170 21 [l0, l1, l2, l3, l4, l5, l6] (.inr (.inl (some a)) :: st) (S, I, R) = if h_is S a 0 5 then rn Ls xs d 170 24 [l0, l1, l2, l3, l4, l5, l6] (.inr (R a 0) :: st) (S, I, R) else none := rn_bc rfl rfl
theorem e_F_rightOnes_24 : rn Ls xs d 170 24 [l0, l1, l2, l3, l4, l5, l6]  st H = rn Ls xs d 170 25 [l0, l1, l2, l3, l4, l5, l6] (.inl 1 :: st) H := rn_nx rfl rfl
theorem e_F_rightOnes_25 : rn Ls xs (d + 1) 170 25 [l0, l1, l2, l3, l4, l5, l6] [v1, (.inr (.inl (some a)))] (S, I, R) = if h_is S a 3 11 then rb Ls xs (d + 1) 170 28 [l0, l1, l2, l3, l4, l5, l6] [] (rn Ls xs d 119 0 [some (.inr (.inl (some a))), some v1, none] [] (S, I, R)) else none := rn_callO rfl rfl (Nat.le_of_ble_eq_true rfl) rfl rfl
theorem e_F_rightOnes_28 : rn Ls xs d 170 28 [l0, l1, l2, l3, l4, some (.inl x), l6] st H = rn Ls xs d 170 30 [l0, l1, l2, l3, l4, some (.inl x), l6] (.inl x :: st) H := rn_nx rfl rfl
theorem e_F_rightOnes_30 : rn Ls xs d 170 30 [l0, l1, l2, l3, some (.inl x), l5, l6] st H = rn Ls xs d 170 32 [l0, l1, l2, l3, some (.inl x), l5, l6] (.inl x :: st) H := rn_nx rfl rfl
theorem e_F_rightOnes_32 : rn Ls xs d 170 32 [l0, l1, l2, l3, l4, l5, l6] (.inl y :: .inl x :: st) H = if y ≤ x then rn Ls xs d 170 49 [l0, l1, l2, l3, l4, l5, l6] st H else rn Ls xs d 170 35 [l0, l1, l2, l3, l4, l5, l6] st H := rn_cmp (p := fun x y => y ≤ x) rfl
theorem e_F_rightOnes_35 : rn Ls xs d 170 35 [l0, l1, l2, some (.inr u), l4, l5, l6] st H = rn Ls xs d 170 36 [l0, l1, l2, some (.inr u), l4, l5, l6] (.inr u :: st) H := rn_nx rfl rfl
theorem e_F_rightOnes_36 : rn Ls xs d 170 36 [l0, l1, l2, l3, l4, some (.inl x), l6] st H = rn Ls xs d 170 38 [l0, l1, l2, l3, l4, some (.inl x), l6] (.inl x :: st) H := rn_nx rfl rfl
theorem e_F_rightOnes_38 : rn Ls xs d 170 38 [l0, l1, l2, l3, l4, l5, l6] (.inl i :: .inr (.inl (some a)) :: st) (S, I, R) = if h_ia S a 0 i then rn Ls xs d 170 39 [l0, l1, l2, l3, l4, l5, l6] (.inl (I a i.toNatClampNeg) :: st) (S, I, R) else none := rn_bc rfl rfl
theorem e_F_rightOnes_39 : rn Ls xs d 170 39 [some (.inr u), l1, l2, l3, l4, l5, l6] st H = rn Ls xs d 170 40 [some (.inr u), l1, l2, l3, l4, l5, l6] (.inr u :: st) H := rn_nx rfl rfl
theorem e_F_rightOnes_40 : rn Ls xs d 170 40 [l0, l1, l2, l3, l4, l5, l6] (.inr (.inl (some a)) :: st) (S, I, R) = if h_is S a 0 5 then rn Ls xs d 170 43 [l0, l1, l2, l3, l4, l5, l6] (.inr (R a 0) :: st) (S, I, R) else none := rn_bc rfl rfl
theorem e_F_rightOnes_43 : rn Ls xs d 170 43 [l0, l1, l2, l3, l4, l5, l6] (.inr (.inl (some a)) :: st) (S, I, R) = if h_is S a 3 11 then rn Ls xs d 170 46 [l0, l1, l2, l3, l4, l5, l6] (.inl (I a 6) :: st) (S, I, R) else none := rn_bc rfl rfl
theorem e_F_rightOnes_46 : rn Ls xs d 170 46 [l0, l1, l2, l3, l4, l5, l6] (.inl y :: .inl x :: st) H = if x = y then rn Ls xs d 170 52 [l0, l1, l2, l3, l4, l5, l6] st H else rn Ls xs d 170 49 [l0, l1, l2, l3, l4, l5, l6] st H := rn_cmp (p := fun x y => x = y) rfl
theorem e_F_rightOnes_49 : rn Ls xs d 170 49 [l0, l1, l2, l3, l4, some (.inl x), l6] st H = rn Ls xs d 170 51 [l0, l1, l2, l3, l4, some (.inl x), l6] (.inl x :: st) H := rn_nx rfl rfl
theorem e_F_rightOnes_51 : rn Ls xs d 170 51 [l0, l1, l2, l3, l4, l5, l6] [.inl x] H = some (some (.inl x), H) := rn_done rfl rfl
theorem e_F_rightOnes_52 : rn Ls xs d 170 52 [l0, l1, l2, l3, l4, some (.inl x), l6] st H = rn Ls xs d 170 55 [l0, l1, l2, l3, l4, some (.inl (x + 1)), l6] st H := rn_nx rfl rfl
theorem e_F_rightOnes_55 : rn Ls xs d 170 55 [l0, l1, l2, l3, l4, some (.inl x), l6] st H = rn Ls xs d 170 57 [l0, l1, l2, l3, l4, some (.inl x), l6] (.inl x :: st) H := rn_nx rfl rfl
theorem e_F_rightOnes_57 : rn Ls xs d 170 57 [l0, l1, l2, l3, some (.inl x), l5, l6] st H = rn Ls xs d 170 59 [l0, l1, l2, l3, some (.inl x), l5, l6] (.inl x :: st) H := rn_nx rfl rfl
theorem e_F_rightOnes_59 : rn Ls xs d 170 59 [l0, l1, l2, l3, l4, l5, l6] (.inl y :: .inl x :: st) H = if y ≤ x then rn Ls xs d 170 76 [l0, l1, l2, l3, l4, l5, l6] st H else rn Ls xs d 170 62 [l0, l1, l2, l3, l4, l5, l6] st H := rn_cmp (p := fun x y => y ≤ x) rfl
theorem e_F_rightOnes_62 : rn Ls xs d 170 62 [l0, l1, l2, some (.inr u), l4, l5, l6] st H = rn Ls xs d 170 63 [l0, l1, l2, some (.inr u), l4, l5, l6] (.inr u :: st) H := rn_nx rfl rfl
theorem e_F_rightOnes_63 : rn Ls xs d 170 63 [l0, l1, l2, l3, l4, some (.inl x), l6] st H = rn Ls xs d 170 65 [l0, l1, l2, l3, l4, some (.inl x), l6] (.inl x :: st) H := rn_nx rfl rfl
theorem e_F_rightOnes_65 : rn Ls xs d 170 65 [l0, l1, l2, l3, l4, l5, l6] (.inl i :: .inr (.inl (some a)) :: st) (S, I, R) = if h_ia S a 0 i then rn Ls xs d 170 66 [l0, l1, l2, l3, l4, l5, l6] (.inl (I a i.toNatClampNeg) :: st) (S, I, R) else none := rn_bc rfl rfl
theorem e_F_rightOnes_66 : rn Ls xs d 170 66 [some (.inr u), l1, l2, l3, l4, l5, l6] st H = rn Ls xs d 170 67 [some (.inr u), l1, l2, l3, l4, l5, l6] (.inr u :: st) H := rn_nx rfl rfl
theorem e_F_rightOnes_67 : rn Ls xs d 170 67 [l0, l1, l2, l3, l4, l5, l6] (.inr (.inl (some a)) :: st) (S, I, R) = if h_is S a 0 5 then rn Ls xs d 170 70 [l0, l1, l2, l3, l4, l5, l6] (.inr (R a 0) :: st) (S, I, R) else none := rn_bc rfl rfl
theorem e_F_rightOnes_70 : rn Ls xs (d + 1) 170 70 [l0, l1, l2, l3, l4, l5, l6] [(.inr (.inl (some a))), v1] (S, I, R) = if h_is S a 3 11 then rb Ls xs (d + 1) 170 73 [l0, l1, l2, l3, l4, l5, l6] [v1] (rn Ls xs d 207 0 [some (.inr (.inl (some a))), none, none] [] (S, I, R)) else none := rn_callO rfl rfl (Nat.le_of_ble_eq_true rfl) rfl rfl
theorem e_F_rightOnes_73 : rn Ls xs d 170 73 [l0, l1, l2, l3, l4, l5, l6] (.inl y :: .inl x :: st) H = if x = y then rn Ls xs d 170 79 [l0, l1, l2, l3, l4, l5, l6] st H else rn Ls xs d 170 76 [l0, l1, l2, l3, l4, l5, l6] st H := rn_cmp (p := fun x y => x = y) rfl
theorem e_F_rightOnes_76 : rn Ls xs d 170 76 [l0, l1, l2, l3, l4, some (.inl x), l6] st H = rn Ls xs d 170 78 [l0, l1, l2, l3, l4, some (.inl x), l6] (.inl x :: st) H := rn_nx rfl rfl
theorem e_F_rightOnes_78 : rn Ls xs d 170 78 [l0, l1, l2, l3, l4, l5, l6] [.inl x] H = some (some (.inl x), H) := rn_done rfl rfl
theorem e_F_rightOnes_79 : rn Ls xs d 170 79 [l0, l1, l2, l3, l4, some (.inl x), l6] st H = rn Ls xs d 170 82 [l0, l1, l2, l3, l4, some (.inl (x + 1)), l6] st H := rn_nx rfl rfl
theorem e_F_rightOnes_82 : rn Ls xs d 170 82 [l0, l1, l2, l3, l4, l5, some (.inl x)] st H = rn Ls xs d 170 85 [l0, l1, l2, l3, l4, l5, some (.inl (x + 1))] st H := rn_nx rfl rfl
theorem e_F_rightOnes_85 : rn Ls xs d 170 85 [l0, l1, l2, l3, l4, l5, l6] st H = rn Ls xs d 170 14 [l0, l1, l2, l3, l4, l5, l6] st H := rn_nx rfl rfl
theorem e_F_rightOnes_88 : rn Ls xs d 170 88 [l0, l1, l2, l3, l4, some (.inl x), l6] st H = rn Ls xs d 170 90 [l0, l1, l2, l3, l4, some (.inl x), l6] (.inl x :: st) H := rn_nx rfl rfl
theorem e_F_rightOnes_90 : rn Ls xs d 170 90 [l0, l1, l2, l3, l4, l5, l6] [.inl x] H = some (some (.inl x), H) := rn_done rfl rfl
theorem e_M_copyAll_0 : rn Ls xs d 171 0 [l0, l1, l2]  st H = rn Ls xs d 171 1 [l0, l1, l2] (.inl 0 :: st) H := rn_nx rfl rfl
theorem e_M_copyAll_1 : rn Ls xs d 171 1 [l0, l1, l2] (.inl x :: st) H = rn Ls xs d 171 2 [l0, l1, some (.inl x)] st H := rn_nx rfl rfl
theorem e_M_copyAll_2 : rn Ls xs d 171 2 [l0, l1, some (.inl x)] st H = rn Ls xs d 171 3 [l0, l1, some (.inl x)] (.inl x :: st) H := rn_nx rfl rfl
theorem e_M_copyAll_3 : rn Ls xs d 171 3 [l0, l1, l2]  st H = rn Ls xs d 171 6 [l0, l1, l2] (.inl 1464 :: st) H := rn_nx rfl rfl
theorem e_M_copyAll_6 : rn Ls xs d 171 6 [l0, l1, l2] (.inl y :: .inl x :: st) H = if y ≤ x then rn Ls xs d 171 21 [l0, l1, l2] st H else rn Ls xs d 171 9 [l0, l1, l2] st H := rn_cmp (p := fun x y => y ≤ x) rfl
theorem e_M_copyAll_9 : rn Ls xs d 171 9 [l0, some (.inr u), l2] st H = rn Ls xs d 171 10 [l0, some (.inr u), l2] (.inr u :: st) H := rn_nx rfl rfl
theorem e_M_copyAll_10 : rn Ls xs d 171 10 [l0, l1, some (.inl x)] st H = rn Ls xs d 171 11 [l0, l1, some (.inl x)] (.inl x :: st) H := rn_nx rfl rfl
theorem e_M_copyAll_11 : rn Ls xs d 171 11 [some (.inr u), l1, l2] st H = rn Ls xs d 171 12 [some (.inr u), l1, l2] (.inr u :: st) H := rn_nx rfl rfl
theorem e_M_copyAll_12 : rn Ls xs d 171 12 [l0, l1, some (.inl x)] st H = rn Ls xs d 171 13 [l0, l1, some (.inl x)] (.inl x :: st) H := rn_nx rfl rfl
theorem e_M_copyAll_13 : rn Ls xs d 171 13 [l0, l1, l2] (.inl i :: .inr (.inl (some a)) :: st) (S, I, R) = if h_ia S a 0 i then rn Ls xs d 171 14 [l0, l1, l2] (.inl (I a i.toNatClampNeg) :: st) (S, I, R) else none := rn_bc rfl rfl
theorem e_M_copyAll_14 : rn Ls xs d 171 14 [l0, l1, l2] (.inl x :: .inl i :: .inr (.inl (some a)) :: st) (S, I, R) = if h_ia S a 0 i then rn Ls xs d 171 15 [l0, l1, l2] st (S, va_up I a (upd (I a) i.toNatClampNeg x), R) else none := rn_bc rfl rfl
theorem e_M_copyAll_15 : rn Ls xs d 171 15 [l0, l1, some (.inl x)] st H = rn Ls xs d 171 18 [l0, l1, some (.inl (x + 1))] st H := rn_nx rfl rfl
theorem e_M_copyAll_18 : rn Ls xs d 171 18 [l0, l1, l2] st H = rn Ls xs d 171 2 [l0, l1, l2] st H := rn_nx rfl rfl
theorem e_M_copyAll_21 : rn Ls xs d 171 21 [l0, l1, l2] [] H = some (none, H) := rn_done rfl rfl
theorem e_S_becomeAs_0 : rn Ls xs d 172 0 [l0, l1, l2]  st H = rn Ls xs d 172 1 [l0, l1, l2] (.inl 0 :: st) H := rn_nx rfl rfl
theorem e_S_becomeAs_1 : rn Ls xs d 172 1 [l0, l1, l2] (.inl x :: st) H = rn Ls xs d 172 2 [l0, l1, some (.inl x)] st H := rn_nx rfl rfl
theorem e_S_becomeAs_2 : rn Ls xs d 172 2 [l0, l1, some (.inl x)] st H = rn Ls xs d 172 3 [l0, l1, some (.inl x)] (.inl x :: st) H := rn_nx rfl rfl
theorem e_S_becomeAs_3 : rn Ls xs d 172 3 [l0, some (.inr u), l2] st H = rn Ls xs d 172 4 [l0, some (.inr u), l2] (.inr u :: st) H := rn_nx rfl rfl
theorem e_S_becomeAs_4 : rn Ls xs d 172 4 [l0, l1, l2] (.inr (.inl (some a)) :: st) (S, I, R) = if h_is S a 3 11 then rn Ls xs d 172 7 [l0, l1, l2] (.inl (I a 3) :: st) (S, I, R) else none := rn_bc rfl rfl
theorem e_S_becomeAs_7 : rn Ls xs d 172 7 [l0, l1, l2] (.inl y :: .inl x :: st) H = if y ≤ x then rn Ls xs d 172 31 [l0, l1, l2] st H else rn Ls xs d 172 10 [l0, l1, l2] st H := rn_cmp (p := fun x y => y ≤ x) rfl
theorem e_S_becomeAs_10 : rn Ls xs d 172 10 [some (.inr u), l1, l2] st H = rn Ls xs d 172 11 [some (.inr u), l1, l2] (.inr u :: st) H := rn_nx rfl rfl
theorem e_S_becomeAs_11 : rn Ls xs d 172 11 [l0, l1, l2] (.inr (.inl (some a)) :: st) (S, I, R) = if h_is S a 3 11 then rn Ls xs d 172 14 [l0, l1, l2] (.inr (R a 0) :: st) (S, I, R) else none := rn_bc rfl rfl
theorem e_S_becomeAs_14 : rn Ls xs d 172 14 [l0, l1, some (.inl x)] st H = rn Ls xs d 172 15 [l0, l1, some (.inl x)] (.inl x :: st) H := rn_nx rfl rfl
theorem e_S_becomeAs_15 : rn Ls xs d 172 15 [l0, l1, l2] (.inl i :: .inr (.inl (some a)) :: st) (S, I, R) = if h_ia S a 4 i then (match R a i.toNatClampNeg with | .inl o => rn Ls xs d 172 16 [l0, l1, l2] (.inr (.inl o) :: st) (S, I, R) | .inr _ => none) else none := rn_aald rfl
theorem e_S_becomeAs_16 : rn Ls xs d 172 16 [l0, some (.inr u), l2] st H = rn Ls xs d 172 17 [l0, some (.inr u), l2] (.inr u :: st) H := rn_nx rfl rfl
theorem e_S_becomeAs_17 : rn Ls xs d 172 17 [l0, l1, l2] (.inr (.inl (some a)) :: st) (S, I, R) = if h_is S a 3 11 then rn Ls xs d 172 20 [l0, l1, l2] (.inr (R a 0) :: st) (S, I, R) else none := rn_bc rfl rfl
theorem e_S_becomeAs_20 : rn Ls xs d 172 20 [l0, l1, some (.inl x)] st H = rn Ls xs d 172 21 [l0, l1, some (.inl x)] (.inl x :: st) H := rn_nx rfl rfl
theorem e_S_becomeAs_21 : rn Ls xs d 172 21 [l0, l1, l2] (.inl i :: .inr (.inl (some a)) :: st) (S, I, R) = if h_ia S a 4 i then (match R a i.toNatClampNeg with | .inl o => rn Ls xs d 172 22 [l0, l1, l2] (.inr (.inl o) :: st) (S, I, R) | .inr _ => none) else none := rn_aald rfl
theorem e_S_becomeAs_22 : rn Ls xs (d + 1) 172 22 [l0, l1, l2] [v1, (.inr (.inl (some a)))] (S, I, R) = if h_is S a 7 6 then rb Ls xs (d + 1) 172 25 [l0, l1, l2] [] (rn Ls xs d 166 0 [some (.inr (.inl (some a))), some v1] [] (S, I, R)) else none := rn_callO rfl rfl (Nat.le_of_ble_eq_true rfl) rfl rfl
theorem e_S_becomeAs_25 : rn Ls xs d 172 25 [l0, l1, some (.inl x)] st H = rn Ls xs d 172 28 [l0, l1, some (.inl (x + 1))] st H := rn_nx rfl rfl
theorem e_S_becomeAs_28 : rn Ls xs d 172 28 [l0, l1, l2] st H = rn Ls xs d 172 2 [l0, l1, l2] st H := rn_nx rfl rfl
theorem e_S_becomeAs_31 : rn Ls xs d 172 31 [l0, l1, l2]  st H = rn Ls xs d 172 32 [l0, l1, l2] (.inl 0 :: st) H := rn_nx rfl rfl
theorem e_S_becomeAs_32 : rn Ls xs d 172 32 [l0, l1, l2] (.inl x :: st) H = rn Ls xs d 172 33 [l0, l1, some (.inl x)] st H := rn_nx rfl rfl
theorem e_S_becomeAs_33 : rn Ls xs d 172 33 [l0, l1, some (.inl x)] st H = rn Ls xs d 172 34 [l0, l1, some (.inl x)] (.inl x :: st) H := rn_nx rfl rfl
theorem e_S_becomeAs_34 : rn Ls xs d 172 34 [l0, some (.inr u), l2] st H = rn Ls xs d 172 35 [l0, some (.inr u), l2] (.inr u :: st) H := rn_nx rfl rfl
theorem e_S_becomeAs_35 : rn Ls xs d 172 35 [l0, l1, l2] (.inr (.inl (some a)) :: st) (S, I, R) = if h_is S a 3 11 then rn Ls xs d 172 38 [l0, l1, l2] (.inl (I a 4) :: st) (S, I, R) else none := rn_bc rfl rfl
theorem e_S_becomeAs_38 : rn Ls xs d 172 38 [l0, l1, l2] (.inl y :: .inl x :: st) H = if y ≤ x then rn Ls xs d 172 59 [l0, l1, l2] st H else rn Ls xs d 172 41 [l0, l1, l2] st H := rn_cmp (p := fun x y => y ≤ x) rfl
theorem e_S_becomeAs_41 : rn Ls xs d 172 41 [some (.inr u), l1, l2] st H = rn Ls xs d 172 42 [some (.inr u), l1, l2] (.inr u :: st) H := rn_nx rfl rfl
theorem e_S_becomeAs_42 : rn Ls xs d 172 42 [l0, l1, l2] (.inr (.inl (some a)) :: st) (S, I, R) = if h_is S a 3 11 then rn Ls xs d 172 45 [l0, l1, l2] (.inr (R a 1) :: st) (S, I, R) else none := rn_bc rfl rfl
theorem e_S_becomeAs_45 : rn Ls xs d 172 45 [l0, l1, some (.inl x)] st H = rn Ls xs d 172 46 [l0, l1, some (.inl x)] (.inl x :: st) H := rn_nx rfl rfl
theorem e_S_becomeAs_46 : rn Ls xs d 172 46 [l0, some (.inr u), l2] st H = rn Ls xs d 172 47 [l0, some (.inr u), l2] (.inr u :: st) H := rn_nx rfl rfl
theorem e_S_becomeAs_47 : rn Ls xs d 172 47 [l0, l1, l2] (.inr (.inl (some a)) :: st) (S, I, R) = if h_is S a 3 11 then rn Ls xs d 172 50 [l0, l1, l2] (.inr (R a 1) :: st) (S, I, R) else none := rn_bc rfl rfl
theorem e_S_becomeAs_50 : rn Ls xs d 172 50 [l0, l1, some (.inl x)] st H = rn Ls xs d 172 51 [l0, l1, some (.inl x)] (.inl x :: st) H := rn_nx rfl rfl
theorem e_S_becomeAs_51 : rn Ls xs d 172 51 [l0, l1, l2] (.inl i :: .inr (.inl (some a)) :: st) (S, I, R) = if h_ia S a 5 i then (match R a i.toNatClampNeg with | .inl o => rn Ls xs d 172 52 [l0, l1, l2] (.inr (.inl o) :: st) (S, I, R) | .inr _ => none) else none := rn_aald rfl
theorem e_S_becomeAs_52 : rn Ls xs d 172 52 [l0, l1, l2] (.inr (.inl (some b)) :: .inl i :: .inr (.inl (some a)) :: st) (S, I, R) = if h_ia S a 5 i && h_is S b 6 3 then rn Ls xs d 172 53 [l0, l1, l2] st (S, I, va_up R a (va_up (R a) i.toNatClampNeg (.inl (some b)))) else none := rn_bc rfl rfl
theorem e_S_becomeAs_53 : rn Ls xs d 172 53 [l0, l1, some (.inl x)] st H = rn Ls xs d 172 56 [l0, l1, some (.inl (x + 1))] st H := rn_nx rfl rfl
theorem e_S_becomeAs_56 : rn Ls xs d 172 56 [l0, l1, l2] st H = rn Ls xs d 172 33 [l0, l1, l2] st H := rn_nx rfl rfl
theorem e_S_becomeAs_59 : rn Ls xs d 172 59 [some (.inr u), l1, l2] st H = rn Ls xs d 172 60 [some (.inr u), l1, l2] (.inr u :: st) H := rn_nx rfl rfl
theorem e_S_becomeAs_60 : rn Ls xs d 172 60 [l0, some (.inr u), l2] st H = rn Ls xs d 172 61 [l0, some (.inr u), l2] (.inr u :: st) H := rn_nx rfl rfl
theorem e_S_becomeAs_61 : rn Ls xs d 172 61 [l0, l1, l2] (.inr (.inl (some a)) :: st) (S, I, R) = if h_is S a 3 11 then rn Ls xs d 172 64 [l0, l1, l2] (.inl (I a 3) :: st) (S, I, R) else none := rn_bc rfl rfl
theorem e_S_becomeAs_64 : rn Ls xs d 172 64 [l0, l1, l2] (.inl x :: .inr (.inl (some a)) :: st) (S, I, R) = if h_is S a 3 11 then rn Ls xs d 172 67 [l0, l1, l2] st (S, va_up I a (upd (I a) 3 x), R) else none := rn_bc rfl rfl
theorem e_S_becomeAs_67 : rn Ls xs d 172 67 [some (.inr u), l1, l2] st H = rn Ls xs d 172 68 [some (.inr u), l1, l2] (.inr u :: st) H := rn_nx rfl rfl
theorem e_S_becomeAs_68 : rn Ls xs d 172 68 [l0, some (.inr u), l2] st H = rn Ls xs d 172 69 [l0, some (.inr u), l2] (.inr u :: st) H := rn_nx rfl rfl
theorem e_S_becomeAs_69 : rn Ls xs d 172 69 [l0, l1, l2] (.inr (.inl (some a)) :: st) (S, I, R) = if h_is S a 3 11 then rn Ls xs d 172 72 [l0, l1, l2] (.inl (I a 4) :: st) (S, I, R) else none := rn_bc rfl rfl
theorem e_S_becomeAs_72 : rn Ls xs d 172 72 [l0, l1, l2] (.inl x :: .inr (.inl (some a)) :: st) (S, I, R) = if h_is S a 3 11 then rn Ls xs d 172 75 [l0, l1, l2] st (S, va_up I a (upd (I a) 4 x), R) else none := rn_bc rfl rfl
theorem e_S_becomeAs_75 : rn Ls xs d 172 75 [some (.inr u), l1, l2] st H = rn Ls xs d 172 76 [some (.inr u), l1, l2] (.inr u :: st) H := rn_nx rfl rfl
theorem e_S_becomeAs_76 : rn Ls xs d 172 76 [l0, some (.inr u), l2] st H = rn Ls xs d 172 77 [l0, some (.inr u), l2] (.inr u :: st) H := rn_nx rfl rfl
theorem e_S_becomeAs_77 : rn Ls xs d 172 77 [l0, l1, l2] (.inr (.inl (some a)) :: st) (S, I, R) = if h_is S a 3 11 then rn Ls xs d 172 80 [l0, l1, l2] (.inl (I a 5) :: st) (S, I, R) else none := rn_bc rfl rfl
theorem e_S_becomeAs_80 : rn Ls xs d 172 80 [l0, l1, l2] (.inl x :: .inr (.inl (some a)) :: st) (S, I, R) = if h_is S a 3 11 then rn Ls xs d 172 83 [l0, l1, l2] st (S, va_up I a (upd (I a) 5 x), R) else none := rn_bc rfl rfl
theorem e_S_becomeAs_83 : rn Ls xs d 172 83 [some (.inr u), l1, l2] st H = rn Ls xs d 172 84 [some (.inr u), l1, l2] (.inr u :: st) H := rn_nx rfl rfl
theorem e_S_becomeAs_84 : rn Ls xs d 172 84 [l0, some (.inr u), l2] st H = rn Ls xs d 172 85 [l0, some (.inr u), l2] (.inr u :: st) H := rn_nx rfl rfl
theorem e_S_becomeAs_85 : rn Ls xs d 172 85 [l0, l1, l2] (.inr (.inl (some a)) :: st) (S, I, R) = if h_is S a 3 11 then rn Ls xs d 172 88 [l0, l1, l2] (.inl (I a 6) :: st) (S, I, R) else none := rn_bc rfl rfl
theorem e_S_becomeAs_88 : rn Ls xs d 172 88 [l0, l1, l2] (.inl x :: .inr (.inl (some a)) :: st) (S, I, R) = if h_is S a 3 11 then rn Ls xs d 172 91 [l0, l1, l2] st (S, va_up I a (upd (I a) 6 x), R) else none := rn_bc rfl rfl
theorem e_S_becomeAs_91 : rn Ls xs d 172 91 [some (.inr u), l1, l2] st H = rn Ls xs d 172 92 [some (.inr u), l1, l2] (.inr u :: st) H := rn_nx rfl rfl
theorem e_S_becomeAs_92 : rn Ls xs d 172 92 [l0, some (.inr u), l2] st H = rn Ls xs d 172 93 [l0, some (.inr u), l2] (.inr u :: st) H := rn_nx rfl rfl
theorem e_S_becomeAs_93 : rn Ls xs d 172 93 [l0, l1, l2] (.inr (.inl (some a)) :: st) (S, I, R) = if h_is S a 3 11 then rn Ls xs d 172 96 [l0, l1, l2] (.inl (I a 7) :: st) (S, I, R) else none := rn_bc rfl rfl
theorem e_S_becomeAs_96 : rn Ls xs d 172 96 [l0, l1, l2] (.inl x :: .inr (.inl (some a)) :: st) (S, I, R) = if h_is S a 3 11 then rn Ls xs d 172 99 [l0, l1, l2] st (S, va_up I a (upd (I a) 7 x), R) else none := rn_bc rfl rfl
theorem e_S_becomeAs_99 : rn Ls xs d 172 99 [some (.inr u), l1, l2] st H = rn Ls xs d 172 100 [some (.inr u), l1, l2] (.inr u :: st) H := rn_nx rfl rfl
theorem e_S_becomeAs_100 : rn Ls xs d 172 100 [l0, some (.inr u), l2] st H = rn Ls xs d 172 101 [l0, some (.inr u), l2] (.inr u :: st) H := rn_nx rfl rfl
theorem e_S_becomeAs_101 : rn Ls xs d 172 101 [l0, l1, l2] (.inr (.inl (some a)) :: st) (S, I, R) = if h_is S a 3 11 then rn Ls xs d 172 104 [l0, l1, l2] (.inl (I a 8) :: st) (S, I, R) else none := rn_bc rfl rfl
theorem e_S_becomeAs_104 : rn Ls xs d 172 104 [l0, l1, l2] (.inl x :: .inr (.inl (some a)) :: st) (S, I, R) = if h_is S a 3 11 then rn Ls xs d 172 107 [l0, l1, l2] st (S, va_up I a (upd (I a) 8 x), R) else none := rn_bc rfl rfl
theorem e_S_becomeAs_107 : rn Ls xs d 172 107 [some (.inr u), l1, l2] st H = rn Ls xs d 172 108 [some (.inr u), l1, l2] (.inr u :: st) H := rn_nx rfl rfl
theorem e_S_becomeAs_108 : rn Ls xs d 172 108 [l0, some (.inr u), l2] st H = rn Ls xs d 172 109 [l0, some (.inr u), l2] (.inr u :: st) H := rn_nx rfl rfl
theorem e_S_becomeAs_109 : rn Ls xs d 172 109 [l0, l1, l2] (.inr (.inl (some a)) :: st) (S, I, R) = if h_is S a 3 11 then rn Ls xs d 172 112 [l0, l1, l2] (.inl (I a 9) :: st) (S, I, R) else none := rn_bc rfl rfl
theorem e_S_becomeAs_112 : rn Ls xs d 172 112 [l0, l1, l2] (.inl x :: .inr (.inl (some a)) :: st) (S, I, R) = if h_is S a 3 11 then rn Ls xs d 172 115 [l0, l1, l2] st (S, va_up I a (upd (I a) 9 x), R) else none := rn_bc rfl rfl
theorem e_S_becomeAs_115 : rn Ls xs d 172 115 [some (.inr u), l1, l2] st H = rn Ls xs d 172 116 [some (.inr u), l1, l2] (.inr u :: st) H := rn_nx rfl rfl
theorem e_S_becomeAs_116 : rn Ls xs d 172 116 [l0, some (.inr u), l2] st H = rn Ls xs d 172 117 [l0, some (.inr u), l2] (.inr u :: st) H := rn_nx rfl rfl
theorem e_S_becomeAs_117 : rn Ls xs d 172 117 [l0, l1, l2] (.inr (.inl (some a)) :: st) (S, I, R) = if h_is S a 3 11 then rn Ls xs d 172 120 [l0, l1, l2] (.inl (I a 10) :: st) (S, I, R) else none := rn_bc rfl rfl
theorem e_S_becomeAs_120 : rn Ls xs d 172 120 [l0, l1, l2] (.inl x :: .inr (.inl (some a)) :: st) (S, I, R) = if h_is S a 3 11 then rn Ls xs d 172 123 [l0, l1, l2] st (S, va_up I a (upd (I a) 10 x), R) else none := rn_bc rfl rfl
theorem e_S_becomeAs_123 : rn Ls xs d 172 123 [l0, l1, l2] [] H = some (none, H) := rn_done rfl rfl
theorem e_K_init_0 : rn Ls xs d 173 0 [some (.inr u)] st H = rn Ls xs d 173 1 [some (.inr u)] (.inr u :: st) H := rn_nx rfl rfl
theorem e_K_init_1 : rn Ls xs (d + 1) 173 1 [l0] (.inr (.inl (some a)) :: []) H = rn Ls xs (d + 1) 173 4 [l0] [] H := rn_nx rfl rfl
theorem e_K_init_4 : rn Ls xs d 173 4 [l0] [] H = some (none, H) := rn_done rfl rfl
end EQ

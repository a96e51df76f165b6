section EQ
variable {Ls : Nat} {xs : Nat → Int32} {d : Nat} {l0 l1 l2 l3 l4 l5 l6 l7 l8 l9 l10 l11 l12 : Option mV} {st : List mV} {H : mH} {S : mS} {I : mI} {R : mR} {x y z i : Int32} {a b : Nat} {k : Nat} {v w : mV} {u : mr} {v0 v1 v2 v3 v4 v5 v6 v7 v8 v9 v10 v11 : mV}
set_option maxRecDepth 20000 in
theorem e_M_copy_0 : rn Ls xs d 68 0 [l0, some (.inl x), l2, l3, l4, l5, l6] st H = rn Ls xs d 68 1 [l0, some (.inl x), l2, l3, l4, l5, l6] (.inl x :: st) H := rn_nx rfl rfl
set_option maxRecDepth 20000 in
theorem e_M_copy_1 : rn Ls xs (d + 1) 68 1 [l0, l1, l2, l3, l4, l5, l6] [v0] H = rb Ls xs (d + 1) 68 4 [l0, l1, l2, l3, l4, l5, l6] [] (rn Ls xs d 146 0 [some v0] [] H) := rn_call rfl (Nat.le_of_ble_eq_true rfl) (Nat.le_of_ble_eq_true rfl) rfl rfl
set_option maxRecDepth 20000 in
theorem e_M_copy_4 : rn Ls xs d 68 4 [l0, l1, l2, l3, l4, l5, l6] (.inl x :: st) H = if x = 0 then rn Ls xs d 68 14 [l0, l1, l2, l3, l4, l5, l6] st H else rn Ls xs d 68 7 [l0, l1, l2, l3, l4, l5, l6] st H := rn_if (p := fun x => x = 0) rfl
set_option maxRecDepth 20000 in
theorem e_M_copy_7 : rn Ls xs d 68 7 [l0, l1, l2, some (.inl x), l4, l5, l6] st H = rn Ls xs d 68 8 [l0, l1, l2, some (.inl x), l4, l5, l6] (.inl x :: st) H := rn_nx rfl rfl
set_option maxRecDepth 20000 in
theorem e_M_copy_8 : rn Ls xs (d + 1) 68 8 [l0, l1, l2, l3, l4, l5, l6] [v0] H = rb Ls xs (d + 1) 68 11 [l0, l1, l2, l3, l4, l5, l6] [] (rn Ls xs d 146 0 [some v0] [] H) := rn_call rfl (Nat.le_of_ble_eq_true rfl) (Nat.le_of_ble_eq_true rfl) rfl rfl
set_option maxRecDepth 20000 in
theorem e_M_copy_11 : rn Ls xs d 68 11 [l0, l1, l2, l3, l4, l5, l6] (.inl x :: st) H = if x ≠ 0 then rn Ls xs d 68 17 [l0, l1, l2, l3, l4, l5, l6] st H else rn Ls xs d 68 14 [l0, l1, l2, l3, l4, l5, l6] st H := rn_if (p := fun x => x ≠ 0) rfl
set_option maxRecDepth 20000 in
theorem e_M_copy_14 : rn Ls xs d 68 14 [l0, l1, l2, l3, l4, l5, l6]  st H = rn Ls xs d 68 16 [l0, l1, l2, l3, l4, l5, l6] (.inl (-1000000001) :: st) H := rn_nx rfl rfl
set_option maxRecDepth 20000 in
theorem e_M_copy_16 : rn Ls xs d 68 16 [l0, l1, l2, l3, l4, l5, l6] [.inl x] H = some (some (.inl x), H) := rn_done rfl rfl
set_option maxRecDepth 20000 in
theorem e_M_copy_17 : rn Ls xs d 68 17 [some (.inr u), l1, l2, l3, l4, l5, l6] st H = rn Ls xs d 68 18 [some (.inr u), l1, l2, l3, l4, l5, l6] (.inr u :: st) H := rn_nx rfl rfl
set_option maxRecDepth 20000 in
theorem e_M_copy_18 : rn Ls xs d 68 18 [l0, l1, l2, l3, l4, l5, l6] (.inr (.inl (some a)) :: st) (S, I, R) = if h_is S a 9 36 then rn Ls xs d 68 21 [l0, l1, l2, l3, l4, l5, l6] (.inr (R a 26) :: st) (S, I, R) else none := rn_bc rfl rfl
set_option maxRecDepth 20000 in
theorem e_M_copy_21 : rn Ls xs d 68 21 [l0, some (.inl x), l2, l3, l4, l5, l6] st H = rn Ls xs d 68 22 [l0, some (.inl x), l2, l3, l4, l5, l6] (.inl x :: st) H := rn_nx rfl rfl
set_option maxRecDepth 20000 in
theorem e_M_copy_22 : rn Ls xs d 68 22 [l0, l1, l2, l3, l4, l5, l6] (.inl i :: .inr (.inl (some a)) :: st) (S, I, R) = if h_ia S a 0 i then rn Ls xs d 68 23 [l0, l1, l2, l3, l4, l5, l6] (.inl (I a i.toNatClampNeg) :: st) (S, I, R) else none := rn_bc rfl rfl
set_option maxRecDepth 20000 in
theorem e_M_copy_23 : rn Ls xs d 68 23 [l0, l1, l2, l3, l4, l5, l6] (.inl x :: st) H = if x < 0 then rn Ls xs d 68 35 [l0, l1, l2, l3, l4, l5, l6] st H else rn Ls xs d 68 26 [l0, l1, l2, l3, l4, l5, l6] st H := rn_if (p := fun x => x < 0) rfl
set_option maxRecDepth 20000 in
theorem e_M_copy_26 : rn Ls xs d 68 26 [some (.inr u), l1, l2, l3, l4, l5, l6] st H = rn Ls xs d 68 27 [some (.inr u), l1, l2, l3, l4, l5, l6] (.inr u :: st) H := rn_nx rfl rfl
set_option maxRecDepth 20000 in
theorem e_M_copy_27 : rn Ls xs d 68 27 [l0, l1, l2, l3, l4, l5, l6] (.inr (.inl (some a)) :: st) (S, I, R) = if h_is S a 9 36 then rn Ls xs d 68 30 [l0, l1, l2, l3, l4, l5, l6] (.inr (R a 26) :: st) (S, I, R) else none := rn_bc rfl rfl
set_option maxRecDepth 20000 in
theorem e_M_copy_30 : rn Ls xs d 68 30 [l0, l1, l2, some (.inl x), l4, l5, l6] st H = rn Ls xs d 68 31 [l0, l1, l2, some (.inl x), l4, l5, l6] (.inl x :: st) H := rn_nx rfl rfl
set_option maxRecDepth 20000 in
theorem e_M_copy_31 : rn Ls xs d 68 31 [l0, l1, l2, l3, l4, l5, l6] (.inl i :: .inr (.inl (some a)) :: st) (S, I, R) = if h_ia S a 0 i then rn Ls xs d 68 32 [l0, l1, l2, l3, l4, l5, l6] (.inl (I a i.toNatClampNeg) :: st) (S, I, R) else none := rn_bc rfl rfl
set_option maxRecDepth 20000 in
theorem e_M_copy_32 : rn Ls xs d 68 32 [l0, l1, l2, l3, l4, l5, l6] (.inl x :: st) H = if 0 ≤ x then rn Ls xs d 68 38 [l0, l1, l2, l3, l4, l5, l6] st H else rn Ls xs d 68 35 [l0, l1, l2, l3, l4, l5, l6] st H := rn_if (p := fun x => 0 ≤ x) rfl
set_option maxRecDepth 20000 in
theorem e_M_copy_35 : rn Ls xs d 68 35 [l0, l1, l2, l3, l4, l5, l6]  st H = rn Ls xs d 68 37 [l0, l1, l2, l3, l4, l5, l6] (.inl (-1000000011) :: st) H := rn_nx rfl rfl
set_option maxRecDepth 20000 in
theorem e_M_copy_37 : rn Ls xs d 68 37 [l0, l1, l2, l3, l4, l5, l6] [.inl x] H = some (some (.inl x), H) := rn_done rfl rfl
set_option maxRecDepth 20000 in
theorem e_M_copy_38 : rn Ls xs d 68 38 [some (.inr u), l1, l2, l3, l4, l5, l6] st H = rn Ls xs d 68 39 [some (.inr u), l1, l2, l3, l4, l5, l6] (.inr u :: st) H := rn_nx rfl rfl
set_option maxRecDepth 20000 in
theorem e_M_copy_39 : rn Ls xs d 68 39 [l0, l1, l2, l3, l4, l5, l6] (.inr (.inl (some a)) :: st) (S, I, R) = if h_is S a 9 36 then rn Ls xs d 68 42 [l0, l1, l2, l3, l4, l5, l6] (.inr (R a 26) :: st) (S, I, R) else none := rn_bc rfl rfl
set_option maxRecDepth 20000 in
theorem e_M_copy_42 : rn Ls xs d 68 42 [l0, some (.inl x), l2, l3, l4, l5, l6] st H = rn Ls xs d 68 43 [l0, some (.inl x), l2, l3, l4, l5, l6] (.inl x :: st) H := rn_nx rfl rfl
set_option maxRecDepth 20000 in
theorem e_M_copy_43 : rn Ls xs d 68 43 [l0, l1, l2, l3, l4, l5, l6] (.inl i :: .inr (.inl (some a)) :: st) (S, I, R) = if h_ia S a 0 i then rn Ls xs d 68 44 [l0, l1, l2, l3, l4, l5, l6] (.inl (I a i.toNatClampNeg) :: st) (S, I, R) else none := rn_bc rfl rfl
set_option maxRecDepth 20000 in
theorem e_M_copy_44 : rn Ls xs d 68 44 [some (.inr u), l1, l2, l3, l4, l5, l6] st H = rn Ls xs d 68 45 [some (.inr u), l1, l2, l3, l4, l5, l6] (.inr u :: st) H := rn_nx rfl rfl
set_option maxRecDepth 20000 in
theorem e_M_copy_45 : rn Ls xs d 68 45 [l0, l1, l2, l3, l4, l5, l6] (.inr (.inl (some a)) :: st) (S, I, R) = if h_is S a 9 36 then rn Ls xs d 68 48 [l0, l1, l2, l3, l4, l5, l6] (.inr (R a 26) :: st) (S, I, R) else none := rn_bc rfl rfl
set_option maxRecDepth 20000 in
theorem e_M_copy_48 : rn Ls xs d 68 48 [l0, l1, l2, some (.inl x), l4, l5, l6] st H = rn Ls xs d 68 49 [l0, l1, l2, some (.inl x), l4, l5, l6] (.inl x :: st) H := rn_nx rfl rfl
set_option maxRecDepth 20000 in
theorem e_M_copy_49 : rn Ls xs d 68 49 [l0, l1, l2, l3, l4, l5, l6] (.inl i :: .inr (.inl (some a)) :: st) (S, I, R) = if h_ia S a 0 i then rn Ls xs d 68 50 [l0, l1, l2, l3, l4, l5, l6] (.inl (I a i.toNatClampNeg) :: st) (S, I, R) else none := rn_bc rfl rfl
set_option maxRecDepth 20000 in
theorem e_M_copy_50 : rn Ls xs d 68 50 [l0, l1, l2, l3, l4, l5, l6] (.inl y :: .inl x :: st) H = if x = y then rn Ls xs d 68 56 [l0, l1, l2, l3, l4, l5, l6] st H else rn Ls xs d 68 53 [l0, l1, l2, l3, l4, l5, l6] st H := rn_cmp (p := fun x y => x = y) rfl
set_option maxRecDepth 20000 in
theorem e_M_copy_53 : rn Ls xs d 68 53 [l0, l1, l2, l3, l4, l5, l6]  st H = rn Ls xs d 68 55 [l0, l1, l2, l3, l4, l5, l6] (.inl (-1000000012) :: st) H := rn_nx rfl rfl
set_option maxRecDepth 20000 in
theorem e_M_copy_55 : rn Ls xs d 68 55 [l0, l1, l2, l3, l4, l5, l6] [.inl x] H = some (some (.inl x), H) := rn_done rfl rfl
set_option maxRecDepth 20000 in
theorem e_M_copy_56 : rn Ls xs d 68 56 [l0, l1, some (.inl x), l3, l4, l5, l6] st H = rn Ls xs d 68 57 [l0, l1, some (.inl x), l3, l4, l5, l6] (.inl x :: st) H := rn_nx rfl rfl
set_option maxRecDepth 20000 in
theorem e_M_copy_57 : rn Ls xs d 68 57 [l0, l1, l2, l3, l4, l5, l6] (.inl x :: st) H = if x < 0 then rn Ls xs d 68 97 [l0, l1, l2, l3, l4, l5, l6] st H else rn Ls xs d 68 60 [l0, l1, l2, l3, l4, l5, l6] st H := rn_if (p := fun x => x < 0) rfl
set_option maxRecDepth 20000 in
theorem e_M_copy_60 : rn Ls xs d 68 60 [l0, l1, l2, l3, some (.inl x), l5, l6] st H = rn Ls xs d 68 62 [l0, l1, l2, l3, some (.inl x), l5, l6] (.inl x :: st) H := rn_nx rfl rfl
set_option maxRecDepth 20000 in
theorem e_M_copy_62 : rn Ls xs d 68 62 [l0, l1, l2, l3, l4, l5, l6] (.inl x :: st) H = if x < 0 then rn Ls xs d 68 97 [l0, l1, l2, l3, l4, l5, l6] st H else rn Ls xs d 68 65 [l0, l1, l2, l3, l4, l5, l6] st H := rn_if (p := fun x => x < 0) rfl
set_option maxRecDepth 20000 in
theorem e_M_copy_65 : rn Ls xs d 68 65 [l0, l1, l2, l3, l4, some (.inl x), l6] st H = rn Ls xs d 68 67 [l0, l1, l2, l3, l4, some (.inl x), l6] (.inl x :: st) H := rn_nx rfl rfl
set_option maxRecDepth 20000 in
theorem e_M_copy_67 : rn Ls xs d 68 67 [l0, l1, l2, l3, l4, l5, l6] (.inl x :: st) H = if x < 0 then rn Ls xs d 68 97 [l0, l1, l2, l3, l4, l5, l6] st H else rn Ls xs d 68 70 [l0, l1, l2, l3, l4, l5, l6] st H := rn_if (p := fun x => x < 0) rfl
set_option maxRecDepth 20000 in
theorem e_M_copy_70 : rn Ls xs d 68 70 [l0, l1, some (.inl x), l3, l4, l5, l6] st H = rn Ls xs d 68 71 [l0, l1, some (.inl x), l3, l4, l5, l6] (.inl x :: st) H := rn_nx rfl rfl
set_option maxRecDepth 20000 in
theorem e_M_copy_71 : rn Ls xs d 68 71 [some (.inr u), l1, l2, l3, l4, l5, l6] st H = rn Ls xs d 68 72 [some (.inr u), l1, l2, l3, l4, l5, l6] (.inr u :: st) H := rn_nx rfl rfl
set_option maxRecDepth 20000 in
theorem e_M_copy_72 : rn Ls xs d 68 72 [l0, l1, l2, l3, l4, l5, l6] (.inr (.inl (some a)) :: st) (S, I, R) = if h_is S a 9 36 then rn Ls xs d 68 75 [l0, l1, l2, l3, l4, l5, l6] (.inr (R a 27) :: st) (S, I, R) else none := rn_bc rfl rfl
set_option maxRecDepth 20000 in
theorem e_M_copy_75 : rn Ls xs d 68 75 [l0, some (.inl x), l2, l3, l4, l5, l6] st H = rn Ls xs d 68 76 [l0, some (.inl x), l2, l3, l4, l5, l6] (.inl x :: st) H := rn_nx rfl rfl
set_option maxRecDepth 20000 in
theorem e_M_copy_76 : rn Ls xs d 68 76 [l0, l1, l2, l3, l4, l5, l6] (.inl i :: .inr (.inl (some a)) :: st) (S, I, R) = if h_ia S a 0 i then rn Ls xs d 68 77 [l0, l1, l2, l3, l4, l5, l6] (.inl (I a i.toNatClampNeg) :: st) (S, I, R) else none := rn_bc rfl rfl
set_option maxRecDepth 20000 in
theorem e_M_copy_77 : rn Ls xs d 68 77 [l0, l1, l2, l3, l4, some (.inl x), l6] st H = rn Ls xs d 68 79 [l0, l1, l2, l3, l4, some (.inl x), l6] (.inl x :: st) H := rn_nx rfl rfl
set_option maxRecDepth 20000 in
theorem e_M_copy_79 : rn Ls xs d 68 79 [l0, l1, l2, l3, l4, l5, l6] (.inl y :: .inl x :: st) H = rn Ls xs d 68 80 [l0, l1, l2, l3, l4, l5, l6] (.inl (x - y) :: st) H := rn_nx rfl rfl
set_option maxRecDepth 20000 in
theorem e_M_copy_80 : rn Ls xs d 68 80 [l0, l1, l2, l3, l4, l5, l6] (.inl y :: .inl x :: st) H = if y < x then rn Ls xs d 68 97 [l0, l1, l2, l3, l4, l5, l6] st H else rn Ls xs d 68 83 [l0, l1, l2, l3, l4, l5, l6] st H := rn_cmp (p := fun x y => y < x) rfl
set_option maxRecDepth 20000 in
theorem e_M_copy_83 : rn Ls xs d 68 83 [l0, l1, l2, l3, some (.inl x), l5, l6] st H = rn Ls xs d 68 85 [l0, l1, l2, l3, some (.inl x), l5, l6] (.inl x :: st) H := rn_nx rfl rfl
set_option maxRecDepth 20000 in
theorem e_M_copy_85 : rn Ls xs d 68 85 [some (.inr u), l1, l2, l3, l4, l5, l6] st H = rn Ls xs d 68 86 [some (.inr u), l1, l2, l3, l4, l5, l6] (.inr u :: st) H := rn_nx rfl rfl
set_option maxRecDepth 20000 in
theorem e_M_copy_86 : rn Ls xs d 68 86 [l0, l1, l2, l3, l4, l5, l6] (.inr (.inl (some a)) :: st) (S, I, R) = if h_is S a 9 36 then rn Ls xs d 68 89 [l0, l1, l2, l3, l4, l5, l6] (.inr (R a 27) :: st) (S, I, R) else none := rn_bc rfl rfl
set_option maxRecDepth 20000 in
theorem e_M_copy_89 : rn Ls xs d 68 89 [l0, l1, l2, some (.inl x), l4, l5, l6] st H = rn Ls xs d 68 90 [l0, l1, l2, some (.inl x), l4, l5, l6] (.inl x :: st) H := rn_nx rfl rfl
set_option maxRecDepth 20000 in
theorem e_M_copy_90 : rn Ls xs d 68 90 [l0, l1, l2, l3, l4, l5, l6] (.inl i :: .inr (.inl (some a)) :: st) (S, I, R) = if h_ia S a 0 i then rn Ls xs d 68 91 [l0, l1, l2, l3, l4, l5, l6] (.inl (I a i.toNatClampNeg) :: st) (S, I, R) else none := rn_bc rfl rfl
set_option maxRecDepth 20000 in
theorem e_M_copy_91 : rn Ls xs d 68 91 [l0, l1, l2, l3, l4, some (.inl x), l6] st H = rn Ls xs d 68 93 [l0, l1, l2, l3, l4, some (.inl x), l6] (.inl x :: st) H := rn_nx rfl rfl
set_option maxRecDepth 20000 in
theorem e_M_copy_93 : rn Ls xs d 68 93 [l0, l1, l2, l3, l4, l5, l6] (.inl y :: .inl x :: st) H = rn Ls xs d 68 94 [l0, l1, l2, l3, l4, l5, l6] (.inl (x - y) :: st) H := rn_nx rfl rfl
set_option maxRecDepth 20000 in
theorem e_M_copy_94 : rn Ls xs d 68 94 [l0, l1, l2, l3, l4, l5, l6] (.inl y :: .inl x :: st) H = if x ≤ y then rn Ls xs d 68 101 [l0, l1, l2, l3, l4, l5, l6] st H else rn Ls xs d 68 97 [l0, l1, l2, l3, l4, l5, l6] st H := rn_cmp (p := fun x y => x ≤ y) rfl
set_option maxRecDepth 20000 in
theorem e_M_copy_97 : rn Ls xs d 68 97 [l0, l1, l2, l3, l4, l5, l6]  st H = rn Ls xs d 68 100 [l0, l1, l2, l3, l4, l5, l6] (.inl (-1000000013) :: st) H := rn_nx rfl rfl
set_option maxRecDepth 20000 in
theorem e_M_copy_100 : rn Ls xs d 68 100 [l0, l1, l2, l3, l4, l5, l6] [.inl x] H = some (some (.inl x), H) := rn_done rfl rfl
set_option maxRecDepth 20000 in
theorem e_M_copy_101 : rn Ls xs d 68 101 [l0, l1, l2, l3, l4, l5, l6]  st H = rn Ls xs d 68 102 [l0, l1, l2, l3, l4, l5, l6] (.inl 0 :: st) H := rn_nx rfl rfl
set_option maxRecDepth 20000 in
theorem e_M_copy_102 : rn Ls xs d 68 102 [l0, l1, l2, l3, l4, l5, l6] (.inl x :: st) H = rn Ls xs d 68 104 [l0, l1, l2, l3, l4, l5, some (.inl x)] st H := rn_nx rfl rfl
set_option maxRecDepth 20000 in
theorem e_M_copy_104 : rn Ls xs d 68 104 [l0, l1, l2, l3, l4, l5, some (.inl x)] st H = rn Ls xs d 68 106 [l0, l1, l2, l3, l4, l5, some (.inl x)] (.inl x :: st) H := rn_nx rfl rfl
set_option maxRecDepth 20000 in
theorem e_M_copy_106 : rn Ls xs d 68 106 [l0, l1, l2, l3, l4, some (.inl x), l6] st H = rn Ls xs d 68 108 [l0, l1, l2, l3, l4, some (.inl x), l6] (.inl x :: st) H := rn_nx rfl rfl
set_option maxRecDepth 20000 in
theorem e_M_copy_108 : rn Ls xs d 68 108 [l0, l1, l2, l3, l4, l5, l6] (.inl y :: .inl x :: st) H = if y ≤ x then rn Ls xs d 68 138 [l0, l1, l2, l3, l4, l5, l6] st H else rn Ls xs d 68 111 [l0, l1, l2, l3, l4, l5, l6] st H := rn_cmp (p := fun x y => y ≤ x) rfl
set_option maxRecDepth 20000 in
theorem e_M_copy_111 : rn Ls xs d 68 111 [some (.inr u), l1, l2, l3, l4, l5, l6] st H = rn Ls xs d 68 112 [some (.inr u), l1, l2, l3, l4, l5, l6] (.inr u :: st) H := rn_nx rfl rfl
set_option maxRecDepth 20000 in
theorem e_M_copy_112 : rn Ls xs d 68 112 [l0, l1, l2, l3, l4, l5, l6] (.inr (.inl (some a)) :: st) (S, I, R) = if h_is S a 9 36 then rn Ls xs d 68 115 [l0, l1, l2, l3, l4, l5, l6] (.inr (R a 33) :: st) (S, I, R) else none := rn_bc rfl rfl
set_option maxRecDepth 20000 in
theorem e_M_copy_115 : rn Ls xs d 68 115 [l0, l1, l2, l3, l4, l5, some (.inl x)] st H = rn Ls xs d 68 117 [l0, l1, l2, l3, l4, l5, some (.inl x)] (.inl x :: st) H := rn_nx rfl rfl
set_option maxRecDepth 20000 in
theorem e_M_copy_117 : rn Ls xs d 68 117 [some (.inr u), l1, l2, l3, l4, l5, l6] st H = rn Ls xs d 68 118 [some (.inr u), l1, l2, l3, l4, l5, l6] (.inr u :: st) H := rn_nx rfl rfl
set_option maxRecDepth 20000 in
theorem e_M_copy_118 : rn Ls xs d 68 118 [l0, l1, l2, l3, l4, l5, l6] (.inr (.inl (some a)) :: st) (S, I, R) = if h_is S a 9 36 then rn Ls xs d 68 121 [l0, l1, l2, l3, l4, l5, l6] (.inr (R a 28) :: st) (S, I, R) else none := rn_bc rfl rfl
set_option maxRecDepth 20000 in
theorem e_M_copy_121 : rn Ls xs d 68 121 [l0, l1, l2, l3, l4, l5, l6]  st H = rn Ls xs d 68 123 [l0, l1, l2, l3, l4, l5, l6] (.inl 24 :: st) H := rn_nx rfl rfl
set_option maxRecDepth 20000 in
theorem e_M_copy_123 : rn Ls xs d 68 123 [l0, some (.inl x), l2, l3, l4, l5, l6] st H = rn Ls xs d 68 124 [l0, some (.inl x), l2, l3, l4, l5, l6] (.inl x :: st) H := rn_nx rfl rfl
set_option maxRecDepth 20000 in
theorem e_M_copy_124 : rn Ls xs d 68 124 [l0, l1, l2, l3, l4, l5, l6] (.inl y :: .inl x :: st) H = rn Ls xs d 68 125 [l0, l1, l2, l3, l4, l5, l6] (.inl (x * y) :: st) H := rn_nx rfl rfl
set_option maxRecDepth 20000 in
theorem e_M_copy_125 : rn Ls xs d 68 125 [l0, l1, some (.inl x), l3, l4, l5, l6] st H = rn Ls xs d 68 126 [l0, l1, some (.inl x), l3, l4, l5, l6] (.inl x :: st) H := rn_nx rfl rfl
set_option maxRecDepth 20000 in
theorem e_M_copy_126 : rn Ls xs d 68 126 [l0, l1, l2, l3, l4, l5, l6] (.inl y :: .inl x :: st) H = rn Ls xs d 68 127 [l0, l1, l2, l3, l4, l5, l6] (.inl (x + y) :: st) H := rn_nx rfl rfl
set_option maxRecDepth 20000 in
theorem e_M_copy_127 : rn Ls xs d 68 127 [l0, l1, l2, l3, l4, l5, some (.inl x)] st H = rn Ls xs d 68 129 [l0, l1, l2, l3, l4, l5, some (.inl x)] (.inl x :: st) H := rn_nx rfl rfl
set_option maxRecDepth 20000 in
theorem e_M_copy_129 : rn Ls xs d 68 129 [l0, l1, l2, l3, l4, l5, l6] (.inl y :: .inl x :: st) H = rn Ls xs d 68 130 [l0, l1, l2, l3, l4, l5, l6] (.inl (x + y) :: st) H := rn_nx rfl rfl
set_option maxRecDepth 20000 in
theorem e_M_copy_130 : rn Ls xs d 68 130 [l0, l1, l2, l3, l4, l5, l6] (.inl i :: .inr (.inl (some a)) :: st) (S, I, R) = if h_ia S a 0 i then rn Ls xs d 68 131 [l0, l1, l2, l3, l4, l5, l6] (.inl (I a i.toNatClampNeg) :: st) (S, I, R) else none := rn_bc rfl rfl
set_option maxRecDepth 20000 in
theorem e_M_copy_131 : rn Ls xs d 68 131 [l0, l1, l2, l3, l4, l5, l6] (.inl x :: .inl i :: .inr (.inl (some a)) :: st) (S, I, R) = if h_ia S a 0 i then rn Ls xs d 68 132 [l0, l1, l2, l3, l4, l5, l6] st (S, va_up I a (upd (I a) i.toNatClampNeg x), R) else none := rn_bc rfl rfl
set_option maxRecDepth 20000 in
theorem e_M_copy_132 : rn Ls xs d 68 132 [l0, l1, l2, l3, l4, l5, some (.inl x)] st H = rn Ls xs d 68 135 [l0, l1, l2, l3, l4, l5, some (.inl (x + 1))] st H := rn_nx rfl rfl
set_option maxRecDepth 20000 in
theorem e_M_copy_135 : rn Ls xs d 68 135 [l0, l1, l2, l3, l4, l5, l6] st H = rn Ls xs d 68 104 [l0, l1, l2, l3, l4, l5, l6] st H := rn_nx rfl rfl
set_option maxRecDepth 20000 in
theorem e_M_copy_138 : rn Ls xs d 68 138 [l0, l1, l2, l3, l4, l5, l6]  st H = rn Ls xs d 68 139 [l0, l1, l2, l3, l4, l5, l6] (.inl 0 :: st) H := rn_nx rfl rfl
set_option maxRecDepth 20000 in
theorem e_M_copy_139 : rn Ls xs d 68 139 [l0, l1, l2, l3, l4, l5, l6] (.inl x :: st) H = rn Ls xs d 68 141 [l0, l1, l2, l3, l4, l5, some (.inl x)] st H := rn_nx rfl rfl
set_option maxRecDepth 20000 in
theorem e_M_copy_141 : rn Ls xs d 68 141 [l0, l1, l2, l3, l4, l5, some (.inl x)] st H = rn Ls xs d 68 143 [l0, l1, l2, l3, l4, l5, some (.inl x)] (.inl x :: st) H := rn_nx rfl rfl
set_option maxRecDepth 20000 in
theorem e_M_copy_143 : rn Ls xs d 68 143 [l0, l1, l2, l3, l4, some (.inl x), l6] st H = rn Ls xs d 68 145 [l0, l1, l2, l3, l4, some (.inl x), l6] (.inl x :: st) H := rn_nx rfl rfl
set_option maxRecDepth 20000 in
theorem e_M_copy_145 : rn Ls xs d 68 145 [l0, l1, l2, l3, l4, l5, l6] (.inl y :: .inl x :: st) H = if y ≤ x then rn Ls xs d 68 176 [l0, l1, l2, l3, l4, l5, l6] st H else rn Ls xs d 68 148 [l0, l1, l2, l3, l4, l5, l6] st H := rn_cmp (p := fun x y => y ≤ x) rfl
set_option maxRecDepth 20000 in
theorem e_M_copy_148 : rn Ls xs d 68 148 [some (.inr u), l1, l2, l3, l4, l5, l6] st H = rn Ls xs d 68 149 [some (.inr u), l1, l2, l3, l4, l5, l6] (.inr u :: st) H := rn_nx rfl rfl
set_option maxRecDepth 20000 in
theorem e_M_copy_149 : rn Ls xs d 68 149 [l0, l1, l2, l3, l4, l5, l6] (.inr (.inl (some a)) :: st) (S, I, R) = if h_is S a 9 36 then rn Ls xs d 68 152 [l0, l1, l2, l3, l4, l5, l6] (.inr (R a 28) :: st) (S, I, R) else none := rn_bc rfl rfl
set_option maxRecDepth 20000 in
theorem e_M_copy_152 : rn Ls xs d 68 152 [l0, l1, l2, l3, l4, l5, l6]  st H = rn Ls xs d 68 154 [l0, l1, l2, l3, l4, l5, l6] (.inl 24 :: st) H := rn_nx rfl rfl
set_option maxRecDepth 20000 in
theorem e_M_copy_154 : rn Ls xs d 68 154 [l0, l1, l2, some (.inl x), l4, l5, l6] st H = rn Ls xs d 68 155 [l0, l1, l2, some (.inl x), l4, l5, l6] (.inl x :: st) H := rn_nx rfl rfl
set_option maxRecDepth 20000 in
theorem e_M_copy_155 : rn Ls xs d 68 155 [l0, l1, l2, l3, l4, l5, l6] (.inl y :: .inl x :: st) H = rn Ls xs d 68 156 [l0, l1, l2, l3, l4, l5, l6] (.inl (x * y) :: st) H := rn_nx rfl rfl
set_option maxRecDepth 20000 in
theorem e_M_copy_156 : rn Ls xs d 68 156 [l0, l1, l2, l3, some (.inl x), l5, l6] st H = rn Ls xs d 68 158 [l0, l1, l2, l3, some (.inl x), l5, l6] (.inl x :: st) H := rn_nx rfl rfl
set_option maxRecDepth 20000 in
theorem e_M_copy_158 : rn Ls xs d 68 158 [l0, l1, l2, l3, l4, l5, l6] (.inl y :: .inl x :: st) H = rn Ls xs d 68 159 [l0, l1, l2, l3, l4, l5, l6] (.inl (x + y) :: st) H := rn_nx rfl rfl
set_option maxRecDepth 20000 in
theorem e_M_copy_159 : rn Ls xs d 68 159 [l0, l1, l2, l3, l4, l5, some (.inl x)] st H = rn Ls xs d 68 161 [l0, l1, l2, l3, l4, l5, some (.inl x)] (.inl x :: st) H := rn_nx rfl rfl
set_option maxRecDepth 20000 in
theorem e_M_copy_161 : rn Ls xs d 68 161 [l0, l1, l2, l3, l4, l5, l6] (.inl y :: .inl x :: st) H = rn Ls xs d 68 162 [l0, l1, l2, l3, l4, l5, l6] (.inl (x + y) :: st) H := rn_nx rfl rfl
set_option maxRecDepth 20000 in
theorem e_M_copy_162 : rn Ls xs d 68 162 [some (.inr u), l1, l2, l3, l4, l5, l6] st H = rn Ls xs d 68 163 [some (.inr u), l1, l2, l3, l4, l5, l6] (.inr u :: st) H := rn_nx rfl rfl
set_option maxRecDepth 20000 in
theorem e_M_copy_163 : rn Ls xs d 68 163 [l0, l1, l2, l3, l4, l5, l6] (.inr (.inl (some a)) :: st) (S, I, R) = if h_is S a 9 36 then rn Ls xs d 68 166 [l0, l1, l2, l3, l4, l5, l6] (.inr (R a 33) :: st) (S, I, R) else none := rn_bc rfl rfl
set_option maxRecDepth 20000 in
theorem e_M_copy_166 : rn Ls xs d 68 166 [l0, l1, l2, l3, l4, l5, some (.inl x)] st H = rn Ls xs d 68 168 [l0, l1, l2, l3, l4, l5, some (.inl x)] (.inl x :: st) H := rn_nx rfl rfl
set_option maxRecDepth 20000 in
theorem e_M_copy_168 : rn Ls xs d 68 168 [l0, l1, l2, l3, l4, l5, l6] (.inl i :: .inr (.inl (some a)) :: st) (S, I, R) = if h_ia S a 0 i then rn Ls xs d 68 169 [l0, l1, l2, l3, l4, l5, l6] (.inl (I a i.toNatClampNeg) :: st) (S, I, R) else none := rn_bc rfl rfl
set_option maxRecDepth 20000 in
theorem e_M_copy_169 : rn Ls xs d 68 169 [l0, l1, l2, l3, l4, l5, l6] (.inl x :: .inl i :: .inr (.inl (some a)) :: st) (S, I, R) = if h_ia S a 0 i then rn Ls xs d 68 170 [l0, l1, l2, l3, l4, l5, l6] st (S, va_up I a (upd (I a) i.toNatClampNeg x), R) else none := rn_bc rfl rfl
set_option maxRecDepth 20000 in
theorem e_M_copy_170 : rn Ls xs d 68 170 [l0, l1, l2, l3, l4, l5, some (.inl x)] st H = rn Ls xs d 68 173 [l0, l1, l2, l3, l4, l5, some (.inl (x + 1))] st H := rn_nx rfl rfl
set_option maxRecDepth 20000 in
theorem e_M_copy_173 : rn Ls xs d 68 173 [l0, l1, l2, l3, l4, l5, l6] st H = rn Ls xs d 68 141 [l0, l1, l2, l3, l4, l5, l6] st H := rn_nx rfl rfl
set_option maxRecDepth 20000 in
theorem e_M_copy_176 : rn Ls xs d 68 176 [l0, l1, l2, l3, l4, some (.inl x), l6] st H = rn Ls xs d 68 178 [l0, l1, l2, l3, l4, some (.inl x), l6] (.inl x :: st) H := rn_nx rfl rfl
set_option maxRecDepth 20000 in
theorem e_M_copy_178 : rn Ls xs d 68 178 [l0, l1, l2, l3, l4, l5, l6] [.inl x] H = some (some (.inl x), H) := rn_done rfl rfl
theorem e_W_lay_0 : rn Ls xs d 69 0 [l0, some (.inl x), l2, l3, l4, l5] st H = rn Ls xs d 69 1 [l0, some (.inl x), l2, l3, l4, l5] (.inl x :: st) H := rn_nx rfl rfl
theorem e_W_lay_1 : rn Ls xs (d + 1) 69 1 [l0, l1, l2, l3, l4, l5] [v0] H = rb Ls xs (d + 1) 69 4 [l0, l1, l2, l3, l4, l5] [] (rn Ls xs d 165 0 [some v0] [] H) := rn_call rfl (Nat.le_of_ble_eq_true rfl) (Nat.le_of_ble_eq_true rfl) rfl rfl
theorem e_W_lay_4 : rn Ls xs d 69 4 [l0, l1, l2, l3, l4, l5] (.inl x :: st) H = if x = 0 then rn Ls xs d 69 16 [l0, l1, l2, l3, l4, l5] st H else rn Ls xs d 69 7 [l0, l1, l2, l3, l4, l5] st H := rn_if (p := fun x => x = 0) rfl
theorem e_W_lay_7 : rn Ls xs d 69 7 [l0, l1, some (.inl x), l3, l4, l5] st H = rn Ls xs d 69 8 [l0, l1, some (.inl x), l3, l4, l5] (.inl x :: st) H := rn_nx rfl rfl
theorem e_W_lay_8 : rn Ls xs d 69 8 [l0, l1, l2, l3, l4, l5]  st H = rn Ls xs d 69 9 [l0, l1, l2, l3, l4, l5] (.inl 0 :: st) H := rn_nx rfl rfl
theorem e_W_lay_9 : rn Ls xs d 69 9 [l0, l1, l2, l3, l4, l5]  st H = rn Ls xs d 69 10 [l0, l1, l2, l3, l4, l5] (.inl 3 :: st) H := rn_nx rfl rfl
theorem e_W_lay_10 : rn Ls xs (d + 1) 69 10 [l0, l1, l2, l3, l4, l5] [v2, v1, v0] H = rb Ls xs (d + 1) 69 13 [l0, l1, l2, l3, l4, l5] [] (rn Ls xs d 94 0 [some v0, some v1, some v2] [] H) := rn_call rfl (Nat.le_of_ble_eq_true rfl) (Nat.le_of_ble_eq_true rfl) rfl rfl
theorem e_W_lay_13 : rn Ls xs d 69 13 [l0, l1, l2, l3, l4, l5] (.inl x :: st) H = if x ≠ 0 then rn Ls xs d 69 19 [l0, l1, l2, l3, l4, l5] st H else rn Ls xs d 69 16 [l0, l1, l2, l3, l4, l5] st H := rn_if (p := fun x => x ≠ 0) rfl
theorem e_W_lay_16 : rn Ls xs d 69 16 [l0, l1, l2, l3, l4, l5]  st H = rn Ls xs d 69 18 [l0, l1, l2, l3, l4, l5] (.inl (-1000000001) :: st) H := rn_nx rfl rfl
theorem e_W_lay_18 : rn Ls xs d 69 18 [l0, l1, l2, l3, l4, l5] [.inl x] H = some (some (.inl x), H) := rn_done rfl rfl
theorem e_W_lay_19 : rn Ls xs d 69 19 [l0, l1, some (.inl x), l3, l4, l5] st H = rn Ls xs d 69 20 [l0, l1, some (.inl x), l3, l4, l5] (.inl x :: st) H := rn_nx rfl rfl
theorem e_W_lay_20 : rn Ls xs d 69 20 [l0, l1, l2, l3, l4, l5]  st H = rn Ls xs d 69 21 [l0, l1, l2, l3, l4, l5] (.inl 1 :: st) H := rn_nx rfl rfl
theorem e_W_lay_21 : rn Ls xs d 69 21 [l0, l1, l2, l3, l4, l5] (.inl y :: .inl x :: st) H = if x ≠ y then rn Ls xs d 69 35 [l0, l1, l2, l3, l4, l5] st H else rn Ls xs d 69 24 [l0, l1, l2, l3, l4, l5] st H := rn_cmp (p := fun x y => x ≠ y) rfl
theorem e_W_lay_24 : rn Ls xs d 69 24 [some (.inr u), l1, l2, l3, l4, l5] st H = rn Ls xs d 69 25 [some (.inr u), l1, l2, l3, l4, l5] (.inr u :: st) H := rn_nx rfl rfl
theorem e_W_lay_25 : rn Ls xs d 69 25 [l0, l1, l2, l3, l4, l5] (.inr (.inl (some a)) :: st) (S, I, R) = if h_is S a 8 10 then rn Ls xs d 69 28 [l0, l1, l2, l3, l4, l5] (.inr (R a 0) :: st) (S, I, R) else none := rn_bc rfl rfl
theorem e_W_lay_28 : rn Ls xs d 69 28 [l0, l1, l2, some (.inl x), l4, l5] st H = rn Ls xs d 69 29 [l0, l1, l2, some (.inl x), l4, l5] (.inl x :: st) H := rn_nx rfl rfl
theorem e_W_lay_29 : rn Ls xs (d + 1) 69 29 [l0, l1, l2, l3, l4, l5] [v1, (.inr (.inl (some a)))] (S, I, R) = if h_is S a 3 11 then rb Ls xs (d + 1) 69 32 [l0, l1, l2, l3, l4, l5] [] (rn Ls xs d 100 0 [some (.inr (.inl (some a))), some v1] [] (S, I, R)) else none := rn_callO rfl rfl (Nat.le_of_ble_eq_true rfl) rfl rfl
theorem e_W_lay_32 : rn Ls xs d 69 32 [l0, l1, l2, l3, l4, l5] (.inl x :: st) H = if x = 0 then rn Ls xs d 69 47 [l0, l1, l2, l3, l4, l5] st H else rn Ls xs d 69 35 [l0, l1, l2, l3, l4, l5] st H := rn_if (p := fun x => x = 0) rfl
theorem e_W_lay_35 : rn Ls xs d 69 35 [l0, l1, some (.inl x), l3, l4, l5] st H = rn Ls xs d 69 36 [l0, l1, some (.inl x), l3, l4, l5] (.inl x :: st) H := rn_nx rfl rfl
theorem e_W_lay_36 : rn Ls xs d 69 36 [l0, l1, l2, l3, l4, l5]  st H = rn Ls xs d 69 37 [l0, l1, l2, l3, l4, l5] (.inl 2 :: st) H := rn_nx rfl rfl
theorem e_W_lay_37 : rn Ls xs d 69 37 [l0, l1, l2, l3, l4, l5] (.inl y :: .inl x :: st) H = if x ≠ y then rn Ls xs d 69 50 [l0, l1, l2, l3, l4, l5] st H else rn Ls xs d 69 40 [l0, l1, l2, l3, l4, l5] st H := rn_cmp (p := fun x y => x ≠ y) rfl
theorem e_W_lay_40 : rn Ls xs d 69 40 [l0, l1, l2, some (.inl x), l4, l5] st H = rn Ls xs d 69 41 [l0, l1, l2, some (.inl x), l4, l5] (.inl x :: st) H := rn_nx rfl rfl
theorem e_W_lay_41 : rn Ls xs (d + 1) 69 41 [l0, l1, l2, l3, l4, l5] [v0] H = rb Ls xs (d + 1) 69 44 [l0, l1, l2, l3, l4, l5] [] (rn Ls xs d 143 0 [some v0] [] H) := rn_call rfl (Nat.le_of_ble_eq_true rfl) (Nat.le_of_ble_eq_true rfl) rfl rfl
theorem e_W_lay_44 : rn Ls xs d 69 44 [l0, l1, l2, l3, l4, l5] (.inl x :: st) H = if x ≠ 0 then rn Ls xs d 69 50 [l0, l1, l2, l3, l4, l5] st H else rn Ls xs d 69 47 [l0, l1, l2, l3, l4, l5] st H := rn_if (p := fun x => x ≠ 0) rfl
theorem e_W_lay_47 : rn Ls xs d 69 47 [l0, l1, l2, l3, l4, l5]  st H = rn Ls xs d 69 49 [l0, l1, l2, l3, l4, l5] (.inl (-1000000001) :: st) H := rn_nx rfl rfl
theorem e_W_lay_49 : rn Ls xs d 69 49 [l0, l1, l2, l3, l4, l5] [.inl x] H = some (some (.inl x), H) := rn_done rfl rfl
theorem e_W_lay_50 : rn Ls xs d 69 50 [l0, l1, some (.inl x), l3, l4, l5] st H = rn Ls xs d 69 51 [l0, l1, some (.inl x), l3, l4, l5] (.inl x :: st) H := rn_nx rfl rfl
theorem e_W_lay_51 : rn Ls xs d 69 51 [l0, l1, l2, l3, l4, l5]  st H = rn Ls xs d 69 52 [l0, l1, l2, l3, l4, l5] (.inl 2 :: st) H := rn_nx rfl rfl
theorem e_W_lay_52 : rn Ls xs d 69 52 [l0, l1, l2, l3, l4, l5] (.inl y :: .inl x :: st) H = if x ≠ y then rn Ls xs d 69 70 [l0, l1, l2, l3, l4, l5] st H else rn Ls xs d 69 55 [l0, l1, l2, l3, l4, l5] st H := rn_cmp (p := fun x y => x ≠ y) rfl
theorem e_W_lay_55 : rn Ls xs d 69 55 [some (.inr u), l1, l2, l3, l4, l5] st H = rn Ls xs d 69 56 [some (.inr u), l1, l2, l3, l4, l5] (.inr u :: st) H := rn_nx rfl rfl
theorem e_W_lay_56 : rn Ls xs d 69 56 [l0, l1, l2, l3, l4, l5] (.inr (.inl (some a)) :: st) (S, I, R) = if h_is S a 8 10 then rn Ls xs d 69 59 [l0, l1, l2, l3, l4, l5] (.inr (R a 5) :: st) (S, I, R) else none := rn_bc rfl rfl
theorem e_W_lay_59 : rn Ls xs d 69 59 [l0, l1, l2, some (.inl x), l4, l5] st H = rn Ls xs d 69 60 [l0, l1, l2, some (.inl x), l4, l5] (.inl x :: st) H := rn_nx rfl rfl
theorem e_W_lay_60 : rn Ls xs d 69 60 [l0, l1, l2, l3, l4, l5] (.inl i :: .inr (.inl (some a)) :: st) (S, I, R) = if h_ia S a 6 i then (match R a i.toNatClampNeg with | .inl o => rn Ls xs d 69 61 [l0, l1, l2, l3, l4, l5] (.inr (.inl o) :: st) (S, I, R) | .inr _ => none) else none := rn_aald rfl
theorem e_W_lay_61 : rn Ls xs (d + 1) 69 61 [l0, l1, l2, l3, l4, l5] [(.inr (.inl (some a)))] (S, I, R) = if h_is S a 2 3 then rb Ls xs (d + 1) 69 64 [l0, l1, l2, l3, l4, l5] [] (rn Ls xs d 144 0 [some (.inr (.inl (some a)))] [] (S, I, R)) else none := rn_callO rfl rfl (Nat.le_of_ble_eq_true rfl) rfl rfl
theorem e_W_lay_64 : rn Ls xs d 69 64 [l0, l1, l2, l3, l4, l5] (.inl x :: st) H = if x = 0 then rn Ls xs d 69 70 [l0, l1, l2, l3, l4, l5] st H else rn Ls xs d 69 67 [l0, l1, l2, l3, l4, l5] st H := rn_if (p := fun x => x = 0) rfl
theorem e_W_lay_67 : rn Ls xs d 69 67 [l0, l1, l2, l3, l4, l5]  st H = rn Ls xs d 69 69 [l0, l1, l2, l3, l4, l5] (.inl (-1000000011) :: st) H := rn_nx rfl rfl
theorem e_W_lay_69 : rn Ls xs d 69 69 [l0, l1, l2, l3, l4, l5] [.inl x] H = some (some (.inl x), H) := rn_done rfl rfl
theorem e_W_lay_70 : rn Ls xs d 69 70 [some (.inr u), l1, l2, l3, l4, l5] st H = rn Ls xs d 69 71 [some (.inr u), l1, l2, l3, l4, l5] (.inr u :: st) H := rn_nx rfl rfl
theorem e_W_lay_71 : rn Ls xs d 69 71 [l0, l1, l2, l3, l4, l5] (.inr (.inl (some a)) :: st) (S, I, R) = if h_is S a 8 10 then rn Ls xs d 69 74 [l0, l1, l2, l3, l4, l5] (.inr (R a 6) :: st) (S, I, R) else none := rn_bc rfl rfl
theorem e_W_lay_74 : rn Ls xs d 69 74 [l0, some (.inl x), l2, l3, l4, l5] st H = rn Ls xs d 69 75 [l0, some (.inl x), l2, l3, l4, l5] (.inl x :: st) H := rn_nx rfl rfl
theorem e_W_lay_75 : rn Ls xs d 69 75 [l0, l1, l2, l3, l4, l5] (.inl i :: .inr (.inl (some a)) :: st) (S, I, R) = if h_ia S a 7 i then (match R a i.toNatClampNeg with | .inl o => rn Ls xs d 69 76 [l0, l1, l2, l3, l4, l5] (.inr (.inl o) :: st) (S, I, R) | .inr _ => none) else none := rn_aald rfl
theorem e_W_lay_76 : rn Ls xs d 69 76 [l0, l1, l2, l3, l4, l5] (.inr u :: st) H = rn Ls xs d 69 78 [l0, l1, l2, l3, some (.inr u), l5] st H := rn_nx rfl rfl
theorem e_W_lay_78 : rn Ls xs d 69 78 [l0, l1, l2, l3, some (.inr u), l5] st H = rn Ls xs d 69 80 [l0, l1, l2, l3, some (.inr u), l5] (.inr u :: st) H := rn_nx rfl rfl
theorem e_W_lay_80 : rn Ls xs d 69 80 [l0, l1, l2, l3, l4, l5] (.inr (.inl (some a)) :: st) (S, I, R) = if h_is S a 4 4 then rn Ls xs d 69 83 [l0, l1, l2, l3, l4, l5] (.inl (I a 3) :: st) (S, I, R) else none := rn_bc rfl rfl
theorem e_W_lay_83 : rn Ls xs d 69 83 [l0, l1, l2, l3, l4, l5] (.inl x :: st) H = rn Ls xs d 69 85 [l0, l1, l2, l3, l4, some (.inl x)] st H := rn_nx rfl rfl
theorem e_W_lay_85 : rn Ls xs d 69 85 [l0, l1, l2, l3, some (.inr u), l5] st H = rn Ls xs d 69 87 [l0, l1, l2, l3, some (.inr u), l5] (.inr u :: st) H := rn_nx rfl rfl
theorem e_W_lay_87 : rn Ls xs d 69 87 [l0, l1, some (.inl x), l3, l4, l5] st H = rn Ls xs d 69 88 [l0, l1, some (.inl x), l3, l4, l5] (.inl x :: st) H := rn_nx rfl rfl
theorem e_W_lay_88 : rn Ls xs d 69 88 [l0, l1, l2, l3, l4, l5] (.inl x :: .inr (.inl (some a)) :: st) (S, I, R) = if h_is S a 4 4 then rn Ls xs d 69 91 [l0, l1, l2, l3, l4, l5] st (S, va_up I a (upd (I a) 3 x), R) else none := rn_bc rfl rfl
theorem e_W_lay_91 : rn Ls xs d 69 91 [l0, l1, some (.inl x), l3, l4, l5] st H = rn Ls xs d 69 92 [l0, l1, some (.inl x), l3, l4, l5] (.inl x :: st) H := rn_nx rfl rfl
theorem e_W_lay_92 : rn Ls xs d 69 92 [l0, l1, l2, l3, l4, l5]  st H = rn Ls xs d 69 93 [l0, l1, l2, l3, l4, l5] (.inl 1 :: st) H := rn_nx rfl rfl
theorem e_W_lay_93 : rn Ls xs d 69 93 [l0, l1, l2, l3, l4, l5] (.inl y :: .inl x :: st) H = if x ≠ y then rn Ls xs d 69 116 [l0, l1, l2, l3, l4, l5] st H else rn Ls xs d 69 96 [l0, l1, l2, l3, l4, l5] st H := rn_cmp (p := fun x y => x ≠ y) rfl
theorem e_W_lay_96 : rn Ls xs d 69 96 [l0, l1, l2, l3, some (.inr u), l5] st H = rn Ls xs d 69 98 [l0, l1, l2, l3, some (.inr u), l5] (.inr u :: st) H := rn_nx rfl rfl
theorem e_W_lay_98 : rn Ls xs d 69 98 [l0, l1, l2, l3, l4, l5] (.inr (.inl (some a)) :: st) (S, I, R) = if h_is S a 4 4 then rn Ls xs d 69 101 [l0, l1, l2, l3, l4, l5] (.inr (R a 0) :: st) (S, I, R) else none := rn_bc rfl rfl
theorem e_W_lay_101 : rn Ls xs d 69 101 [some (.inr u), l1, l2, l3, l4, l5] st H = rn Ls xs d 69 102 [some (.inr u), l1, l2, l3, l4, l5] (.inr u :: st) H := rn_nx rfl rfl
theorem e_W_lay_102 : rn Ls xs d 69 102 [l0, l1, l2, l3, l4, l5] (.inr (.inl (some a)) :: st) (S, I, R) = if h_is S a 8 10 then rn Ls xs d 69 105 [l0, l1, l2, l3, l4, l5] (.inr (R a 0) :: st) (S, I, R) else none := rn_bc rfl rfl
theorem e_W_lay_105 : rn Ls xs d 69 105 [l0, l1, l2, l3, l4, l5] (.inr (.inl (some a)) :: st) (S, I, R) = if h_is S a 3 11 then rn Ls xs d 69 108 [l0, l1, l2, l3, l4, l5] (.inr (R a 0) :: st) (S, I, R) else none := rn_bc rfl rfl
theorem e_W_lay_108 : rn Ls xs d 69 108 [l0, l1, l2, some (.inl x), l4, l5] st H = rn Ls xs d 69 109 [l0, l1, l2, some (.inl x), l4, l5] (.inl x :: st) H := rn_nx rfl rfl
theorem e_W_lay_109 : rn Ls xs d 69 109 [l0, l1, l2, l3, l4, l5] (.inl i :: .inr (.inl (some a)) :: st) (S, I, R) = if h_ia S a 4 i then (match R a i.toNatClampNeg with | .inl o => rn Ls xs d 69 110 [l0, l1, l2, l3, l4, l5] (.inr (.inl o) :: st) (S, I, R) | .inr _ => none) else none := rn_aald rfl
theorem e_W_lay_110 : rn Ls xs (d + 1) 69 110 [l0, l1, l2, l3, l4, l5] [v1, (.inr (.inl (some a)))] (S, I, R) = if h_is S a 7 6 then rb Ls xs (d + 1) 69 113 [l0, l1, l2, l3, l4, l5] [] (rn Ls xs d 166 0 [some (.inr (.inl (some a))), some v1] [] (S, I, R)) else none := rn_callO rfl rfl (Nat.le_of_ble_eq_true rfl) rfl rfl
theorem e_W_lay_113 : rn Ls xs d 69 113 [l0, l1, l2, l3, l4, l5] st H = rn Ls xs d 69 144 [l0, l1, l2, l3, l4, l5] st H := rn_nx rfl rfl
theorem e_W_lay_116 : rn Ls xs d 69 116 [l0, l1, some (.inl x), l3, l4, l5] st H = rn Ls xs d 69 117 [l0, l1, some (.inl x), l3, l4, l5] (.inl x :: st) H := rn_nx rfl rfl
theorem e_W_lay_117 : rn Ls xs d 69 117 [l0, l1, l2, l3, l4, l5]  st H = rn Ls xs d 69 118 [l0, l1, l2, l3, l4, l5] (.inl 2 :: st) H := rn_nx rfl rfl
theorem e_W_lay_118 : rn Ls xs d 69 118 [l0, l1, l2, l3, l4, l5] (.inl y :: .inl x :: st) H = if x ≠ y then rn Ls xs d 69 138 [l0, l1, l2, l3, l4, l5] st H else rn Ls xs d 69 121 [l0, l1, l2, l3, l4, l5] st H := rn_cmp (p := fun x y => x ≠ y) rfl
theorem e_W_lay_121 : rn Ls xs d 69 121 [l0, l1, l2, l3, some (.inr u), l5] st H = rn Ls xs d 69 123 [l0, l1, l2, l3, some (.inr u), l5] (.inr u :: st) H := rn_nx rfl rfl
theorem e_W_lay_123 : rn Ls xs d 69 123 [l0, l1, l2, l3, l4, l5] (.inr (.inl (some a)) :: st) (S, I, R) = if h_is S a 4 4 then rn Ls xs d 69 126 [l0, l1, l2, l3, l4, l5] (.inr (R a 1) :: st) (S, I, R) else none := rn_bc rfl rfl
theorem e_W_lay_126 : rn Ls xs d 69 126 [some (.inr u), l1, l2, l3, l4, l5] st H = rn Ls xs d 69 127 [some (.inr u), l1, l2, l3, l4, l5] (.inr u :: st) H := rn_nx rfl rfl
theorem e_W_lay_127 : rn Ls xs d 69 127 [l0, l1, l2, l3, l4, l5] (.inr (.inl (some a)) :: st) (S, I, R) = if h_is S a 8 10 then rn Ls xs d 69 130 [l0, l1, l2, l3, l4, l5] (.inr (R a 5) :: st) (S, I, R) else none := rn_bc rfl rfl
theorem e_W_lay_130 : rn Ls xs d 69 130 [l0, l1, l2, some (.inl x), l4, l5] st H = rn Ls xs d 69 131 [l0, l1, l2, some (.inl x), l4, l5] (.inl x :: st) H := rn_nx rfl rfl
theorem e_W_lay_131 : rn Ls xs d 69 131 [l0, l1, l2, l3, l4, l5] (.inl i :: .inr (.inl (some a)) :: st) (S, I, R) = if h_ia S a 6 i then (match R a i.toNatClampNeg with | .inl o => rn Ls xs d 69 132 [l0, l1, l2, l3, l4, l5] (.inr (.inl o) :: st) (S, I, R) | .inr _ => none) else none := rn_aald rfl
theorem e_W_lay_132 : rn Ls xs (d + 1) 69 132 [l0, l1, l2, l3, l4, l5] [v1, (.inr (.inl (some a)))] (S, I, R) = if h_is S a 2 3 then rb Ls xs (d + 1) 69 135 [l0, l1, l2, l3, l4, l5] [] (rn Ls xs d 167 0 [some (.inr (.inl (some a))), some v1] [] (S, I, R)) else none := rn_callO rfl rfl (Nat.le_of_ble_eq_true rfl) rfl rfl
theorem e_W_lay_135 : rn Ls xs d 69 135 [l0, l1, l2, l3, l4, l5] st H = rn Ls xs d 69 144 [l0, l1, l2, l3, l4, l5] st H := rn_nx rfl rfl
theorem e_W_lay_138 : rn Ls xs d 69 138 [l0, l1, l2, l3, some (.inr u), l5] st H = rn Ls xs d 69 140 [l0, l1, l2, l3, some (.inr u), l5] (.inr u :: st) H := rn_nx rfl rfl
theorem e_W_lay_140 : rn Ls xs d 69 140 [l0, l1, l2, some (.inl x), l4, l5] st H = rn Ls xs d 69 141 [l0, l1, l2, some (.inl x), l4, l5] (.inl x :: st) H := rn_nx rfl rfl
theorem e_W_lay_141 : rn Ls xs d 69 141 [l0, l1, l2, l3, l4, l5] (.inl x :: .inr (.inl (some a)) :: st) (S, I, R) = if h_is S a 4 4 then rn Ls xs d 69 144 [l0, l1, l2, l3, l4, l5] st (S, va_up I a (upd (I a) 2 x), R) else none := rn_bc rfl rfl
theorem e_W_lay_144 : rn Ls xs d 69 144 [l0, l1, l2, l3, l4, some (.inl x)] st H = rn Ls xs d 69 146 [l0, l1, l2, l3, l4, some (.inl x)] (.inl x :: st) H := rn_nx rfl rfl
theorem e_W_lay_146 : rn Ls xs d 69 146 [l0, l1, l2, l3, l4, l5] [.inl x] H = some (some (.inl x), H) := rn_done rfl rfl
set_option maxRecDepth 20000 in
theorem e_M_lay_0 : rn Ls xs d 70 0 [l0, some (.inl x), l2, l3, l4, l5] st H = rn Ls xs d 70 1 [l0, some (.inl x), l2, l3, l4, l5] (.inl x :: st) H := rn_nx rfl rfl
set_option maxRecDepth 20000 in
theorem e_M_lay_1 : rn Ls xs (d + 1) 70 1 [l0, l1, l2, l3, l4, l5] [v0] H = rb Ls xs (d + 1) 70 4 [l0, l1, l2, l3, l4, l5] [] (rn Ls xs d 168 0 [some v0] [] H) := rn_call rfl (Nat.le_of_ble_eq_true rfl) (Nat.le_of_ble_eq_true rfl) rfl rfl
set_option maxRecDepth 20000 in
theorem e_M_lay_4 : rn Ls xs d 70 4 [l0, l1, l2, l3, l4, l5] (.inl x :: st) H = if x = 0 then rn Ls xs d 70 41 [l0, l1, l2, l3, l4, l5] st H else rn Ls xs d 70 7 [l0, l1, l2, l3, l4, l5] st H := rn_if (p := fun x => x = 0) rfl
set_option maxRecDepth 20000 in
theorem e_M_lay_7 : rn Ls xs d 70 7 [l0, l1, some (.inl x), l3, l4, l5] st H = rn Ls xs d 70 8 [l0, l1, some (.inl x), l3, l4, l5] (.inl x :: st) H := rn_nx rfl rfl
set_option maxRecDepth 20000 in
theorem e_M_lay_8 : rn Ls xs d 70 8 [l0, l1, l2, l3, l4, l5]  st H = rn Ls xs d 70 9 [l0, l1, l2, l3, l4, l5] (.inl 0 :: st) H := rn_nx rfl rfl
set_option maxRecDepth 20000 in
theorem e_M_lay_9 : rn Ls xs d 70 9 [l0, l1, l2, l3, l4, l5]  st H = rn Ls xs d 70 10 [l0, l1, l2, l3, l4, l5] (.inl 3 :: st) H := rn_nx rfl rfl
set_option maxRecDepth 20000 in
theorem e_M_lay_10 : rn Ls xs (d + 1) 70 10 [l0, l1, l2, l3, l4, l5] [v2, v1, v0] H = rb Ls xs (d + 1) 70 13 [l0, l1, l2, l3, l4, l5] [] (rn Ls xs d 97 0 [some v0, some v1, some v2] [] H) := rn_call rfl (Nat.le_of_ble_eq_true rfl) (Nat.le_of_ble_eq_true rfl) rfl rfl
set_option maxRecDepth 20000 in
theorem e_M_lay_13 : rn Ls xs d 70 13 [l0, l1, l2, l3, l4, l5] (.inl x :: st) H = if x = 0 then rn Ls xs d 70 41 [l0, l1, l2, l3, l4, l5] st H else rn Ls xs d 70 16 [l0, l1, l2, l3, l4, l5] st H := rn_if (p := fun x => x = 0) rfl
set_option maxRecDepth 20000 in
theorem e_M_lay_16 : rn Ls xs d 70 16 [l0, l1, some (.inl x), l3, l4, l5] st H = rn Ls xs d 70 17 [l0, l1, some (.inl x), l3, l4, l5] (.inl x :: st) H := rn_nx rfl rfl
set_option maxRecDepth 20000 in
theorem e_M_lay_17 : rn Ls xs d 70 17 [l0, l1, l2, l3, l4, l5]  st H = rn Ls xs d 70 18 [l0, l1, l2, l3, l4, l5] (.inl 1 :: st) H := rn_nx rfl rfl
set_option maxRecDepth 20000 in
theorem e_M_lay_18 : rn Ls xs d 70 18 [l0, l1, l2, l3, l4, l5] (.inl y :: .inl x :: st) H = if x ≠ y then rn Ls xs d 70 29 [l0, l1, l2, l3, l4, l5] st H else rn Ls xs d 70 21 [l0, l1, l2, l3, l4, l5] st H := rn_cmp (p := fun x y => x ≠ y) rfl
set_option maxRecDepth 20000 in
theorem e_M_lay_21 : rn Ls xs d 70 21 [some (.inr u), l1, l2, l3, l4, l5] st H = rn Ls xs d 70 22 [some (.inr u), l1, l2, l3, l4, l5] (.inr u :: st) H := rn_nx rfl rfl
set_option maxRecDepth 20000 in
theorem e_M_lay_22 : rn Ls xs d 70 22 [l0, l1, l2, some (.inl x), l4, l5] st H = rn Ls xs d 70 23 [l0, l1, l2, some (.inl x), l4, l5] (.inl x :: st) H := rn_nx rfl rfl
set_option maxRecDepth 20000 in
theorem e_M_lay_23 : rn Ls xs (d + 1) 70 23 [l0, l1, l2, l3, l4, l5] [v1, (.inr (.inl (some a)))] (S, I, R) = if h_is S a 9 36 then rb Ls xs (d + 1) 70 26 [l0, l1, l2, l3, l4, l5] [] (rn Ls xs d 104 0 [some (.inr (.inl (some a))), some v1] [] (S, I, R)) else none := rn_callO rfl rfl (Nat.le_of_ble_eq_true rfl) rfl rfl
set_option maxRecDepth 20000 in
theorem e_M_lay_26 : rn Ls xs d 70 26 [l0, l1, l2, l3, l4, l5] (.inl x :: st) H = if x = 0 then rn Ls xs d 70 41 [l0, l1, l2, l3, l4, l5] st H else rn Ls xs d 70 29 [l0, l1, l2, l3, l4, l5] st H := rn_if (p := fun x => x = 0) rfl
set_option maxRecDepth 20000 in
theorem e_M_lay_29 : rn Ls xs d 70 29 [l0, l1, some (.inl x), l3, l4, l5] st H = rn Ls xs d 70 30 [l0, l1, some (.inl x), l3, l4, l5] (.inl x :: st) H := rn_nx rfl rfl
set_option maxRecDepth 20000 in
theorem e_M_lay_30 : rn Ls xs d 70 30 [l0, l1, l2, l3, l4, l5]  st H = rn Ls xs d 70 31 [l0, l1, l2, l3, l4, l5] (.inl 2 :: st) H := rn_nx rfl rfl
set_option maxRecDepth 20000 in
theorem e_M_lay_31 : rn Ls xs d 70 31 [l0, l1, l2, l3, l4, l5] (.inl y :: .inl x :: st) H = if x ≠ y then rn Ls xs d 70 44 [l0, l1, l2, l3, l4, l5] st H else rn Ls xs d 70 34 [l0, l1, l2, l3, l4, l5] st H := rn_cmp (p := fun x y => x ≠ y) rfl
set_option maxRecDepth 20000 in
theorem e_M_lay_34 : rn Ls xs d 70 34 [l0, l1, l2, some (.inl x), l4, l5] st H = rn Ls xs d 70 35 [l0, l1, l2, some (.inl x), l4, l5] (.inl x :: st) H := rn_nx rfl rfl
set_option maxRecDepth 20000 in
theorem e_M_lay_35 : rn Ls xs (d + 1) 70 35 [l0, l1, l2, l3, l4, l5] [v0] H = rb Ls xs (d + 1) 70 38 [l0, l1, l2, l3, l4, l5] [] (rn Ls xs d 146 0 [some v0] [] H) := rn_call rfl (Nat.le_of_ble_eq_true rfl) (Nat.le_of_ble_eq_true rfl) rfl rfl
set_option maxRecDepth 20000 in
theorem e_M_lay_38 : rn Ls xs d 70 38 [l0, l1, l2, l3, l4, l5] (.inl x :: st) H = if x ≠ 0 then rn Ls xs d 70 44 [l0, l1, l2, l3, l4, l5] st H else rn Ls xs d 70 41 [l0, l1, l2, l3, l4, l5] st H := rn_if (p := fun x => x ≠ 0) rfl
set_option maxRecDepth 20000 in
theorem e_M_lay_41 : rn Ls xs d 70 41 [l0, l1, l2, l3, l4, l5]  st H = rn Ls xs d 70 43 [l0, l1, l2, l3, l4, l5] (.inl (-1000000001) :: st) H := rn_nx rfl rfl
set_option maxRecDepth 20000 in
theorem e_M_lay_43 : rn Ls xs d 70 43 [l0, l1, l2, l3, l4, l5] [.inl x] H = some (some (.inl x), H) := rn_done rfl rfl
set_option maxRecDepth 20000 in
theorem e_M_lay_44 : rn Ls xs d 70 44 [l0, l1, some (.inl x), l3, l4, l5] st H = rn Ls xs d 70 45 [l0, l1, some (.inl x), l3, l4, l5] (.inl x :: st) H := rn_nx rfl rfl
set_option maxRecDepth 20000 in
theorem e_M_lay_45 : rn Ls xs d 70 45 [l0, l1, l2, l3, l4, l5]  st H = rn Ls xs d 70 46 [l0, l1, l2, l3, l4, l5] (.inl 2 :: st) H := rn_nx rfl rfl
set_option maxRecDepth 20000 in
theorem e_M_lay_46 : rn Ls xs d 70 46 [l0, l1, l2, l3, l4, l5] (.inl y :: .inl x :: st) H = if x ≠ y then rn Ls xs d 70 61 [l0, l1, l2, l3, l4, l5] st H else rn Ls xs d 70 49 [l0, l1, l2, l3, l4, l5] st H := rn_cmp (p := fun x y => x ≠ y) rfl
set_option maxRecDepth 20000 in
theorem e_M_lay_49 : rn Ls xs d 70 49 [some (.inr u), l1, l2, l3, l4, l5] st H = rn Ls xs d 70 50 [some (.inr u), l1, l2, l3, l4, l5] (.inr u :: st) H := rn_nx rfl rfl
set_option maxRecDepth 20000 in
theorem e_M_lay_50 : rn Ls xs d 70 50 [l0, l1, l2, l3, l4, l5] (.inr (.inl (some a)) :: st) (S, I, R) = if h_is S a 9 36 then rn Ls xs d 70 53 [l0, l1, l2, l3, l4, l5] (.inr (R a 26) :: st) (S, I, R) else none := rn_bc rfl rfl
set_option maxRecDepth 20000 in
theorem e_M_lay_53 : rn Ls xs d 70 53 [l0, l1, l2, some (.inl x), l4, l5] st H = rn Ls xs d 70 54 [l0, l1, l2, some (.inl x), l4, l5] (.inl x :: st) H := rn_nx rfl rfl
set_option maxRecDepth 20000 in
theorem e_M_lay_54 : rn Ls xs d 70 54 [l0, l1, l2, l3, l4, l5] (.inl i :: .inr (.inl (some a)) :: st) (S, I, R) = if h_ia S a 0 i then rn Ls xs d 70 55 [l0, l1, l2, l3, l4, l5] (.inl (I a i.toNatClampNeg) :: st) (S, I, R) else none := rn_bc rfl rfl
set_option maxRecDepth 20000 in
theorem e_M_lay_55 : rn Ls xs d 70 55 [l0, l1, l2, l3, l4, l5] (.inl x :: st) H = if 0 ≤ x then rn Ls xs d 70 61 [l0, l1, l2, l3, l4, l5] st H else rn Ls xs d 70 58 [l0, l1, l2, l3, l4, l5] st H := rn_if (p := fun x => 0 ≤ x) rfl
set_option maxRecDepth 20000 in
theorem e_M_lay_58 : rn Ls xs d 70 58 [l0, l1, l2, l3, l4, l5]  st H = rn Ls xs d 70 60 [l0, l1, l2, l3, l4, l5] (.inl (-1000000011) :: st) H := rn_nx rfl rfl
set_option maxRecDepth 20000 in
theorem e_M_lay_60 : rn Ls xs d 70 60 [l0, l1, l2, l3, l4, l5] [.inl x] H = some (some (.inl x), H) := rn_done rfl rfl
set_option maxRecDepth 20000 in
theorem e_M_lay_61 : rn Ls xs d 70 61 [some (.inr u), l1, l2, l3, l4, l5] st H = rn Ls xs d 70 62 [some (.inr u), l1, l2, l3, l4, l5] (.inr u :: st) H := rn_nx rfl rfl
set_option maxRecDepth 20000 in
theorem e_M_lay_62 : rn Ls xs d 70 62 [l0, l1, l2, l3, l4, l5] (.inr (.inl (some a)) :: st) (S, I, R) = if h_is S a 9 36 then rn Ls xs d 70 65 [l0, l1, l2, l3, l4, l5] (.inr (R a 29) :: st) (S, I, R) else none := rn_bc rfl rfl
set_option maxRecDepth 20000 in
theorem e_M_lay_65 : rn Ls xs d 70 65 [l0, some (.inl x), l2, l3, l4, l5] st H = rn Ls xs d 70 66 [l0, some (.inl x), l2, l3, l4, l5] (.inl x :: st) H := rn_nx rfl rfl
set_option maxRecDepth 20000 in
theorem e_M_lay_66 : rn Ls xs d 70 66 [l0, l1, l2, l3, l4, l5] (.inl i :: .inr (.inl (some a)) :: st) (S, I, R) = if h_ia S a 0 i then rn Ls xs d 70 67 [l0, l1, l2, l3, l4, l5] (.inl (I a i.toNatClampNeg) :: st) (S, I, R) else none := rn_bc rfl rfl
set_option maxRecDepth 20000 in
theorem e_M_lay_67 : rn Ls xs d 70 67 [l0, l1, l2, l3, l4, l5] (.inl x :: st) H = rn Ls xs d 70 69 [l0, l1, l2, l3, some (.inl x), l5] st H := rn_nx rfl rfl
set_option maxRecDepth 20000 in
theorem e_M_lay_69 : rn Ls xs d 70 69 [some (.inr u), l1, l2, l3, l4, l5] st H = rn Ls xs d 70 70 [some (.inr u), l1, l2, l3, l4, l5] (.inr u :: st) H := rn_nx rfl rfl
set_option maxRecDepth 20000 in
theorem e_M_lay_70 : rn Ls xs d 70 70 [l0, l1, l2, l3, l4, l5] (.inr (.inl (some a)) :: st) (S, I, R) = if h_is S a 9 36 then rn Ls xs d 70 73 [l0, l1, l2, l3, l4, l5] (.inr (R a 29) :: st) (S, I, R) else none := rn_bc rfl rfl
set_option maxRecDepth 20000 in
theorem e_M_lay_73 : rn Ls xs d 70 73 [l0, some (.inl x), l2, l3, l4, l5] st H = rn Ls xs d 70 74 [l0, some (.inl x), l2, l3, l4, l5] (.inl x :: st) H := rn_nx rfl rfl
set_option maxRecDepth 20000 in
theorem e_M_lay_74 : rn Ls xs d 70 74 [l0, l1, some (.inl x), l3, l4, l5] st H = rn Ls xs d 70 75 [l0, l1, some (.inl x), l3, l4, l5] (.inl x :: st) H := rn_nx rfl rfl
set_option maxRecDepth 20000 in
theorem e_M_lay_75 : rn Ls xs d 70 75 [l0, l1, l2, l3, l4, l5] (.inl x :: .inl i :: .inr (.inl (some a)) :: st) (S, I, R) = if h_ia S a 0 i then rn Ls xs d 70 76 [l0, l1, l2, l3, l4, l5] st (S, va_up I a (upd (I a) i.toNatClampNeg x), R) else none := rn_bc rfl rfl
set_option maxRecDepth 20000 in
theorem e_M_lay_76 : rn Ls xs d 70 76 [some (.inr u), l1, l2, l3, l4, l5] st H = rn Ls xs d 70 77 [some (.inr u), l1, l2, l3, l4, l5] (.inr u :: st) H := rn_nx rfl rfl
set_option maxRecDepth 20000 in
theorem e_M_lay_77 : rn Ls xs d 70 77 [l0, l1, l2, l3, l4, l5] (.inr (.inl (some a)) :: st) (S, I, R) = if h_is S a 9 36 then rn Ls xs d 70 80 [l0, l1, l2, l3, l4, l5] (.inr (R a 30) :: st) (S, I, R) else none := rn_bc rfl rfl
set_option maxRecDepth 20000 in
theorem e_M_lay_80 : rn Ls xs d 70 80 [l0, some (.inl x), l2, l3, l4, l5] st H = rn Ls xs d 70 81 [l0, some (.inl x), l2, l3, l4, l5] (.inl x :: st) H := rn_nx rfl rfl
set_option maxRecDepth 20000 in
theorem e_M_lay_81 : rn Ls xs d 70 81 [l0, l1, some (.inl x), l3, l4, l5] st H = rn Ls xs d 70 82 [l0, l1, some (.inl x), l3, l4, l5] (.inl x :: st) H := rn_nx rfl rfl
set_option maxRecDepth 20000 in
theorem e_M_lay_82 : rn Ls xs d 70 82 [l0, l1, l2, l3, l4, l5]  st H = rn Ls xs d 70 83 [l0, l1, l2, l3, l4, l5] (.inl 1 :: st) H := rn_nx rfl rfl
set_option maxRecDepth 20000 in
theorem e_M_lay_83 : rn Ls xs d 70 83 [l0, l1, l2, l3, l4, l5] (.inl y :: .inl x :: st) H = if x ≠ y then rn Ls xs d 70 95 [l0, l1, l2, l3, l4, l5] st H else rn Ls xs d 70 86 [l0, l1, l2, l3, l4, l5] st H := rn_cmp (p := fun x y => x ≠ y) rfl
set_option maxRecDepth 20000 in
theorem e_M_lay_86 : rn Ls xs d 70 86 [some (.inr u), l1, l2, l3, l4, l5] st H = rn Ls xs d 70 87 [some (.inr u), l1, l2, l3, l4, l5] (.inr u :: st) H := rn_nx rfl rfl
set_option maxRecDepth 20000 in
theorem e_M_lay_87 : rn Ls xs d 70 87 [l0, l1, l2, some (.inl x), l4, l5] st H = rn Ls xs d 70 88 [l0, l1, l2, some (.inl x), l4, l5] (.inl x :: st) H := rn_nx rfl rfl
set_option maxRecDepth 20000 in
theorem e_M_lay_88 : rn Ls xs d 70 88 [l0, l1, l2, l3, l4, l5]  st H = rn Ls xs d 70 89 [l0, l1, l2, l3, l4, l5] (.inl 0 :: st) H := rn_nx rfl rfl
set_option maxRecDepth 20000 in
theorem e_M_lay_89 : rn Ls xs (d + 1) 70 89 [l0, l1, l2, l3, l4, l5] [v2, v1, (.inr (.inl (some a))), v3, v4] (S, I, R) = if h_is S a 9 36 then rb Ls xs (d + 1) 70 92 [l0, l1, l2, l3, l4, l5] [v3, v4] (rn Ls xs d 105 0 [some (.inr (.inl (some a))), some v1, some v2] [] (S, I, R)) else none := rn_callO rfl rfl (Nat.le_of_ble_eq_true rfl) rfl rfl
set_option maxRecDepth 20000 in
theorem e_M_lay_92 : rn Ls xs d 70 92 [l0, l1, l2, l3, l4, l5] st H = rn Ls xs d 70 110 [l0, l1, l2, l3, l4, l5] st H := rn_nx rfl rfl
set_option maxRecDepth 20000 in
theorem e_M_lay_95 : rn Ls xs d 70 95 [l0, l1, some (.inl x), l3, l4, l5] st H = rn Ls xs d 70 96 [l0, l1, some (.inl x), l3, l4, l5] (.inl x :: st) H := rn_nx rfl rfl
set_option maxRecDepth 20000 in
theorem e_M_lay_96 : rn Ls xs d 70 96 [l0, l1, l2, l3, l4, l5]  st H = rn Ls xs d 70 97 [l0, l1, l2, l3, l4, l5] (.inl 2 :: st) H := rn_nx rfl rfl
set_option maxRecDepth 20000 in
theorem e_M_lay_97 : rn Ls xs d 70 97 [l0, l1, l2, l3, l4, l5] (.inl y :: .inl x :: st) H = if x ≠ y then rn Ls xs d 70 109 [l0, l1, l2, l3, l4, l5] st H else rn Ls xs d 70 100 [l0, l1, l2, l3, l4, l5] st H := rn_cmp (p := fun x y => x ≠ y) rfl
set_option maxRecDepth 20000 in
theorem e_M_lay_100 : rn Ls xs d 70 100 [some (.inr u), l1, l2, l3, l4, l5] st H = rn Ls xs d 70 101 [some (.inr u), l1, l2, l3, l4, l5] (.inr u :: st) H := rn_nx rfl rfl
set_option maxRecDepth 20000 in
theorem e_M_lay_101 : rn Ls xs d 70 101 [l0, l1, l2, l3, l4, l5] (.inr (.inl (some a)) :: st) (S, I, R) = if h_is S a 9 36 then rn Ls xs d 70 104 [l0, l1, l2, l3, l4, l5] (.inr (R a 27) :: st) (S, I, R) else none := rn_bc rfl rfl
set_option maxRecDepth 20000 in
theorem e_M_lay_104 : rn Ls xs d 70 104 [l0, l1, l2, some (.inl x), l4, l5] st H = rn Ls xs d 70 105 [l0, l1, l2, some (.inl x), l4, l5] (.inl x :: st) H := rn_nx rfl rfl
set_option maxRecDepth 20000 in
theorem e_M_lay_105 : rn Ls xs d 70 105 [l0, l1, l2, l3, l4, l5] (.inl i :: .inr (.inl (some a)) :: st) (S, I, R) = if h_ia S a 0 i then rn Ls xs d 70 106 [l0, l1, l2, l3, l4, l5] (.inl (I a i.toNatClampNeg) :: st) (S, I, R) else none := rn_bc rfl rfl
set_option maxRecDepth 20000 in
theorem e_M_lay_106 : rn Ls xs d 70 106 [l0, l1, l2, l3, l4, l5] st H = rn Ls xs d 70 110 [l0, l1, l2, l3, l4, l5] st H := rn_nx rfl rfl
set_option maxRecDepth 20000 in
theorem e_M_lay_109 : rn Ls xs d 70 109 [l0, l1, l2, some (.inl x), l4, l5] st H = rn Ls xs d 70 110 [l0, l1, l2, some (.inl x), l4, l5] (.inl x :: st) H := rn_nx rfl rfl
set_option maxRecDepth 20000 in
theorem e_M_lay_110 : rn Ls xs d 70 110 [l0, l1, l2, l3, l4, l5] (.inl x :: .inl i :: .inr (.inl (some a)) :: st) (S, I, R) = if h_ia S a 0 i then rn Ls xs d 70 111 [l0, l1, l2, l3, l4, l5] st (S, va_up I a (upd (I a) i.toNatClampNeg x), R) else none := rn_bc rfl rfl
set_option maxRecDepth 20000 in
theorem e_M_lay_111 : rn Ls xs d 70 111 [some (.inr u), l1, l2, l3, l4, l5] st H = rn Ls xs d 70 112 [some (.inr u), l1, l2, l3, l4, l5] (.inr u :: st) H := rn_nx rfl rfl
set_option maxRecDepth 20000 in
theorem e_M_lay_112 : rn Ls xs d 70 112 [l0, l1, l2, l3, l4, l5] (.inr (.inl (some a)) :: st) (S, I, R) = if h_is S a 9 36 then rn Ls xs d 70 115 [l0, l1, l2, l3, l4, l5] (.inr (R a 31) :: st) (S, I, R) else none := rn_bc rfl rfl
set_option maxRecDepth 20000 in
theorem e_M_lay_115 : rn Ls xs d 70 115 [l0, some (.inl x), l2, l3, l4, l5] st H = rn Ls xs d 70 116 [l0, some (.inl x), l2, l3, l4, l5] (.inl x :: st) H := rn_nx rfl rfl
set_option maxRecDepth 20000 in
theorem e_M_lay_116 : rn Ls xs d 70 116 [l0, l1, some (.inl x), l3, l4, l5] st H = rn Ls xs d 70 117 [l0, l1, some (.inl x), l3, l4, l5] (.inl x :: st) H := rn_nx rfl rfl
set_option maxRecDepth 20000 in
theorem e_M_lay_117 : rn Ls xs d 70 117 [l0, l1, l2, l3, l4, l5]  st H = rn Ls xs d 70 118 [l0, l1, l2, l3, l4, l5] (.inl 1 :: st) H := rn_nx rfl rfl
set_option maxRecDepth 20000 in
theorem e_M_lay_118 : rn Ls xs d 70 118 [l0, l1, l2, l3, l4, l5] (.inl y :: .inl x :: st) H = if x ≠ y then rn Ls xs d 70 129 [l0, l1, l2, l3, l4, l5] st H else rn Ls xs d 70 121 [l0, l1, l2, l3, l4, l5] st H := rn_cmp (p := fun x y => x ≠ y) rfl
set_option maxRecDepth 20000 in
theorem e_M_lay_121 : rn Ls xs d 70 121 [some (.inr u), l1, l2, l3, l4, l5] st H = rn Ls xs d 70 122 [some (.inr u), l1, l2, l3, l4, l5] (.inr u :: st) H := rn_nx rfl rfl
set_option maxRecDepth 20000 in
theorem e_M_lay_122 : rn Ls xs d 70 122 [l0, l1, l2, some (.inl x), l4, l5] st H = rn Ls xs d 70 123 [l0, l1, l2, some (.inl x), l4, l5] (.inl x :: st) H := rn_nx rfl rfl
set_option maxRecDepth 20000 in
theorem e_M_lay_123 : rn Ls xs (d + 1) 70 123 [l0, l1, l2, l3, l4, l5] [v1, (.inr (.inl (some a))), v2, v3] (S, I, R) = if h_is S a 9 36 then rb Ls xs (d + 1) 70 126 [l0, l1, l2, l3, l4, l5] [v2, v3] (rn Ls xs d 108 0 [some (.inr (.inl (some a))), some v1, none] [] (S, I, R)) else none := rn_callO rfl rfl (Nat.le_of_ble_eq_true rfl) rfl rfl
set_option maxRecDepth 20000 in
theorem e_M_lay_126 : rn Ls xs d 70 126 [l0, l1, l2, l3, l4, l5] st H = rn Ls xs d 70 130 [l0, l1, l2, l3, l4, l5] st H := rn_nx rfl rfl
set_option maxRecDepth 20000 in
theorem e_M_lay_129 : rn Ls xs d 70 129 [l0, l1, l2, l3, l4, l5]  st H = rn Ls xs d 70 130 [l0, l1, l2, l3, l4, l5] (.inl 0 :: st) H := rn_nx rfl rfl
set_option maxRecDepth 20000 in
theorem e_M_lay_130 : rn Ls xs d 70 130 [l0, l1, l2, l3, l4, l5] (.inl x :: .inl i :: .inr (.inl (some a)) :: st) (S, I, R) = if h_ia S a 0 i then rn Ls xs d 70 131 [l0, l1, l2, l3, l4, l5] st (S, va_up I a (upd (I a) i.toNatClampNeg x), R) else none := rn_bc rfl rfl
set_option maxRecDepth 20000 in
theorem e_M_lay_131 : rn Ls xs d 70 131 [l0, l1, l2, l3, l4, l5]  st H = rn Ls xs d 70 132 [l0, l1, l2, l3, l4, l5] (.inl 0 :: st) H := rn_nx rfl rfl
set_option maxRecDepth 20000 in
theorem e_M_lay_132 : rn Ls xs d 70 132 [l0, l1, l2, l3, l4, l5] (.inl x :: st) H = rn Ls xs d 70 134 [l0, l1, l2, l3, l4, some (.inl x)] st H := rn_nx rfl rfl
set_option maxRecDepth 20000 in
theorem e_M_lay_134 : rn Ls xs d 70 134 [l0, l1, l2, l3, l4, some (.inl x)] st H = rn Ls xs d 70 136 [l0, l1, l2, l3, l4, some (.inl x)] (.inl x :: st) H := rn_nx rfl rfl
set_option maxRecDepth 20000 in
theorem e_M_lay_136 : rn Ls xs d 70 136 [l0, l1, l2, l3, l4, l5]  st H = rn Ls xs d 70 138 [l0, l1, l2, l3, l4, l5] (.inl 24 :: st) H := rn_nx rfl rfl
set_option maxRecDepth 20000 in
theorem e_M_lay_138 : rn Ls xs d 70 138 [l0, l1, l2, l3, l4, l5] (.inl y :: .inl x :: st) H = if y ≤ x then rn Ls xs d 70 176 [l0, l1, l2, l3, l4, l5] st H else rn Ls xs d 70 141 [l0, l1, l2, l3, l4, l5] st H := rn_cmp (p := fun x y => y ≤ x) rfl
set_option maxRecDepth 20000 in
theorem e_M_lay_141 : rn Ls xs d 70 141 [l0, l1, some (.inl x), l3, l4, l5] st H = rn Ls xs d 70 142 [l0, l1, some (.inl x), l3, l4, l5] (.inl x :: st) H := rn_nx rfl rfl
set_option maxRecDepth 20000 in
theorem e_M_lay_142 : rn Ls xs d 70 142 [l0, l1, l2, l3, l4, l5]  st H = rn Ls xs d 70 143 [l0, l1, l2, l3, l4, l5] (.inl 2 :: st) H := rn_nx rfl rfl
set_option maxRecDepth 20000 in
theorem e_M_lay_143 : rn Ls xs d 70 143 [l0, l1, l2, l3, l4, l5] (.inl y :: .inl x :: st) H = if x ≠ y then rn Ls xs d 70 176 [l0, l1, l2, l3, l4, l5] st H else rn Ls xs d 70 146 [l0, l1, l2, l3, l4, l5] st H := rn_cmp (p := fun x y => x ≠ y) rfl
set_option maxRecDepth 20000 in
theorem e_M_lay_146 : rn Ls xs d 70 146 [some (.inr u), l1, l2, l3, l4, l5] st H = rn Ls xs d 70 147 [some (.inr u), l1, l2, l3, l4, l5] (.inr u :: st) H := rn_nx rfl rfl
set_option maxRecDepth 20000 in
theorem e_M_lay_147 : rn Ls xs d 70 147 [l0, l1, l2, l3, l4, l5] (.inr (.inl (some a)) :: st) (S, I, R) = if h_is S a 9 36 then rn Ls xs d 70 150 [l0, l1, l2, l3, l4, l5] (.inr (R a 32) :: st) (S, I, R) else none := rn_bc rfl rfl
set_option maxRecDepth 20000 in
theorem e_M_lay_150 : rn Ls xs d 70 150 [l0, l1, l2, l3, l4, l5]  st H = rn Ls xs d 70 152 [l0, l1, l2, l3, l4, l5] (.inl 24 :: st) H := rn_nx rfl rfl
set_option maxRecDepth 20000 in
theorem e_M_lay_152 : rn Ls xs d 70 152 [l0, some (.inl x), l2, l3, l4, l5] st H = rn Ls xs d 70 153 [l0, some (.inl x), l2, l3, l4, l5] (.inl x :: st) H := rn_nx rfl rfl
set_option maxRecDepth 20000 in
theorem e_M_lay_153 : rn Ls xs d 70 153 [l0, l1, l2, l3, l4, l5] (.inl y :: .inl x :: st) H = rn Ls xs d 70 154 [l0, l1, l2, l3, l4, l5] (.inl (x * y) :: st) H := rn_nx rfl rfl
set_option maxRecDepth 20000 in
theorem e_M_lay_154 : rn Ls xs d 70 154 [l0, l1, l2, l3, l4, some (.inl x)] st H = rn Ls xs d 70 156 [l0, l1, l2, l3, l4, some (.inl x)] (.inl x :: st) H := rn_nx rfl rfl
set_option maxRecDepth 20000 in
theorem e_M_lay_156 : rn Ls xs d 70 156 [l0, l1, l2, l3, l4, l5] (.inl y :: .inl x :: st) H = rn Ls xs d 70 157 [l0, l1, l2, l3, l4, l5] (.inl (x + y) :: st) H := rn_nx rfl rfl
set_option maxRecDepth 20000 in
theorem e_M_lay_157 : rn Ls xs d 70 157 [some (.inr u), l1, l2, l3, l4, l5] st H = rn Ls xs d 70 158 [some (.inr u), l1, l2, l3, l4, l5] (.inr u :: st) H := rn_nx rfl rfl
set_option maxRecDepth 20000 in
theorem e_M_lay_158 : rn Ls xs d 70 158 [l0, l1, l2, l3, l4, l5] (.inr (.inl (some a)) :: st) (S, I, R) = if h_is S a 9 36 then rn Ls xs d 70 161 [l0, l1, l2, l3, l4, l5] (.inr (R a 28) :: st) (S, I, R) else none := rn_bc rfl rfl
set_option maxRecDepth 20000 in
theorem e_M_lay_161 : rn Ls xs d 70 161 [l0, l1, l2, l3, l4, l5]  st H = rn Ls xs d 70 163 [l0, l1, l2, l3, l4, l5] (.inl 24 :: st) H := rn_nx rfl rfl
set_option maxRecDepth 20000 in
theorem e_M_lay_163 : rn Ls xs d 70 163 [l0, l1, l2, some (.inl x), l4, l5] st H = rn Ls xs d 70 164 [l0, l1, l2, some (.inl x), l4, l5] (.inl x :: st) H := rn_nx rfl rfl
set_option maxRecDepth 20000 in
theorem e_M_lay_164 : rn Ls xs d 70 164 [l0, l1, l2, l3, l4, l5] (.inl y :: .inl x :: st) H = rn Ls xs d 70 165 [l0, l1, l2, l3, l4, l5] (.inl (x * y) :: st) H := rn_nx rfl rfl
set_option maxRecDepth 20000 in
theorem e_M_lay_165 : rn Ls xs d 70 165 [l0, l1, l2, l3, l4, some (.inl x)] st H = rn Ls xs d 70 167 [l0, l1, l2, l3, l4, some (.inl x)] (.inl x :: st) H := rn_nx rfl rfl
set_option maxRecDepth 20000 in
theorem e_M_lay_167 : rn Ls xs d 70 167 [l0, l1, l2, l3, l4, l5] (.inl y :: .inl x :: st) H = rn Ls xs d 70 168 [l0, l1, l2, l3, l4, l5] (.inl (x + y) :: st) H := rn_nx rfl rfl
set_option maxRecDepth 20000 in
theorem e_M_lay_168 : rn Ls xs d 70 168 [l0, l1, l2, l3, l4, l5] (.inl i :: .inr (.inl (some a)) :: st) (S, I, R) = if h_ia S a 0 i then rn Ls xs d 70 169 [l0, l1, l2, l3, l4, l5] (.inl (I a i.toNatClampNeg) :: st) (S, I, R) else none := rn_bc rfl rfl
set_option maxRecDepth 20000 in
theorem e_M_lay_169 : rn Ls xs d 70 169 [l0, l1, l2, l3, l4, l5] (.inl x :: .inl i :: .inr (.inl (some a)) :: st) (S, I, R) = if h_ia S a 0 i then rn Ls xs d 70 170 [l0, l1, l2, l3, l4, l5] st (S, va_up I a (upd (I a) i.toNatClampNeg x), R) else none := rn_bc rfl rfl
set_option maxRecDepth 20000 in
theorem e_M_lay_170 : rn Ls xs d 70 170 [l0, l1, l2, l3, l4, some (.inl x)] st H = rn Ls xs d 70 173 [l0, l1, l2, l3, l4, some (.inl (x + 1))] st H := rn_nx rfl rfl
set_option maxRecDepth 20000 in
theorem e_M_lay_173 : rn Ls xs d 70 173 [l0, l1, l2, l3, l4, l5] st H = rn Ls xs d 70 134 [l0, l1, l2, l3, l4, l5] st H := rn_nx rfl rfl
set_option maxRecDepth 20000 in
theorem e_M_lay_176 : rn Ls xs d 70 176 [l0, l1, l2, l3, some (.inl x), l5] st H = rn Ls xs d 70 178 [l0, l1, l2, l3, some (.inl x), l5] (.inl x :: st) H := rn_nx rfl rfl
set_option maxRecDepth 20000 in
theorem e_M_lay_178 : rn Ls xs d 70 178 [l0, l1, l2, l3, l4, l5] [.inl x] H = some (some (.inl x), H) := rn_done rfl rfl
theorem e_W_ask_0 : rn Ls xs d 71 0 [l0, some (.inl x), l2, l3, l4] st H = rn Ls xs d 71 1 [l0, some (.inl x), l2, l3, l4] (.inl x :: st) H := rn_nx rfl rfl
theorem e_W_ask_1 : rn Ls xs (d + 1) 71 1 [l0, l1, l2, l3, l4] [v0] H = rb Ls xs (d + 1) 71 4 [l0, l1, l2, l3, l4] [] (rn Ls xs d 165 0 [some v0] [] H) := rn_call rfl (Nat.le_of_ble_eq_true rfl) (Nat.le_of_ble_eq_true rfl) rfl rfl
theorem e_W_ask_4 : rn Ls xs d 71 4 [l0, l1, l2, l3, l4] (.inl x :: st) H = if x = 0 then rn Ls xs d 71 14 [l0, l1, l2, l3, l4] st H else rn Ls xs d 71 7 [l0, l1, l2, l3, l4] st H := rn_if (p := fun x => x = 0) rfl
theorem e_W_ask_7 : rn Ls xs d 71 7 [l0, l1, some (.inl x), l3, l4] st H = rn Ls xs d 71 8 [l0, l1, some (.inl x), l3, l4] (.inl x :: st) H := rn_nx rfl rfl
theorem e_W_ask_8 : rn Ls xs (d + 1) 71 8 [l0, l1, l2, l3, l4] [v0] H = rb Ls xs (d + 1) 71 11 [l0, l1, l2, l3, l4] [] (rn Ls xs d 93 0 [some v0] [] H) := rn_call rfl (Nat.le_of_ble_eq_true rfl) (Nat.le_of_ble_eq_true rfl) rfl rfl
theorem e_W_ask_11 : rn Ls xs d 71 11 [l0, l1, l2, l3, l4] (.inl x :: st) H = if x ≠ 0 then rn Ls xs d 71 17 [l0, l1, l2, l3, l4] st H else rn Ls xs d 71 14 [l0, l1, l2, l3, l4] st H := rn_if (p := fun x => x ≠ 0) rfl
theorem e_W_ask_14 : rn Ls xs d 71 14 [l0, l1, l2, l3, l4]  st H = rn Ls xs d 71 16 [l0, l1, l2, l3, l4] (.inl (-1000000001) :: st) H := rn_nx rfl rfl
theorem e_W_ask_16 : rn Ls xs d 71 16 [l0, l1, l2, l3, l4] [.inl x] H = some (some (.inl x), H) := rn_done rfl rfl
theorem e_W_ask_17 : rn Ls xs d 71 17 [some (.inr u), l1, l2, l3, l4] st H = rn Ls xs d 71 18 [some (.inr u), l1, l2, l3, l4] (.inr u :: st) H := rn_nx rfl rfl
theorem e_W_ask_18 : rn Ls xs d 71 18 [l0, some (.inl x), l2, l3, l4] st H = rn Ls xs d 71 19 [l0, some (.inl x), l2, l3, l4] (.inl x :: st) H := rn_nx rfl rfl
theorem e_W_ask_19 : rn Ls xs d 71 19 [l0, l1, l2, l3, l4]  st H = rn Ls xs d 71 20 [l0, l1, l2, l3, l4] (.inl 1 :: st) H := rn_nx rfl rfl
theorem e_W_ask_20 : rn Ls xs (d + 1) 71 20 [l0, l1, l2, l3, l4] [v2, v1, (.inr (.inl (some a)))] (S, I, R) = if h_is S a 8 10 then rb Ls xs (d + 1) 71 23 [l0, l1, l2, l3, l4] [] (rn Ls xs d 169 0 [some (.inr (.inl (some a))), some v1, some v2, none] [] (S, I, R)) else none := rn_callO rfl rfl (Nat.le_of_ble_eq_true rfl) rfl rfl
theorem e_W_ask_23 : rn Ls xs d 71 23 [l0, l1, l2, l3, l4] (.inl x :: st) H = rn Ls xs d 71 24 [l0, l1, l2, some (.inl x), l4] st H := rn_nx rfl rfl
theorem e_W_ask_24 : rn Ls xs d 71 24 [l0, l1, l2, some (.inl x), l4] st H = rn Ls xs d 71 25 [l0, l1, l2, some (.inl x), l4] (.inl x :: st) H := rn_nx rfl rfl
theorem e_W_ask_25 : rn Ls xs d 71 25 [l0, l1, l2, l3, l4] (.inl x :: st) H = if x = 0 then rn Ls xs d 71 30 [l0, l1, l2, l3, l4] st H else rn Ls xs d 71 28 [l0, l1, l2, l3, l4] st H := rn_if (p := fun x => x = 0) rfl
theorem e_W_ask_28 : rn Ls xs d 71 28 [l0, l1, l2, some (.inl x), l4] st H = rn Ls xs d 71 29 [l0, l1, l2, some (.inl x), l4] (.inl x :: st) H := rn_nx rfl rfl
theorem e_W_ask_29 : rn Ls xs d 71 29 [l0, l1, l2, l3, l4] [.inl x] H = some (some (.inl x), H) := rn_done rfl rfl
theorem e_W_ask_30 : rn Ls xs d 71 30 [some (.inr u), l1, l2, l3, l4] st H = rn Ls xs d 71 31 [some (.inr u), l1, l2, l3, l4] (.inr u :: st) H := rn_nx rfl rfl
theorem e_W_ask_31 : rn Ls xs d 71 31 [l0, l1, l2, l3, l4] (.inr (.inl (some a)) :: st) (S, I, R) = if h_is S a 8 10 then rn Ls xs d 71 34 [l0, l1, l2, l3, l4] (.inr (R a 6) :: st) (S, I, R) else none := rn_bc rfl rfl
theorem e_W_ask_34 : rn Ls xs d 71 34 [l0, some (.inl x), l2, l3, l4] st H = rn Ls xs d 71 35 [l0, some (.inl x), l2, l3, l4] (.inl x :: st) H := rn_nx rfl rfl
theorem e_W_ask_35 : rn Ls xs d 71 35 [l0, l1, l2, l3, l4] (.inl i :: .inr (.inl (some a)) :: st) (S, I, R) = if h_ia S a 7 i then (match R a i.toNatClampNeg with | .inl o => rn Ls xs d 71 36 [l0, l1, l2, l3, l4] (.inr (.inl o) :: st) (S, I, R) | .inr _ => none) else none := rn_aald rfl
theorem e_W_ask_36 : rn Ls xs d 71 36 [l0, l1, l2, l3, l4] (.inr (.inl (some a)) :: st) (S, I, R) = if h_is S a 4 4 then rn Ls xs d 71 39 [l0, l1, l2, l3, l4] (.inr (R a 0) :: st) (S, I, R) else none := rn_bc rfl rfl
theorem e_W_ask_39 : rn Ls xs d 71 39 [l0, l1, l2, l3, l4] (.inr u :: st) H = rn Ls xs d 71 41 [l0, l1, l2, l3, some (.inr u)] st H := rn_nx rfl rfl
theorem e_W_ask_41 : rn Ls xs d 71 41 [l0, l1, l2, l3, some (.inr u)] st H = rn Ls xs d 71 43 [l0, l1, l2, l3, some (.inr u)] (.inr u :: st) H := rn_nx rfl rfl
theorem e_W_ask_43 : rn Ls xs d 71 43 [l0, l1, some (.inl x), l3, l4] st H = rn Ls xs d 71 44 [l0, l1, some (.inl x), l3, l4] (.inl x :: st) H := rn_nx rfl rfl
theorem e_W_ask_44 : rn Ls xs (d + 1) 71 44 [l0, l1, l2, l3, l4] [v1, (.inr (.inl (some a)))] (S, I, R) = if h_is S a 7 6 then rb Ls xs (d + 1) 71 47 [l0, l1, l2, l3, l4] [] (rn Ls xs d 109 0 [some (.inr (.inl (some a))), some v1, none, none] [] (S, I, R)) else none := rn_callO rfl rfl (Nat.le_of_ble_eq_true rfl) rfl rfl
theorem e_W_ask_47 : rn Ls xs d 71 47 [l0, l1, l2, l3, l4] (.inl x :: st) H = if x = 0 then rn Ls xs d 71 58 [l0, l1, l2, l3, l4] st H else rn Ls xs d 71 50 [l0, l1, l2, l3, l4] st H := rn_if (p := fun x => x = 0) rfl
theorem e_W_ask_50 : rn Ls xs d 71 50 [l0, l1, l2, l3, some (.inr u)] st H = rn Ls xs d 71 52 [l0, l1, l2, l3, some (.inr u)] (.inr u :: st) H := rn_nx rfl rfl
theorem e_W_ask_52 : rn Ls xs (d + 1) 71 52 [l0, l1, l2, l3, l4] [(.inr (.inl (some a)))] (S, I, R) = if h_is S a 7 6 then rb Ls xs (d + 1) 71 55 [l0, l1, l2, l3, l4] [] (rn Ls xs d 103 0 [some (.inr (.inl (some a)))] [] (S, I, R)) else none := rn_callO rfl rfl (Nat.le_of_ble_eq_true rfl) rfl rfl
theorem e_W_ask_55 : rn Ls xs d 71 55 [l0, l1, l2, l3, l4] st H = rn Ls xs d 71 60 [l0, l1, l2, l3, l4] st H := rn_nx rfl rfl
theorem e_W_ask_58 : rn Ls xs d 71 58 [l0, l1, l2, l3, l4]  st H = rn Ls xs d 71 60 [l0, l1, l2, l3, l4] (.inl (-1000000012) :: st) H := rn_nx rfl rfl
theorem e_W_ask_60 : rn Ls xs d 71 60 [l0, l1, l2, l3, l4] [.inl x] H = some (some (.inl x), H) := rn_done rfl rfl
theorem e_M_ask_0 : rn Ls xs d 72 0 [l0, some (.inl x), l2] st H = rn Ls xs d 72 1 [l0, some (.inl x), l2] (.inl x :: st) H := rn_nx rfl rfl
theorem e_M_ask_1 : rn Ls xs (d + 1) 72 1 [l0, l1, l2] [v0] H = rb Ls xs (d + 1) 72 4 [l0, l1, l2] [] (rn Ls xs d 168 0 [some v0] [] H) := rn_call rfl (Nat.le_of_ble_eq_true rfl) (Nat.le_of_ble_eq_true rfl) rfl rfl
theorem e_M_ask_4 : rn Ls xs d 72 4 [l0, l1, l2] (.inl x :: st) H = if x = 0 then rn Ls xs d 72 16 [l0, l1, l2] st H else rn Ls xs d 72 7 [l0, l1, l2] st H := rn_if (p := fun x => x = 0) rfl
theorem e_M_ask_7 : rn Ls xs d 72 7 [l0, l1, some (.inl x)] st H = rn Ls xs d 72 8 [l0, l1, some (.inl x)] (.inl x :: st) H := rn_nx rfl rfl
theorem e_M_ask_8 : rn Ls xs d 72 8 [l0, l1, l2]  st H = rn Ls xs d 72 9 [l0, l1, l2] (.inl 0 :: st) H := rn_nx rfl rfl
theorem e_M_ask_9 : rn Ls xs d 72 9 [l0, l1, l2]  st H = rn Ls xs d 72 10 [l0, l1, l2] (.inl 5 :: st) H := rn_nx rfl rfl
theorem e_M_ask_10 : rn Ls xs (d + 1) 72 10 [l0, l1, l2] [v2, v1, v0] H = rb Ls xs (d + 1) 72 13 [l0, l1, l2] [] (rn Ls xs d 97 0 [some v0, some v1, some v2] [] H) := rn_call rfl (Nat.le_of_ble_eq_true rfl) (Nat.le_of_ble_eq_true rfl) rfl rfl
theorem e_M_ask_13 : rn Ls xs d 72 13 [l0, l1, l2] (.inl x :: st) H = if x ≠ 0 then rn Ls xs d 72 19 [l0, l1, l2] st H else rn Ls xs d 72 16 [l0, l1, l2] st H := rn_if (p := fun x => x ≠ 0) rfl
theorem e_M_ask_16 : rn Ls xs d 72 16 [l0, l1, l2]  st H = rn Ls xs d 72 18 [l0, l1, l2] (.inl (-1000000001) :: st) H := rn_nx rfl rfl
theorem e_M_ask_18 : rn Ls xs d 72 18 [l0, l1, l2] [.inl x] H = some (some (.inl x), H) := rn_done rfl rfl
theorem e_M_ask_19 : rn Ls xs d 72 19 [some (.inr u), l1, l2] st H = rn Ls xs d 72 20 [some (.inr u), l1, l2] (.inr u :: st) H := rn_nx rfl rfl
theorem e_M_ask_20 : rn Ls xs d 72 20 [l0, l1, l2] (.inr (.inl (some a)) :: st) (S, I, R) = if h_is S a 9 36 then rn Ls xs d 72 23 [l0, l1, l2] (.inr (R a 29) :: st) (S, I, R) else none := rn_bc rfl rfl
theorem e_M_ask_23 : rn Ls xs d 72 23 [l0, some (.inl x), l2] st H = rn Ls xs d 72 24 [l0, some (.inl x), l2] (.inl x :: st) H := rn_nx rfl rfl
theorem e_M_ask_24 : rn Ls xs d 72 24 [l0, l1, l2] (.inl i :: .inr (.inl (some a)) :: st) (S, I, R) = if h_ia S a 0 i then rn Ls xs d 72 25 [l0, l1, l2] (.inl (I a i.toNatClampNeg) :: st) (S, I, R) else none := rn_bc rfl rfl
theorem e_M_ask_25 : rn Ls xs d 72 25 [l0, l1, l2] (.inl x :: st) H = if x ≠ 0 then rn Ls xs d 72 31 [l0, l1, l2] st H else rn Ls xs d 72 28 [l0, l1, l2] st H := rn_if (p := fun x => x ≠ 0) rfl
theorem e_M_ask_28 : rn Ls xs d 72 28 [l0, l1, l2]  st H = rn Ls xs d 72 30 [l0, l1, l2] (.inl (-1000000011) :: st) H := rn_nx rfl rfl
theorem e_M_ask_30 : rn Ls xs d 72 30 [l0, l1, l2] [.inl x] H = some (some (.inl x), H) := rn_done rfl rfl
theorem e_M_ask_31 : rn Ls xs d 72 31 [some (.inr u), l1, l2] st H = rn Ls xs d 72 32 [some (.inr u), l1, l2] (.inr u :: st) H := rn_nx rfl rfl
theorem e_M_ask_32 : rn Ls xs d 72 32 [l0, l1, l2] (.inr (.inl (some a)) :: st) (S, I, R) = if h_is S a 9 36 then rn Ls xs d 72 35 [l0, l1, l2] (.inr (R a 29) :: st) (S, I, R) else none := rn_bc rfl rfl
theorem e_M_ask_35 : rn Ls xs d 72 35 [l0, some (.inl x), l2] st H = rn Ls xs d 72 36 [l0, some (.inl x), l2] (.inl x :: st) H := rn_nx rfl rfl
theorem e_M_ask_36 : rn Ls xs d 72 36 [l0, l1, l2] (.inl i :: .inr (.inl (some a)) :: st) (S, I, R) = if h_ia S a 0 i then rn Ls xs d 72 37 [l0, l1, l2] (.inl (I a i.toNatClampNeg) :: st) (S, I, R) else none := rn_bc rfl rfl
theorem e_M_ask_37 : rn Ls xs d 72 37 [l0, l1, l2]  st H = rn Ls xs d 72 38 [l0, l1, l2] (.inl 1 :: st) H := rn_nx rfl rfl
theorem e_M_ask_38 : rn Ls xs d 72 38 [l0, l1, l2] (.inl y :: .inl x :: st) H = if x ≠ y then rn Ls xs d 72 63 [l0, l1, l2] st H else rn Ls xs d 72 41 [l0, l1, l2] st H := rn_cmp (p := fun x y => x ≠ y) rfl
theorem e_M_ask_41 : rn Ls xs d 72 41 [some (.inr u), l1, l2] st H = rn Ls xs d 72 42 [some (.inr u), l1, l2] (.inr u :: st) H := rn_nx rfl rfl
theorem e_M_ask_42 : rn Ls xs d 72 42 [l0, l1, l2] (.inr (.inl (some a)) :: st) (S, I, R) = if h_is S a 9 36 then rn Ls xs d 72 45 [l0, l1, l2] (.inr (R a 30) :: st) (S, I, R) else none := rn_bc rfl rfl
theorem e_M_ask_45 : rn Ls xs d 72 45 [l0, some (.inl x), l2] st H = rn Ls xs d 72 46 [l0, some (.inl x), l2] (.inl x :: st) H := rn_nx rfl rfl
theorem e_M_ask_46 : rn Ls xs d 72 46 [l0, l1, l2] (.inl i :: .inr (.inl (some a)) :: st) (S, I, R) = if h_ia S a 0 i then rn Ls xs d 72 47 [l0, l1, l2] (.inl (I a i.toNatClampNeg) :: st) (S, I, R) else none := rn_bc rfl rfl
theorem e_M_ask_47 : rn Ls xs d 72 47 [l0, l1, some (.inl x)] st H = rn Ls xs d 72 48 [l0, l1, some (.inl x)] (.inl x :: st) H := rn_nx rfl rfl
theorem e_M_ask_48 : rn Ls xs (d + 1) 72 48 [l0, l1, l2] [v1, v0] H = rb Ls xs (d + 1) 72 51 [l0, l1, l2] [] (rn Ls xs d 110 0 [some v0, some v1] [] H) := rn_call rfl (Nat.le_of_ble_eq_true rfl) (Nat.le_of_ble_eq_true rfl) rfl rfl
theorem e_M_ask_51 : rn Ls xs d 72 51 [l0, l1, l2] (.inl x :: st) H = if x = 0 then rn Ls xs d 72 63 [l0, l1, l2] st H else rn Ls xs d 72 54 [l0, l1, l2] st H := rn_if (p := fun x => x = 0) rfl
theorem e_M_ask_54 : rn Ls xs d 72 54 [some (.inr u), l1, l2] st H = rn Ls xs d 72 55 [some (.inr u), l1, l2] (.inr u :: st) H := rn_nx rfl rfl
theorem e_M_ask_55 : rn Ls xs d 72 55 [l0, l1, l2] (.inr (.inl (some a)) :: st) (S, I, R) = if h_is S a 9 36 then rn Ls xs d 72 58 [l0, l1, l2] (.inr (R a 31) :: st) (S, I, R) else none := rn_bc rfl rfl
theorem e_M_ask_58 : rn Ls xs d 72 58 [l0, some (.inl x), l2] st H = rn Ls xs d 72 59 [l0, some (.inl x), l2] (.inl x :: st) H := rn_nx rfl rfl
theorem e_M_ask_59 : rn Ls xs d 72 59 [l0, l1, l2] (.inl i :: .inr (.inl (some a)) :: st) (S, I, R) = if h_ia S a 0 i then rn Ls xs d 72 60 [l0, l1, l2] (.inl (I a i.toNatClampNeg) :: st) (S, I, R) else none := rn_bc rfl rfl
theorem e_M_ask_60 : rn Ls xs d 72 60 [l0, l1, l2] st H = rn Ls xs d 72 65 [l0, l1, l2] st H := rn_nx rfl rfl
theorem e_M_ask_63 : rn Ls xs d 72 63 [l0, l1, l2]  st H = rn Ls xs d 72 65 [l0, l1, l2] (.inl (-1000000012) :: st) H := rn_nx rfl rfl
theorem e_M_ask_65 : rn Ls xs d 72 65 [l0, l1, l2] [.inl x] H = some (some (.inl x), H) := rn_done rfl rfl
theorem e_W_item_0 : rn Ls xs d 73 0 [l0, some (.inl x), l2, l3, l4] st H = rn Ls xs d 73 1 [l0, some (.inl x), l2, l3, l4] (.inl x :: st) H := rn_nx rfl rfl
theorem e_W_item_1 : rn Ls xs (d + 1) 73 1 [l0, l1, l2, l3, l4] [v0] H = rb Ls xs (d + 1) 73 4 [l0, l1, l2, l3, l4] [] (rn Ls xs d 165 0 [some v0] [] H) := rn_call rfl (Nat.le_of_ble_eq_true rfl) (Nat.le_of_ble_eq_true rfl) rfl rfl
theorem e_W_item_4 : rn Ls xs d 73 4 [l0, l1, l2, l3, l4] (.inl x :: st) H = if x ≠ 0 then rn Ls xs d 73 10 [l0, l1, l2, l3, l4] st H else rn Ls xs d 73 7 [l0, l1, l2, l3, l4] st H := rn_if (p := fun x => x ≠ 0) rfl
theorem e_W_item_7 : rn Ls xs d 73 7 [l0, l1, l2, l3, l4]  st H = rn Ls xs d 73 9 [l0, l1, l2, l3, l4] (.inl (-1000000001) :: st) H := rn_nx rfl rfl
theorem e_W_item_9 : rn Ls xs d 73 9 [l0, l1, l2, l3, l4] [.inl x] H = some (some (.inl x), H) := rn_done rfl rfl
theorem e_W_item_10 : rn Ls xs d 73 10 [some (.inr u), l1, l2, l3, l4] st H = rn Ls xs d 73 11 [some (.inr u), l1, l2, l3, l4] (.inr u :: st) H := rn_nx rfl rfl
theorem e_W_item_11 : rn Ls xs d 73 11 [l0, some (.inl x), l2, l3, l4] st H = rn Ls xs d 73 12 [l0, some (.inl x), l2, l3, l4] (.inl x :: st) H := rn_nx rfl rfl
theorem e_W_item_12 : rn Ls xs d 73 12 [l0, l1, l2, l3, l4]  st H = rn Ls xs d 73 13 [l0, l1, l2, l3, l4] (.inl 2 :: st) H := rn_nx rfl rfl
theorem e_W_item_13 : rn Ls xs (d + 1) 73 13 [l0, l1, l2, l3, l4] [v2, v1, (.inr (.inl (some a)))] (S, I, R) = if h_is S a 8 10 then rb Ls xs (d + 1) 73 16 [l0, l1, l2, l3, l4] [] (rn Ls xs d 169 0 [some (.inr (.inl (some a))), some v1, some v2, none] [] (S, I, R)) else none := rn_callO rfl rfl (Nat.le_of_ble_eq_true rfl) rfl rfl
theorem e_W_item_16 : rn Ls xs d 73 16 [l0, l1, l2, l3, l4] (.inl x :: st) H = rn Ls xs d 73 17 [l0, l1, l2, some (.inl x), l4] st H := rn_nx rfl rfl
theorem e_W_item_17 : rn Ls xs d 73 17 [l0, l1, l2, some (.inl x), l4] st H = rn Ls xs d 73 18 [l0, l1, l2, some (.inl x), l4] (.inl x :: st) H := rn_nx rfl rfl
theorem e_W_item_18 : rn Ls xs d 73 18 [l0, l1, l2, l3, l4] (.inl x :: st) H = if x = 0 then rn Ls xs d 73 23 [l0, l1, l2, l3, l4] st H else rn Ls xs d 73 21 [l0, l1, l2, l3, l4] st H := rn_if (p := fun x => x = 0) rfl
theorem e_W_item_21 : rn Ls xs d 73 21 [l0, l1, l2, some (.inl x), l4] st H = rn Ls xs d 73 22 [l0, l1, l2, some (.inl x), l4] (.inl x :: st) H := rn_nx rfl rfl
theorem e_W_item_22 : rn Ls xs d 73 22 [l0, l1, l2, l3, l4] [.inl x] H = some (some (.inl x), H) := rn_done rfl rfl
theorem e_W_item_23 : rn Ls xs d 73 23 [some (.inr u), l1, l2, l3, l4] st H = rn Ls xs d 73 24 [some (.inr u), l1, l2, l3, l4] (.inr u :: st) H := rn_nx rfl rfl
theorem e_W_item_24 : rn Ls xs d 73 24 [l0, l1, l2, l3, l4] (.inr (.inl (some a)) :: st) (S, I, R) = if h_is S a 8 10 then rn Ls xs d 73 27 [l0, l1, l2, l3, l4] (.inr (R a 6) :: st) (S, I, R) else none := rn_bc rfl rfl
theorem e_W_item_27 : rn Ls xs d 73 27 [l0, some (.inl x), l2, l3, l4] st H = rn Ls xs d 73 28 [l0, some (.inl x), l2, l3, l4] (.inl x :: st) H := rn_nx rfl rfl
theorem e_W_item_28 : rn Ls xs d 73 28 [l0, l1, l2, l3, l4] (.inl i :: .inr (.inl (some a)) :: st) (S, I, R) = if h_ia S a 7 i then (match R a i.toNatClampNeg with | .inl o => rn Ls xs d 73 29 [l0, l1, l2, l3, l4] (.inr (.inl o) :: st) (S, I, R) | .inr _ => none) else none := rn_aald rfl
theorem e_W_item_29 : rn Ls xs d 73 29 [l0, l1, l2, l3, l4] (.inr (.inl (some a)) :: st) (S, I, R) = if h_is S a 4 4 then rn Ls xs d 73 32 [l0, l1, l2, l3, l4] (.inr (R a 1) :: st) (S, I, R) else none := rn_bc rfl rfl
theorem e_W_item_32 : rn Ls xs d 73 32 [l0, l1, l2, l3, l4] (.inr u :: st) H = rn Ls xs d 73 34 [l0, l1, l2, l3, some (.inr u)] st H := rn_nx rfl rfl
theorem e_W_item_34 : rn Ls xs d 73 34 [l0, l1, l2, l3, some (.inr u)] st H = rn Ls xs d 73 36 [l0, l1, l2, l3, some (.inr u)] (.inr u :: st) H := rn_nx rfl rfl
theorem e_W_item_36 : rn Ls xs d 73 36 [l0, l1, some (.inl x), l3, l4] st H = rn Ls xs d 73 37 [l0, l1, some (.inl x), l3, l4] (.inl x :: st) H := rn_nx rfl rfl
theorem e_W_item_37 : rn Ls xs (d + 1) 73 37 [l0, l1, l2, l3, l4] [v1, (.inr (.inl (some a)))] (S, I, R) = if h_is S a 2 3 then rb Ls xs (d + 1) 73 40 [l0, l1, l2, l3, l4] [] (rn Ls xs d 161 0 [some (.inr (.inl (some a))), some v1] [] (S, I, R)) else none := rn_callO rfl rfl (Nat.le_of_ble_eq_true rfl) rfl rfl
theorem e_W_item_40 : rn Ls xs d 73 40 [l0, l1, l2, l3, l4] (.inl x :: st) H = if x ≠ 0 then rn Ls xs d 73 47 [l0, l1, l2, l3, l4] st H else rn Ls xs d 73 43 [l0, l1, l2, l3, l4] st H := rn_if (p := fun x => x ≠ 0) rfl
theorem e_W_item_43 : rn Ls xs d 73 43 [l0, l1, l2, l3, l4]  st H = rn Ls xs d 73 46 [l0, l1, l2, l3, l4] (.inl (-1000000013) :: st) H := rn_nx rfl rfl
theorem e_W_item_46 : rn Ls xs d 73 46 [l0, l1, l2, l3, l4] [.inl x] H = some (some (.inl x), H) := rn_done rfl rfl
theorem e_W_item_47 : rn Ls xs d 73 47 [l0, l1, l2, l3, some (.inr u)] st H = rn Ls xs d 73 49 [l0, l1, l2, l3, some (.inr u)] (.inr u :: st) H := rn_nx rfl rfl
theorem e_W_item_49 : rn Ls xs d 73 49 [l0, l1, some (.inl x), l3, l4] st H = rn Ls xs d 73 50 [l0, l1, some (.inl x), l3, l4] (.inl x :: st) H := rn_nx rfl rfl
theorem e_W_item_50 : rn Ls xs (d + 1) 73 50 [l0, l1, l2, l3, l4] [v1, (.inr (.inl (some a)))] (S, I, R) = if h_is S a 2 3 then rb Ls xs (d + 1) 73 53 [l0, l1, l2, l3, l4] [] (rn Ls xs d 162 0 [some (.inr (.inl (some a))), some v1] [] (S, I, R)) else none := rn_callO rfl rfl (Nat.le_of_ble_eq_true rfl) rfl rfl
theorem e_W_item_53 : rn Ls xs d 73 53 [l0, l1, l2, l3, l4] (.inl x :: st) H = if x = 0 then rn Ls xs d 73 66 [l0, l1, l2, l3, l4] st H else rn Ls xs d 73 56 [l0, l1, l2, l3, l4] st H := rn_if (p := fun x => x = 0) rfl
theorem e_W_item_56 : rn Ls xs d 73 56 [l0, l1, l2, l3, some (.inr u)] st H = rn Ls xs d 73 58 [l0, l1, l2, l3, some (.inr u)] (.inr u :: st) H := rn_nx rfl rfl
theorem e_W_item_58 : rn Ls xs d 73 58 [l0, l1, l2, l3, l4] (.inr (.inl (some a)) :: st) (S, I, R) = if h_is S a 2 3 then rn Ls xs d 73 61 [l0, l1, l2, l3, l4] (.inr (R a 0) :: st) (S, I, R) else none := rn_bc rfl rfl
theorem e_W_item_61 : rn Ls xs d 73 61 [l0, l1, some (.inl x), l3, l4] st H = rn Ls xs d 73 62 [l0, l1, some (.inl x), l3, l4] (.inl x :: st) H := rn_nx rfl rfl
theorem e_W_item_62 : rn Ls xs d 73 62 [l0, l1, l2, l3, l4] (.inl i :: .inr (.inl (some a)) :: st) (S, I, R) = if h_ia S a 0 i then rn Ls xs d 73 63 [l0, l1, l2, l3, l4] (.inl (I a i.toNatClampNeg) :: st) (S, I, R) else none := rn_bc rfl rfl
theorem e_W_item_63 : rn Ls xs d 73 63 [l0, l1, l2, l3, l4] st H = rn Ls xs d 73 68 [l0, l1, l2, l3, l4] st H := rn_nx rfl rfl
theorem e_W_item_66 : rn Ls xs d 73 66 [l0, l1, l2, l3, l4]  st H = rn Ls xs d 73 68 [l0, l1, l2, l3, l4] (.inl (-1000000012) :: st) H := rn_nx rfl rfl
theorem e_W_item_68 : rn Ls xs d 73 68 [l0, l1, l2, l3, l4] [.inl x] H = some (some (.inl x), H) := rn_done rfl rfl
theorem e_M_item_0 : rn Ls xs d 74 0 [l0, some (.inl x), l2, l3] st H = rn Ls xs d 74 1 [l0, some (.inl x), l2, l3] (.inl x :: st) H := rn_nx rfl rfl
theorem e_M_item_1 : rn Ls xs (d + 1) 74 1 [l0, l1, l2, l3] [v0] H = rb Ls xs (d + 1) 74 4 [l0, l1, l2, l3] [] (rn Ls xs d 168 0 [some v0] [] H) := rn_call rfl (Nat.le_of_ble_eq_true rfl) (Nat.le_of_ble_eq_true rfl) rfl rfl
theorem e_M_item_4 : rn Ls xs d 74 4 [l0, l1, l2, l3] (.inl x :: st) H = if x ≠ 0 then rn Ls xs d 74 10 [l0, l1, l2, l3] st H else rn Ls xs d 74 7 [l0, l1, l2, l3] st H := rn_if (p := fun x => x ≠ 0) rfl
theorem e_M_item_7 : rn Ls xs d 74 7 [l0, l1, l2, l3]  st H = rn Ls xs d 74 9 [l0, l1, l2, l3] (.inl (-1000000001) :: st) H := rn_nx rfl rfl
theorem e_M_item_9 : rn Ls xs d 74 9 [l0, l1, l2, l3] [.inl x] H = some (some (.inl x), H) := rn_done rfl rfl
theorem e_M_item_10 : rn Ls xs d 74 10 [some (.inr u), l1, l2, l3] st H = rn Ls xs d 74 11 [some (.inr u), l1, l2, l3] (.inr u :: st) H := rn_nx rfl rfl
theorem e_M_item_11 : rn Ls xs d 74 11 [l0, l1, l2, l3] (.inr (.inl (some a)) :: st) (S, I, R) = if h_is S a 9 36 then rn Ls xs d 74 14 [l0, l1, l2, l3] (.inr (R a 29) :: st) (S, I, R) else none := rn_bc rfl rfl
theorem e_M_item_14 : rn Ls xs d 74 14 [l0, some (.inl x), l2, l3] st H = rn Ls xs d 74 15 [l0, some (.inl x), l2, l3] (.inl x :: st) H := rn_nx rfl rfl
theorem e_M_item_15 : rn Ls xs d 74 15 [l0, l1, l2, l3] (.inl i :: .inr (.inl (some a)) :: st) (S, I, R) = if h_ia S a 0 i then rn Ls xs d 74 16 [l0, l1, l2, l3] (.inl (I a i.toNatClampNeg) :: st) (S, I, R) else none := rn_bc rfl rfl
theorem e_M_item_16 : rn Ls xs d 74 16 [l0, l1, l2, l3] (.inl x :: st) H = if x ≠ 0 then rn Ls xs d 74 22 [l0, l1, l2, l3] st H else rn Ls xs d 74 19 [l0, l1, l2, l3] st H := rn_if (p := fun x => x ≠ 0) rfl
theorem e_M_item_19 : rn Ls xs d 74 19 [l0, l1, l2, l3]  st H = rn Ls xs d 74 21 [l0, l1, l2, l3] (.inl (-1000000011) :: st) H := rn_nx rfl rfl
theorem e_M_item_21 : rn Ls xs d 74 21 [l0, l1, l2, l3] [.inl x] H = some (some (.inl x), H) := rn_done rfl rfl
theorem e_M_item_22 : rn Ls xs d 74 22 [some (.inr u), l1, l2, l3] st H = rn Ls xs d 74 23 [some (.inr u), l1, l2, l3] (.inr u :: st) H := rn_nx rfl rfl
theorem e_M_item_23 : rn Ls xs d 74 23 [l0, l1, l2, l3] (.inr (.inl (some a)) :: st) (S, I, R) = if h_is S a 9 36 then rn Ls xs d 74 26 [l0, l1, l2, l3] (.inr (R a 29) :: st) (S, I, R) else none := rn_bc rfl rfl
theorem e_M_item_26 : rn Ls xs d 74 26 [l0, some (.inl x), l2, l3] st H = rn Ls xs d 74 27 [l0, some (.inl x), l2, l3] (.inl x :: st) H := rn_nx rfl rfl
theorem e_M_item_27 : rn Ls xs d 74 27 [l0, l1, l2, l3] (.inl i :: .inr (.inl (some a)) :: st) (S, I, R) = if h_ia S a 0 i then rn Ls xs d 74 28 [l0, l1, l2, l3] (.inl (I a i.toNatClampNeg) :: st) (S, I, R) else none := rn_bc rfl rfl
theorem e_M_item_28 : rn Ls xs d 74 28 [l0, l1, l2, l3]  st H = rn Ls xs d 74 29 [l0, l1, l2, l3] (.inl 2 :: st) H := rn_nx rfl rfl
theorem e_M_item_29 : rn Ls xs d 74 29 [l0, l1, l2, l3] (.inl y :: .inl x :: st) H = if x = y then rn Ls xs d 74 35 [l0, l1, l2, l3] st H else rn Ls xs d 74 32 [l0, l1, l2, l3] st H := rn_cmp (p := fun x y => x = y) rfl
theorem e_M_item_32 : rn Ls xs d 74 32 [l0, l1, l2, l3]  st H = rn Ls xs d 74 34 [l0, l1, l2, l3] (.inl (-1000000012) :: st) H := rn_nx rfl rfl
theorem e_M_item_34 : rn Ls xs d 74 34 [l0, l1, l2, l3] [.inl x] H = some (some (.inl x), H) := rn_done rfl rfl
theorem e_M_item_35 : rn Ls xs d 74 35 [l0, l1, some (.inl x), l3] st H = rn Ls xs d 74 36 [l0, l1, some (.inl x), l3] (.inl x :: st) H := rn_nx rfl rfl
theorem e_M_item_36 : rn Ls xs d 74 36 [l0, l1, l2, l3]  st H = rn Ls xs d 74 37 [l0, l1, l2, l3] (.inl 0 :: st) H := rn_nx rfl rfl
theorem e_M_item_37 : rn Ls xs d 74 37 [some (.inr u), l1, l2, l3] st H = rn Ls xs d 74 38 [some (.inr u), l1, l2, l3] (.inr u :: st) H := rn_nx rfl rfl
theorem e_M_item_38 : rn Ls xs d 74 38 [l0, l1, l2, l3] (.inr (.inl (some a)) :: st) (S, I, R) = if h_is S a 9 36 then rn Ls xs d 74 41 [l0, l1, l2, l3] (.inr (R a 30) :: st) (S, I, R) else none := rn_bc rfl rfl
theorem e_M_item_41 : rn Ls xs d 74 41 [l0, some (.inl x), l2, l3] st H = rn Ls xs d 74 42 [l0, some (.inl x), l2, l3] (.inl x :: st) H := rn_nx rfl rfl
theorem e_M_item_42 : rn Ls xs d 74 42 [l0, l1, l2, l3] (.inl i :: .inr (.inl (some a)) :: st) (S, I, R) = if h_ia S a 0 i then rn Ls xs d 74 43 [l0, l1, l2, l3] (.inl (I a i.toNatClampNeg) :: st) (S, I, R) else none := rn_bc rfl rfl
theorem e_M_item_43 : rn Ls xs d 74 43 [l0, l1, l2, l3]  st H = rn Ls xs d 74 44 [l0, l1, l2, l3] (.inl 1 :: st) H := rn_nx rfl rfl
theorem e_M_item_44 : rn Ls xs d 74 44 [l0, l1, l2, l3] (.inl y :: .inl x :: st) H = rn Ls xs d 74 45 [l0, l1, l2, l3] (.inl (x - y) :: st) H := rn_nx rfl rfl
theorem e_M_item_45 : rn Ls xs (d + 1) 74 45 [l0, l1, l2, l3] [v2, v1, v0] H = rb Ls xs (d + 1) 74 48 [l0, l1, l2, l3] [] (rn Ls xs d 97 0 [some v0, some v1, some v2] [] H) := rn_call rfl (Nat.le_of_ble_eq_true rfl) (Nat.le_of_ble_eq_true rfl) rfl rfl
theorem e_M_item_48 : rn Ls xs d 74 48 [l0, l1, l2, l3] (.inl x :: st) H = if x ≠ 0 then rn Ls xs d 74 55 [l0, l1, l2, l3] st H else rn Ls xs d 74 51 [l0, l1, l2, l3] st H := rn_if (p := fun x => x ≠ 0) rfl
theorem e_M_item_51 : rn Ls xs d 74 51 [l0, l1, l2, l3]  st H = rn Ls xs d 74 54 [l0, l1, l2, l3] (.inl (-1000000013) :: st) H := rn_nx rfl rfl
theorem e_M_item_54 : rn Ls xs d 74 54 [l0, l1, l2, l3] [.inl x] H = some (some (.inl x), H) := rn_done rfl rfl
theorem e_M_item_55 : rn Ls xs d 74 55 [some (.inr u), l1, l2, l3] st H = rn Ls xs d 74 56 [some (.inr u), l1, l2, l3] (.inr u :: st) H := rn_nx rfl rfl
theorem e_M_item_56 : rn Ls xs d 74 56 [l0, l1, l2, l3] (.inr (.inl (some a)) :: st) (S, I, R) = if h_is S a 9 36 then rn Ls xs d 74 59 [l0, l1, l2, l3] (.inr (R a 32) :: st) (S, I, R) else none := rn_bc rfl rfl
theorem e_M_item_59 : rn Ls xs d 74 59 [l0, l1, l2, l3]  st H = rn Ls xs d 74 61 [l0, l1, l2, l3] (.inl 24 :: st) H := rn_nx rfl rfl
theorem e_M_item_61 : rn Ls xs d 74 61 [l0, some (.inl x), l2, l3] st H = rn Ls xs d 74 62 [l0, some (.inl x), l2, l3] (.inl x :: st) H := rn_nx rfl rfl
theorem e_M_item_62 : rn Ls xs d 74 62 [l0, l1, l2, l3] (.inl y :: .inl x :: st) H = rn Ls xs d 74 63 [l0, l1, l2, l3] (.inl (x * y) :: st) H := rn_nx rfl rfl
theorem e_M_item_63 : rn Ls xs d 74 63 [l0, l1, some (.inl x), l3] st H = rn Ls xs d 74 64 [l0, l1, some (.inl x), l3] (.inl x :: st) H := rn_nx rfl rfl
theorem e_M_item_64 : rn Ls xs d 74 64 [l0, l1, l2, l3] (.inl y :: .inl x :: st) H = rn Ls xs d 74 65 [l0, l1, l2, l3] (.inl (x + y) :: st) H := rn_nx rfl rfl
theorem e_M_item_65 : rn Ls xs d 74 65 [l0, l1, l2, l3] (.inl i :: .inr (.inl (some a)) :: st) (S, I, R) = if h_ia S a 0 i then rn Ls xs d 74 66 [l0, l1, l2, l3] (.inl (I a i.toNatClampNeg) :: st) (S, I, R) else none := rn_bc rfl rfl
theorem e_M_item_66 : rn Ls xs d 74 66 [l0, l1, l2, l3] (.inl x :: st) H = rn Ls xs d 74 67 [l0, l1, l2, some (.inl x)] st H := rn_nx rfl rfl
theorem e_M_item_67 : rn Ls xs d 74 67 [l0, l1, l2, some (.inl x)] st H = rn Ls xs d 74 68 [l0, l1, l2, some (.inl x)] (.inl x :: st) H := rn_nx rfl rfl
theorem e_M_item_68 : rn Ls xs d 74 68 [l0, l1, l2, l3]  st H = rn Ls xs d 74 70 [l0, l1, l2, l3] (.inl (-1000000005) :: st) H := rn_nx rfl rfl
theorem e_M_item_70 : rn Ls xs d 74 70 [l0, l1, l2, l3] (.inl y :: .inl x :: st) H = if x ≠ y then rn Ls xs d 74 78 [l0, l1, l2, l3] st H else rn Ls xs d 74 73 [l0, l1, l2, l3] st H := rn_cmp (p := fun x y => x ≠ y) rfl
theorem e_M_item_73 : rn Ls xs d 74 73 [l0, l1, l2, l3]  st H = rn Ls xs d 74 75 [l0, l1, l2, l3] (.inl (-1000000012) :: st) H := rn_nx rfl rfl
theorem e_M_item_75 : rn Ls xs d 74 75 [l0, l1, l2, l3] st H = rn Ls xs d 74 79 [l0, l1, l2, l3] st H := rn_nx rfl rfl
theorem e_M_item_78 : rn Ls xs d 74 78 [l0, l1, l2, some (.inl x)] st H = rn Ls xs d 74 79 [l0, l1, l2, some (.inl x)] (.inl x :: st) H := rn_nx rfl rfl
theorem e_M_item_79 : rn Ls xs d 74 79 [l0, l1, l2, l3] [.inl x] H = some (some (.inl x), H) := rn_done rfl rfl
theorem e_W_rest_0 : rn Ls xs d 75 0 [l0, some (.inl x), l2, l3] st H = rn Ls xs d 75 1 [l0, some (.inl x), l2, l3] (.inl x :: st) H := rn_nx rfl rfl
theorem e_W_rest_1 : rn Ls xs (d + 1) 75 1 [l0, l1, l2, l3] [v0] H = rb Ls xs (d + 1) 75 4 [l0, l1, l2, l3] [] (rn Ls xs d 165 0 [some v0] [] H) := rn_call rfl (Nat.le_of_ble_eq_true rfl) (Nat.le_of_ble_eq_true rfl) rfl rfl
theorem e_W_rest_4 : rn Ls xs d 75 4 [l0, l1, l2, l3] (.inl x :: st) H = if x ≠ 0 then rn Ls xs d 75 10 [l0, l1, l2, l3] st H else rn Ls xs d 75 7 [l0, l1, l2, l3] st H := rn_if (p := fun x => x ≠ 0) rfl
theorem e_W_rest_7 : rn Ls xs d 75 7 [l0, l1, l2, l3]  st H = rn Ls xs d 75 9 [l0, l1, l2, l3] (.inl (-1000000001) :: st) H := rn_nx rfl rfl
theorem e_W_rest_9 : rn Ls xs d 75 9 [l0, l1, l2, l3] [.inl x] H = some (some (.inl x), H) := rn_done rfl rfl
theorem e_W_rest_10 : rn Ls xs d 75 10 [some (.inr u), l1, l2, l3] st H = rn Ls xs d 75 11 [some (.inr u), l1, l2, l3] (.inr u :: st) H := rn_nx rfl rfl
theorem e_W_rest_11 : rn Ls xs d 75 11 [l0, some (.inl x), l2, l3] st H = rn Ls xs d 75 12 [l0, some (.inl x), l2, l3] (.inl x :: st) H := rn_nx rfl rfl
theorem e_W_rest_12 : rn Ls xs d 75 12 [l0, l1, l2, l3]  st H = rn Ls xs d 75 13 [l0, l1, l2, l3] (.inl 3 :: st) H := rn_nx rfl rfl
theorem e_W_rest_13 : rn Ls xs (d + 1) 75 13 [l0, l1, l2, l3] [v2, v1, (.inr (.inl (some a)))] (S, I, R) = if h_is S a 8 10 then rb Ls xs (d + 1) 75 16 [l0, l1, l2, l3] [] (rn Ls xs d 169 0 [some (.inr (.inl (some a))), some v1, some v2, none] [] (S, I, R)) else none := rn_callO rfl rfl (Nat.le_of_ble_eq_true rfl) rfl rfl
theorem e_W_rest_16 : rn Ls xs d 75 16 [l0, l1, l2, l3] (.inl x :: st) H = rn Ls xs d 75 17 [l0, l1, l2, some (.inl x)] st H := rn_nx rfl rfl
theorem e_W_rest_17 : rn Ls xs d 75 17 [l0, l1, l2, some (.inl x)] st H = rn Ls xs d 75 18 [l0, l1, l2, some (.inl x)] (.inl x :: st) H := rn_nx rfl rfl
theorem e_W_rest_18 : rn Ls xs d 75 18 [l0, l1, l2, l3] (.inl x :: st) H = if x = 0 then rn Ls xs d 75 23 [l0, l1, l2, l3] st H else rn Ls xs d 75 21 [l0, l1, l2, l3] st H := rn_if (p := fun x => x = 0) rfl
theorem e_W_rest_21 : rn Ls xs d 75 21 [l0, l1, l2, some (.inl x)] st H = rn Ls xs d 75 22 [l0, l1, l2, some (.inl x)] (.inl x :: st) H := rn_nx rfl rfl
theorem e_W_rest_22 : rn Ls xs d 75 22 [l0, l1, l2, l3] [.inl x] H = some (some (.inl x), H) := rn_done rfl rfl
theorem e_W_rest_23 : rn Ls xs d 75 23 [l0, l1, some (.inl x), l3] st H = rn Ls xs d 75 24 [l0, l1, some (.inl x), l3] (.inl x :: st) H := rn_nx rfl rfl
theorem e_W_rest_24 : rn Ls xs d 75 24 [l0, l1, l2, l3] (.inl x :: st) H = if x ≠ 0 then rn Ls xs d 75 32 [l0, l1, l2, l3] st H else rn Ls xs d 75 27 [l0, l1, l2, l3] st H := rn_if (p := fun x => x ≠ 0) rfl
theorem e_W_rest_27 : rn Ls xs d 75 27 [l0, l1, l2, l3]  st H = rn Ls xs d 75 29 [l0, l1, l2, l3] (.inl (-1000000002) :: st) H := rn_nx rfl rfl
theorem e_W_rest_29 : rn Ls xs d 75 29 [l0, l1, l2, l3] st H = rn Ls xs d 75 43 [l0, l1, l2, l3] st H := rn_nx rfl rfl
theorem e_W_rest_32 : rn Ls xs d 75 32 [some (.inr u), l1, l2, l3] st H = rn Ls xs d 75 33 [some (.inr u), l1, l2, l3] (.inr u :: st) H := rn_nx rfl rfl
theorem e_W_rest_33 : rn Ls xs d 75 33 [l0, l1, l2, l3] (.inr (.inl (some a)) :: st) (S, I, R) = if h_is S a 8 10 then rn Ls xs d 75 36 [l0, l1, l2, l3] (.inr (R a 6) :: st) (S, I, R) else none := rn_bc rfl rfl
theorem e_W_rest_36 : rn Ls xs d 75 36 [l0, some (.inl x), l2, l3] st H = rn Ls xs d 75 37 [l0, some (.inl x), l2, l3] (.inl x :: st) H := rn_nx rfl rfl
theorem e_W_rest_37 : rn Ls xs d 75 37 [l0, l1, l2, l3] (.inl i :: .inr (.inl (some a)) :: st) (S, I, R) = if h_ia S a 7 i then (match R a i.toNatClampNeg with | .inl o => rn Ls xs d 75 38 [l0, l1, l2, l3] (.inr (.inl o) :: st) (S, I, R) | .inr _ => none) else none := rn_aald rfl
theorem e_W_rest_38 : rn Ls xs d 75 38 [l0, l1, l2, l3] (.inr (.inl (some a)) :: st) (S, I, R) = if h_is S a 4 4 then rn Ls xs d 75 41 [l0, l1, l2, l3] (.inl (I a 2) :: st) (S, I, R) else none := rn_bc rfl rfl
theorem e_W_rest_41 : rn Ls xs d 75 41 [l0, l1, some (.inl x), l3] st H = rn Ls xs d 75 42 [l0, l1, some (.inl x), l3] (.inl x :: st) H := rn_nx rfl rfl
theorem e_W_rest_42 : rn Ls xs d 75 42 [l0, l1, l2, l3] (.inl y :: .inl x :: st) H = if y = 0 then none else rn Ls xs d 75 43 [l0, l1, l2, l3] (.inl (x - x / y * y) :: st) H := rn_div (f := fun x y => x - x / y * y) rfl
theorem e_W_rest_43 : rn Ls xs d 75 43 [l0, l1, l2, l3] [.inl x] H = some (some (.inl x), H) := rn_done rfl rfl
theorem e_M_rest_0 : rn Ls xs d 76 0 [l0, some (.inl x), l2] st H = rn Ls xs d 76 1 [l0, some (.inl x), l2] (.inl x :: st) H := rn_nx rfl rfl
theorem e_M_rest_1 : rn Ls xs (d + 1) 76 1 [l0, l1, l2] [v0] H = rb Ls xs (d + 1) 76 4 [l0, l1, l2] [] (rn Ls xs d 168 0 [some v0] [] H) := rn_call rfl (Nat.le_of_ble_eq_true rfl) (Nat.le_of_ble_eq_true rfl) rfl rfl
theorem e_M_rest_4 : rn Ls xs d 76 4 [l0, l1, l2] (.inl x :: st) H = if x ≠ 0 then rn Ls xs d 76 10 [l0, l1, l2] st H else rn Ls xs d 76 7 [l0, l1, l2] st H := rn_if (p := fun x => x ≠ 0) rfl
theorem e_M_rest_7 : rn Ls xs d 76 7 [l0, l1, l2]  st H = rn Ls xs d 76 9 [l0, l1, l2] (.inl (-1000000001) :: st) H := rn_nx rfl rfl
theorem e_M_rest_9 : rn Ls xs d 76 9 [l0, l1, l2] [.inl x] H = some (some (.inl x), H) := rn_done rfl rfl
theorem e_M_rest_10 : rn Ls xs d 76 10 [some (.inr u), l1, l2] st H = rn Ls xs d 76 11 [some (.inr u), l1, l2] (.inr u :: st) H := rn_nx rfl rfl
theorem e_M_rest_11 : rn Ls xs d 76 11 [l0, l1, l2] (.inr (.inl (some a)) :: st) (S, I, R) = if h_is S a 9 36 then rn Ls xs d 76 14 [l0, l1, l2] (.inr (R a 29) :: st) (S, I, R) else none := rn_bc rfl rfl
theorem e_M_rest_14 : rn Ls xs d 76 14 [l0, some (.inl x), l2] st H = rn Ls xs d 76 15 [l0, some (.inl x), l2] (.inl x :: st) H := rn_nx rfl rfl
theorem e_M_rest_15 : rn Ls xs d 76 15 [l0, l1, l2] (.inl i :: .inr (.inl (some a)) :: st) (S, I, R) = if h_ia S a 0 i then rn Ls xs d 76 16 [l0, l1, l2] (.inl (I a i.toNatClampNeg) :: st) (S, I, R) else none := rn_bc rfl rfl
theorem e_M_rest_16 : rn Ls xs d 76 16 [l0, l1, l2] (.inl x :: st) H = if x ≠ 0 then rn Ls xs d 76 22 [l0, l1, l2] st H else rn Ls xs d 76 19 [l0, l1, l2] st H := rn_if (p := fun x => x ≠ 0) rfl
theorem e_M_rest_19 : rn Ls xs d 76 19 [l0, l1, l2]  st H = rn Ls xs d 76 21 [l0, l1, l2] (.inl (-1000000011) :: st) H := rn_nx rfl rfl
theorem e_M_rest_21 : rn Ls xs d 76 21 [l0, l1, l2] [.inl x] H = some (some (.inl x), H) := rn_done rfl rfl
theorem e_M_rest_22 : rn Ls xs d 76 22 [some (.inr u), l1, l2] st H = rn Ls xs d 76 23 [some (.inr u), l1, l2] (.inr u :: st) H := rn_nx rfl rfl
theorem e_M_rest_23 : rn Ls xs d 76 23 [l0, l1, l2] (.inr (.inl (some a)) :: st) (S, I, R) = if h_is S a 9 36 then rn Ls xs d 76 26 [l0, l1, l2] (.inr (R a 29) :: st) (S, I, R) else none := rn_bc rfl rfl
theorem e_M_rest_26 : rn Ls xs d 76 26 [l0, some (.inl x), l2] st H = rn Ls xs d 76 27 [l0, some (.inl x), l2] (.inl x :: st) H := rn_nx rfl rfl
theorem e_M_rest_27 : rn Ls xs d 76 27 [l0, l1, l2] (.inl i :: .inr (.inl (some a)) :: st) (S, I, R) = if h_ia S a 0 i then rn Ls xs d 76 28 [l0, l1, l2] (.inl (I a i.toNatClampNeg) :: st) (S, I, R) else none := rn_bc rfl rfl
theorem e_M_rest_28 : rn Ls xs d 76 28 [l0, l1, l2]  st H = rn Ls xs d 76 29 [l0, l1, l2] (.inl 3 :: st) H := rn_nx rfl rfl
theorem e_M_rest_29 : rn Ls xs d 76 29 [l0, l1, l2] (.inl y :: .inl x :: st) H = if x = y then rn Ls xs d 76 35 [l0, l1, l2] st H else rn Ls xs d 76 32 [l0, l1, l2] st H := rn_cmp (p := fun x y => x = y) rfl
theorem e_M_rest_32 : rn Ls xs d 76 32 [l0, l1, l2]  st H = rn Ls xs d 76 34 [l0, l1, l2] (.inl (-1000000012) :: st) H := rn_nx rfl rfl
theorem e_M_rest_34 : rn Ls xs d 76 34 [l0, l1, l2] [.inl x] H = some (some (.inl x), H) := rn_done rfl rfl
theorem e_M_rest_35 : rn Ls xs d 76 35 [l0, l1, some (.inl x)] st H = rn Ls xs d 76 36 [l0, l1, some (.inl x)] (.inl x :: st) H := rn_nx rfl rfl
theorem e_M_rest_36 : rn Ls xs d 76 36 [l0, l1, l2] (.inl x :: st) H = if x ≠ 0 then rn Ls xs d 76 44 [l0, l1, l2] st H else rn Ls xs d 76 39 [l0, l1, l2] st H := rn_if (p := fun x => x ≠ 0) rfl
theorem e_M_rest_39 : rn Ls xs d 76 39 [l0, l1, l2]  st H = rn Ls xs d 76 41 [l0, l1, l2] (.inl (-1000000002) :: st) H := rn_nx rfl rfl
theorem e_M_rest_41 : rn Ls xs d 76 41 [l0, l1, l2] st H = rn Ls xs d 76 61 [l0, l1, l2] st H := rn_nx rfl rfl
theorem e_M_rest_44 : rn Ls xs d 76 44 [l0, l1, some (.inl x)] st H = rn Ls xs d 76 45 [l0, l1, some (.inl x)] (.inl x :: st) H := rn_nx rfl rfl
theorem e_M_rest_45 : rn Ls xs d 76 45 [l0, l1, l2]  st H = rn Ls xs d 76 46 [l0, l1, l2] (.inl (-1) :: st) H := rn_nx rfl rfl
theorem e_M_rest_46 : rn Ls xs d 76 46 [l0, l1, l2] (.inl y :: .inl x :: st) H = if x ≠ y then rn Ls xs d 76 53 [l0, l1, l2] st H else rn Ls xs d 76 49 [l0, l1, l2] st H := rn_cmp (p := fun x y => x ≠ y) rfl
theorem e_M_rest_49 : rn Ls xs d 76 49 [l0, l1, l2]  st H = rn Ls xs d 76 50 [l0, l1, l2] (.inl 0 :: st) H := rn_nx rfl rfl
theorem e_M_rest_50 : rn Ls xs d 76 50 [l0, l1, l2] st H = rn Ls xs d 76 61 [l0, l1, l2] st H := rn_nx rfl rfl
theorem e_M_rest_53 : rn Ls xs d 76 53 [some (.inr u), l1, l2] st H = rn Ls xs d 76 54 [some (.inr u), l1, l2] (.inr u :: st) H := rn_nx rfl rfl
theorem e_M_rest_54 : rn Ls xs d 76 54 [l0, l1, l2] (.inr (.inl (some a)) :: st) (S, I, R) = if h_is S a 9 36 then rn Ls xs d 76 57 [l0, l1, l2] (.inr (R a 30) :: st) (S, I, R) else none := rn_bc rfl rfl
theorem e_M_rest_57 : rn Ls xs d 76 57 [l0, some (.inl x), l2] st H = rn Ls xs d 76 58 [l0, some (.inl x), l2] (.inl x :: st) H := rn_nx rfl rfl
theorem e_M_rest_58 : rn Ls xs d 76 58 [l0, l1, l2] (.inl i :: .inr (.inl (some a)) :: st) (S, I, R) = if h_ia S a 0 i then rn Ls xs d 76 59 [l0, l1, l2] (.inl (I a i.toNatClampNeg) :: st) (S, I, R) else none := rn_bc rfl rfl
theorem e_M_rest_59 : rn Ls xs d 76 59 [l0, l1, some (.inl x)] st H = rn Ls xs d 76 60 [l0, l1, some (.inl x)] (.inl x :: st) H := rn_nx rfl rfl
theorem e_M_rest_60 : rn Ls xs d 76 60 [l0, l1, l2] (.inl y :: .inl x :: st) H = if y = 0 then none else rn Ls xs d 76 61 [l0, l1, l2] (.inl (x - x / y * y) :: st) H := rn_div (f := fun x y => x - x / y * y) rfl
theorem e_M_rest_61 : rn Ls xs d 76 61 [l0, l1, l2] [.inl x] H = some (some (.inl x), H) := rn_done rfl rfl
theorem e_W_tell_0 : rn Ls xs d 77 0 [some (.inr u), l1] st H = rn Ls xs d 77 1 [some (.inr u), l1] (.inr u :: st) H := rn_nx rfl rfl
theorem e_W_tell_1 : rn Ls xs d 77 1 [l0, l1] (.inr (.inl (some a)) :: st) (S, I, R) = if h_is S a 8 10 then rn Ls xs d 77 4 [l0, l1] (.inl (I a 8) :: st) (S, I, R) else none := rn_bc rfl rfl
theorem e_W_tell_4 : rn Ls xs d 77 4 [l0, l1]  st H = rn Ls xs d 77 6 [l0, l1] (.inl 60 :: st) H := rn_nx rfl rfl
theorem e_W_tell_6 : rn Ls xs d 77 6 [l0, l1] (.inl y :: .inl x :: st) H = if x < y then rn Ls xs d 77 12 [l0, l1] st H else rn Ls xs d 77 9 [l0, l1] st H := rn_cmp (p := fun x y => x < y) rfl
theorem e_W_tell_9 : rn Ls xs d 77 9 [l0, l1]  st H = rn Ls xs d 77 11 [l0, l1] (.inl (-1000000003) :: st) H := rn_nx rfl rfl
theorem e_W_tell_11 : rn Ls xs d 77 11 [l0, l1] [.inl x] H = some (some (.inl x), H) := rn_done rfl rfl
theorem e_W_tell_12 : rn Ls xs d 77 12 [some (.inr u), l1] st H = rn Ls xs d 77 13 [some (.inr u), l1] (.inr u :: st) H := rn_nx rfl rfl
theorem e_W_tell_13 : rn Ls xs d 77 13 [l0, l1] (.inr (.inl (some a)) :: st) (S, I, R) = if h_is S a 8 10 then rn Ls xs d 77 16 [l0, l1] (.inr (R a 7) :: st) (S, I, R) else none := rn_bc rfl rfl
theorem e_W_tell_16 : rn Ls xs d 77 16 [some (.inr u), l1] st H = rn Ls xs d 77 17 [some (.inr u), l1] (.inr u :: st) H := rn_nx rfl rfl
theorem e_W_tell_17 : rn Ls xs d 77 17 [l0, l1] (.inr (.inl (some a)) :: st) (S, I, R) = if h_is S a 8 10 then rn Ls xs d 77 20 [l0, l1] (.inl (I a 8) :: st) (S, I, R) else none := rn_bc rfl rfl
theorem e_W_tell_20 : rn Ls xs d 77 20 [l0, some (.inl x)] st H = rn Ls xs d 77 21 [l0, some (.inl x)] (.inl x :: st) H := rn_nx rfl rfl
theorem e_W_tell_21 : rn Ls xs d 77 21 [l0, l1] (.inl x :: .inl i :: .inr (.inl (some a)) :: st) (S, I, R) = if h_ia S a 0 i then rn Ls xs d 77 22 [l0, l1] st (S, va_up I a (upd (I a) i.toNatClampNeg x), R) else none := rn_bc rfl rfl
theorem e_W_tell_22 : rn Ls xs d 77 22 [some (.inr u), l1] st H = rn Ls xs d 77 23 [some (.inr u), l1] (.inr u :: st) H := rn_nx rfl rfl
theorem e_W_tell_23 : rn Ls xs d 77 23 [l0, l1] (v :: st) H = rn Ls xs d 77 24 [l0, l1] (v :: v :: st) H := rn_nx rfl rfl
theorem e_W_tell_24 : rn Ls xs d 77 24 [l0, l1] (.inr (.inl (some a)) :: st) (S, I, R) = if h_is S a 8 10 then rn Ls xs d 77 27 [l0, l1] (.inl (I a 8) :: st) (S, I, R) else none := rn_bc rfl rfl
theorem e_W_tell_27 : rn Ls xs d 77 27 [l0, l1]  st H = rn Ls xs d 77 28 [l0, l1] (.inl 1 :: st) H := rn_nx rfl rfl
theorem e_W_tell_28 : rn Ls xs d 77 28 [l0, l1] (.inl y :: .inl x :: st) H = rn Ls xs d 77 29 [l0, l1] (.inl (x + y) :: st) H := rn_nx rfl rfl
theorem e_W_tell_29 : rn Ls xs d 77 29 [l0, l1] (.inl x :: .inr (.inl (some a)) :: st) (S, I, R) = if h_is S a 8 10 then rn Ls xs d 77 32 [l0, l1] st (S, va_up I a (upd (I a) 8 x), R) else none := rn_bc rfl rfl
theorem e_W_tell_32 : rn Ls xs d 77 32 [some (.inr u), l1] st H = rn Ls xs d 77 33 [some (.inr u), l1] (.inr u :: st) H := rn_nx rfl rfl
theorem e_W_tell_33 : rn Ls xs d 77 33 [l0, l1] (.inr (.inl (some a)) :: st) (S, I, R) = if h_is S a 8 10 then rn Ls xs d 77 36 [l0, l1] (.inl (I a 8) :: st) (S, I, R) else none := rn_bc rfl rfl
theorem e_W_tell_36 : rn Ls xs d 77 36 [l0, l1] [.inl x] H = some (some (.inl x), H) := rn_done rfl rfl
theorem e_M_tell_0 : rn Ls xs d 78 0 [some (.inr u), l1] st H = rn Ls xs d 78 1 [some (.inr u), l1] (.inr u :: st) H := rn_nx rfl rfl
theorem e_M_tell_1 : rn Ls xs d 78 1 [l0, l1] (.inr (.inl (some a)) :: st) (S, I, R) = if h_is S a 9 36 then rn Ls xs d 78 4 [l0, l1] (.inl (I a 35) :: st) (S, I, R) else none := rn_bc rfl rfl
theorem e_M_tell_4 : rn Ls xs d 78 4 [l0, l1]  st H = rn Ls xs d 78 6 [l0, l1] (.inl 60 :: st) H := rn_nx rfl rfl
theorem e_M_tell_6 : rn Ls xs d 78 6 [l0, l1] (.inl y :: .inl x :: st) H = if x ≠ y then rn Ls xs d 78 12 [l0, l1] st H else rn Ls xs d 78 9 [l0, l1] st H := rn_cmp (p := fun x y => x ≠ y) rfl
theorem e_M_tell_9 : rn Ls xs d 78 9 [l0, l1]  st H = rn Ls xs d 78 11 [l0, l1] (.inl (-1000000003) :: st) H := rn_nx rfl rfl
theorem e_M_tell_11 : rn Ls xs d 78 11 [l0, l1] [.inl x] H = some (some (.inl x), H) := rn_done rfl rfl
theorem e_M_tell_12 : rn Ls xs d 78 12 [some (.inr u), l1] st H = rn Ls xs d 78 13 [some (.inr u), l1] (.inr u :: st) H := rn_nx rfl rfl
theorem e_M_tell_13 : rn Ls xs d 78 13 [l0, l1] (.inr (.inl (some a)) :: st) (S, I, R) = if h_is S a 9 36 then rn Ls xs d 78 16 [l0, l1] (.inr (R a 34) :: st) (S, I, R) else none := rn_bc rfl rfl
theorem e_M_tell_16 : rn Ls xs d 78 16 [some (.inr u), l1] st H = rn Ls xs d 78 17 [some (.inr u), l1] (.inr u :: st) H := rn_nx rfl rfl
theorem e_M_tell_17 : rn Ls xs d 78 17 [l0, l1] (.inr (.inl (some a)) :: st) (S, I, R) = if h_is S a 9 36 then rn Ls xs d 78 20 [l0, l1] (.inl (I a 35) :: st) (S, I, R) else none := rn_bc rfl rfl
theorem e_M_tell_20 : rn Ls xs d 78 20 [l0, some (.inl x)] st H = rn Ls xs d 78 21 [l0, some (.inl x)] (.inl x :: st) H := rn_nx rfl rfl
theorem e_M_tell_21 : rn Ls xs d 78 21 [l0, l1] (.inl x :: .inl i :: .inr (.inl (some a)) :: st) (S, I, R) = if h_ia S a 0 i then rn Ls xs d 78 22 [l0, l1] st (S, va_up I a (upd (I a) i.toNatClampNeg x), R) else none := rn_bc rfl rfl
theorem e_M_tell_22 : rn Ls xs d 78 22 [some (.inr u), l1] st H = rn Ls xs d 78 23 [some (.inr u), l1] (.inr u :: st) H := rn_nx rfl rfl
theorem e_M_tell_23 : rn Ls xs d 78 23 [l0, l1] (v :: st) H = rn Ls xs d 78 24 [l0, l1] (v :: v :: st) H := rn_nx rfl rfl
theorem e_M_tell_24 : rn Ls xs d 78 24 [l0, l1] (.inr (.inl (some a)) :: st) (S, I, R) = if h_is S a 9 36 then rn Ls xs d 78 27 [l0, l1] (.inl (I a 35) :: st) (S, I, R) else none := rn_bc rfl rfl
theorem e_M_tell_27 : rn Ls xs d 78 27 [l0, l1]  st H = rn Ls xs d 78 28 [l0, l1] (.inl 1 :: st) H := rn_nx rfl rfl
theorem e_M_tell_28 : rn Ls xs d 78 28 [l0, l1] (.inl y :: .inl x :: st) H = rn Ls xs d 78 29 [l0, l1] (.inl (x + y) :: st) H := rn_nx rfl rfl
theorem e_M_tell_29 : rn Ls xs d 78 29 [l0, l1] (.inl x :: .inr (.inl (some a)) :: st) (S, I, R) = if h_is S a 9 36 then rn Ls xs d 78 32 [l0, l1] st (S, va_up I a (upd (I a) 35 x), R) else none := rn_bc rfl rfl
theorem e_M_tell_32 : rn Ls xs d 78 32 [some (.inr u), l1] st H = rn Ls xs d 78 33 [some (.inr u), l1] (.inr u :: st) H := rn_nx rfl rfl
theorem e_M_tell_33 : rn Ls xs d 78 33 [l0, l1] (.inr (.inl (some a)) :: st) (S, I, R) = if h_is S a 9 36 then rn Ls xs d 78 36 [l0, l1] (.inl (I a 35) :: st) (S, I, R) else none := rn_bc rfl rfl
theorem e_M_tell_36 : rn Ls xs d 78 36 [l0, l1] [.inl x] H = some (some (.inl x), H) := rn_done rfl rfl
theorem e_W_check_0 : rn Ls xs d 79 0 [some (.inr u), l1, l2, l3, l4] st H = rn Ls xs d 79 1 [some (.inr u), l1, l2, l3, l4] (.inr u :: st) H := rn_nx rfl rfl
theorem e_W_check_1 : rn Ls xs d 79 1 [l0, l1, l2, l3, l4] (.inr (.inl (some a)) :: st) (S, I, R) = if h_is S a 8 10 then rn Ls xs d 79 4 [l0, l1, l2, l3, l4] (.inl (I a 8) :: st) (S, I, R) else none := rn_bc rfl rfl
theorem e_W_check_4 : rn Ls xs d 79 4 [l0, l1, l2, l3, l4] (.inl x :: st) H = rn Ls xs d 79 5 [l0, l1, some (.inl x), l3, l4] st H := rn_nx rfl rfl
theorem e_W_check_5 : rn Ls xs d 79 5 [some (.inr u), l1, l2, l3, l4] st H = rn Ls xs d 79 6 [some (.inr u), l1, l2, l3, l4] (.inr u :: st) H := rn_nx rfl rfl
theorem e_W_check_6 : rn Ls xs d 79 6 [l0, l1, l2, l3, l4]  st H = rn Ls xs d 79 7 [l0, l1, l2, l3, l4] (.inl 0 :: st) H := rn_nx rfl rfl
theorem e_W_check_7 : rn Ls xs d 79 7 [l0, l1, l2, l3, l4] (.inl x :: .inr (.inl (some a)) :: st) (S, I, R) = if h_is S a 8 10 then rn Ls xs d 79 10 [l0, l1, l2, l3, l4] st (S, va_up I a (upd (I a) 8 x), R) else none := rn_bc rfl rfl
theorem e_W_check_10 : rn Ls xs d 79 10 [l0, some (.inl x), l2, l3, l4] st H = rn Ls xs d 79 11 [l0, some (.inl x), l2, l3, l4] (.inl x :: st) H := rn_nx rfl rfl
theorem e_W_check_11 : rn Ls xs d 79 11 [l0, l1, l2, l3, l4]  st H = rn Ls xs d 79 12 [l0, l1, l2, l3, l4] (.inl 1 :: st) H := rn_nx rfl rfl
theorem e_W_check_12 : rn Ls xs d 79 12 [l0, l1, l2, l3, l4]  st H = rn Ls xs d 79 14 [l0, l1, l2, l3, l4] (.inl 30 :: st) H := rn_nx rfl rfl
theorem e_W_check_14 : rn Ls xs (d + 1) 79 14 [l0, l1, l2, l3, l4] [v2, v1, v0] H = rb Ls xs (d + 1) 79 17 [l0, l1, l2, l3, l4] [] (rn Ls xs d 94 0 [some v0, some v1, some v2] [] H) := rn_call rfl (Nat.le_of_ble_eq_true rfl) (Nat.le_of_ble_eq_true rfl) rfl rfl
theorem e_W_check_17 : rn Ls xs d 79 17 [l0, l1, l2, l3, l4] (.inl x :: st) H = if x ≠ 0 then rn Ls xs d 79 23 [l0, l1, l2, l3, l4] st H else rn Ls xs d 79 20 [l0, l1, l2, l3, l4] st H := rn_if (p := fun x => x ≠ 0) rfl
theorem e_W_check_20 : rn Ls xs d 79 20 [l0, l1, l2, l3, l4]  st H = rn Ls xs d 79 22 [l0, l1, l2, l3, l4] (.inl (-1000000001) :: st) H := rn_nx rfl rfl
theorem e_W_check_22 : rn Ls xs d 79 22 [l0, l1, l2, l3, l4] [.inl x] H = some (some (.inl x), H) := rn_done rfl rfl
theorem e_W_check_23 : rn Ls xs d 79 23 [some (.inr u), l1, l2, l3, l4] st H = rn Ls xs d 79 24 [some (.inr u), l1, l2, l3, l4] (.inr u :: st) H := rn_nx rfl rfl
theorem e_W_check_24 : rn Ls xs d 79 24 [l0, l1, l2, l3, l4] (.inr (.inl (some a)) :: st) (S, I, R) = if h_is S a 8 10 then rn Ls xs d 79 27 [l0, l1, l2, l3, l4] (.inl (I a 9) :: st) (S, I, R) else none := rn_bc rfl rfl
theorem e_W_check_27 : rn Ls xs d 79 27 [l0, l1, l2, l3, l4] (.inl x :: st) H = if x ≠ 0 then rn Ls xs d 79 33 [l0, l1, l2, l3, l4] st H else rn Ls xs d 79 30 [l0, l1, l2, l3, l4] st H := rn_if (p := fun x => x ≠ 0) rfl
theorem e_W_check_30 : rn Ls xs d 79 30 [l0, l1, l2, l3, l4]  st H = rn Ls xs d 79 32 [l0, l1, l2, l3, l4] (.inl (-1000000002) :: st) H := rn_nx rfl rfl
theorem e_W_check_32 : rn Ls xs d 79 32 [l0, l1, l2, l3, l4] [.inl x] H = some (some (.inl x), H) := rn_done rfl rfl
theorem e_W_check_33 : rn Ls xs d 79 33 [l0, some (.inl x), l2, l3, l4] st H = rn Ls xs d 79 34 [l0, some (.inl x), l2, l3, l4] (.inl x :: st) H := rn_nx rfl rfl
theorem e_W_check_34 : rn Ls xs d 79 34 [l0, l1, l2, l3, l4]  st H = rn Ls xs d 79 37 [l0, l1, l2, l3, l4] (.inl 9999 :: st) H := rn_nx rfl rfl
theorem e_W_check_37 : rn Ls xs d 79 37 [some (.inr u), l1, l2, l3, l4] st H = rn Ls xs d 79 38 [some (.inr u), l1, l2, l3, l4] (.inr u :: st) H := rn_nx rfl rfl
theorem e_W_check_38 : rn Ls xs d 79 38 [l0, l1, l2, l3, l4] (.inr (.inl (some a)) :: st) (S, I, R) = if h_is S a 8 10 then rn Ls xs d 79 41 [l0, l1, l2, l3, l4] (.inr (R a 1) :: st) (S, I, R) else none := rn_bc rfl rfl
theorem e_W_check_41 : rn Ls xs d 79 41 [l0, l1, l2, l3, l4] (.inr (.inl (some a)) :: st) (S, I, R) = if h_is S a 3 11 then rn Ls xs d 79 44 [l0, l1, l2, l3, l4] (.inl (I a 9) :: st) (S, I, R) else none := rn_bc rfl rfl
theorem e_W_check_44 : rn Ls xs d 79 44 [l0, l1, l2, l3, l4] (.inl y :: .inl x :: st) H = rn Ls xs d 79 45 [l0, l1, l2, l3, l4] (.inl (x - y) :: st) H := rn_nx rfl rfl
theorem e_W_check_45 : rn Ls xs (d + 1) 79 45 [l0, l1, l2, l3, l4] [v1, v0] H = rb Ls xs (d + 1) 79 48 [l0, l1, l2, l3, l4] [] (rn Ls xs d 116 0 [some v0, some v1] [] H) := rn_call rfl (Nat.le_of_ble_eq_true rfl) (Nat.le_of_ble_eq_true rfl) rfl rfl
theorem e_W_check_48 : rn Ls xs d 79 48 [l0, l1, l2, l3, l4] (.inl x :: st) H = rn Ls xs d 79 49 [l0, l1, l2, some (.inl x), l4] st H := rn_nx rfl rfl
theorem e_W_check_49 : rn Ls xs d 79 49 [some (.inr u), l1, l2, l3, l4] st H = rn Ls xs d 79 50 [some (.inr u), l1, l2, l3, l4] (.inr u :: st) H := rn_nx rfl rfl
theorem e_W_check_50 : rn Ls xs d 79 50 [l0, l1, l2, l3, l4] (.inr (.inl (some a)) :: st) (S, I, R) = if h_is S a 8 10 then rn Ls xs d 79 53 [l0, l1, l2, l3, l4] (.inr (R a 2) :: st) (S, I, R) else none := rn_bc rfl rfl
theorem e_W_check_53 : rn Ls xs d 79 53 [some (.inr u), l1, l2, l3, l4] st H = rn Ls xs d 79 54 [some (.inr u), l1, l2, l3, l4] (.inr u :: st) H := rn_nx rfl rfl
theorem e_W_check_54 : rn Ls xs d 79 54 [l0, l1, l2, l3, l4] (.inr (.inl (some a)) :: st) (S, I, R) = if h_is S a 8 10 then rn Ls xs d 79 57 [l0, l1, l2, l3, l4] (.inr (R a 1) :: st) (S, I, R) else none := rn_bc rfl rfl
theorem e_W_check_57 : rn Ls xs d 79 57 [l0, l1, l2, some (.inl x), l4] st H = rn Ls xs d 79 58 [l0, l1, l2, some (.inl x), l4] (.inl x :: st) H := rn_nx rfl rfl
theorem e_W_check_58 : rn Ls xs d 79 58 [some (.inr u), l1, l2, l3, l4] st H = rn Ls xs d 79 59 [some (.inr u), l1, l2, l3, l4] (.inr u :: st) H := rn_nx rfl rfl
theorem e_W_check_59 : rn Ls xs d 79 59 [l0, l1, l2, l3, l4] (.inr (.inl (some a)) :: st) (S, I, R) = if h_is S a 8 10 then rn Ls xs d 79 62 [l0, l1, l2, l3, l4] (.inr (R a 7) :: st) (S, I, R) else none := rn_bc rfl rfl
theorem e_W_check_62 : rn Ls xs d 79 62 [l0, l1, some (.inl x), l3, l4] st H = rn Ls xs d 79 63 [l0, l1, some (.inl x), l3, l4] (.inl x :: st) H := rn_nx rfl rfl
theorem e_W_check_63 : rn Ls xs (d + 1) 79 63 [l0, l1, l2, l3, l4] [v4, v3, v2, v1, (.inr (.inl (some a)))] (S, I, R) = if h_is S a 0 5 then rb Ls xs (d + 1) 79 66 [l0, l1, l2, l3, l4] [] (rn Ls xs d 170 0 [some (.inr (.inl (some a))), some v1, some v2, some v3, some v4, none, none] [] (S, I, R)) else none := rn_callO rfl rfl (Nat.le_of_ble_eq_true rfl) rfl rfl
theorem e_W_check_66 : rn Ls xs d 79 66 [l0, l1, l2, l3, l4] (.inl x :: st) H = rn Ls xs d 79 68 [l0, l1, l2, l3, some (.inl x)] st H := rn_nx rfl rfl
theorem e_W_check_68 : rn Ls xs d 79 68 [l0, l1, l2, l3, some (.inl x)] st H = rn Ls xs d 79 70 [l0, l1, l2, l3, some (.inl x)] (.inl x :: st) H := rn_nx rfl rfl
theorem e_W_check_70 : rn Ls xs d 79 70 [l0, l1, some (.inl x), l3, l4] st H = rn Ls xs d 79 71 [l0, l1, some (.inl x), l3, l4] (.inl x :: st) H := rn_nx rfl rfl
theorem e_W_check_71 : rn Ls xs d 79 71 [l0, l1, l2, l3, l4] (.inl y :: .inl x :: st) H = if x ≠ y then rn Ls xs d 79 85 [l0, l1, l2, l3, l4] st H else rn Ls xs d 79 74 [l0, l1, l2, l3, l4] st H := rn_cmp (p := fun x y => x ≠ y) rfl
theorem e_W_check_74 : rn Ls xs d 79 74 [l0, l1, some (.inl x), l3, l4] st H = rn Ls xs d 79 75 [l0, l1, some (.inl x), l3, l4] (.inl x :: st) H := rn_nx rfl rfl
theorem e_W_check_75 : rn Ls xs d 79 75 [l0, l1, l2, l3, l4]  st H = rn Ls xs d 79 76 [l0, l1, l2, l3, l4] (.inl 2 :: st) H := rn_nx rfl rfl
theorem e_W_check_76 : rn Ls xs d 79 76 [l0, l1, l2, some (.inl x), l4] st H = rn Ls xs d 79 77 [l0, l1, l2, some (.inl x), l4] (.inl x :: st) H := rn_nx rfl rfl
theorem e_W_check_77 : rn Ls xs d 79 77 [l0, l1, l2, l3, l4] (.inl y :: .inl x :: st) H = rn Ls xs d 79 78 [l0, l1, l2, l3, l4] (.inl (x * y) :: st) H := rn_nx rfl rfl
theorem e_W_check_78 : rn Ls xs d 79 78 [l0, l1, l2, l3, l4] (.inl y :: .inl x :: st) H = if x ≠ y then rn Ls xs d 79 85 [l0, l1, l2, l3, l4] st H else rn Ls xs d 79 81 [l0, l1, l2, l3, l4] st H := rn_cmp (p := fun x y => x ≠ y) rfl
theorem e_W_check_81 : rn Ls xs d 79 81 [l0, l1, l2, l3, l4]  st H = rn Ls xs d 79 82 [l0, l1, l2, l3, l4] (.inl 0 :: st) H := rn_nx rfl rfl
theorem e_W_check_82 : rn Ls xs d 79 82 [l0, l1, l2, l3, l4] st H = rn Ls xs d 79 89 [l0, l1, l2, l3, l4] st H := rn_nx rfl rfl
theorem e_W_check_85 : rn Ls xs d 79 85 [l0, l1, l2, l3, l4]  st H = rn Ls xs d 79 86 [l0, l1, l2, l3, l4] (.inl 1 :: st) H := rn_nx rfl rfl
theorem e_W_check_86 : rn Ls xs d 79 86 [l0, l1, l2, l3, some (.inl x)] st H = rn Ls xs d 79 88 [l0, l1, l2, l3, some (.inl x)] (.inl x :: st) H := rn_nx rfl rfl
theorem e_W_check_88 : rn Ls xs d 79 88 [l0, l1, l2, l3, l4] (.inl y :: .inl x :: st) H = rn Ls xs d 79 89 [l0, l1, l2, l3, l4] (.inl (x + y) :: st) H := rn_nx rfl rfl
theorem e_W_check_89 : rn Ls xs d 79 89 [l0, l1, l2, l3, l4] [.inl x] H = some (some (.inl x), H) := rn_done rfl rfl
set_option maxRecDepth 20000 in
theorem e_M_check_0 : rn Ls xs d 80 0 [some (.inr u), l1, l2, l3, l4, l5] st H = rn Ls xs d 80 1 [some (.inr u), l1, l2, l3, l4, l5] (.inr u :: st) H := rn_nx rfl rfl
set_option maxRecDepth 20000 in
theorem e_M_check_1 : rn Ls xs d 80 1 [l0, l1, l2, l3, l4, l5] (.inr (.inl (some a)) :: st) (S, I, R) = if h_is S a 9 36 then rn Ls xs d 80 4 [l0, l1, l2, l3, l4, l5] (.inl (I a 35) :: st) (S, I, R) else none := rn_bc rfl rfl
set_option maxRecDepth 20000 in
theorem e_M_check_4 : rn Ls xs d 80 4 [l0, l1, l2, l3, l4, l5] (.inl x :: st) H = rn Ls xs d 80 5 [l0, l1, some (.inl x), l3, l4, l5] st H := rn_nx rfl rfl
set_option maxRecDepth 20000 in
theorem e_M_check_5 : rn Ls xs d 80 5 [some (.inr u), l1, l2, l3, l4, l5] st H = rn Ls xs d 80 6 [some (.inr u), l1, l2, l3, l4, l5] (.inr u :: st) H := rn_nx rfl rfl
set_option maxRecDepth 20000 in
theorem e_M_check_6 : rn Ls xs d 80 6 [l0, l1, l2, l3, l4, l5]  st H = rn Ls xs d 80 7 [l0, l1, l2, l3, l4, l5] (.inl 0 :: st) H := rn_nx rfl rfl
set_option maxRecDepth 20000 in
theorem e_M_check_7 : rn Ls xs d 80 7 [l0, l1, l2, l3, l4, l5] (.inl x :: .inr (.inl (some a)) :: st) (S, I, R) = if h_is S a 9 36 then rn Ls xs d 80 10 [l0, l1, l2, l3, l4, l5] st (S, va_up I a (upd (I a) 35 x), R) else none := rn_bc rfl rfl
set_option maxRecDepth 20000 in
theorem e_M_check_10 : rn Ls xs d 80 10 [l0, some (.inl x), l2, l3, l4, l5] st H = rn Ls xs d 80 11 [l0, some (.inl x), l2, l3, l4, l5] (.inl x :: st) H := rn_nx rfl rfl
set_option maxRecDepth 20000 in
theorem e_M_check_11 : rn Ls xs d 80 11 [l0, l1, l2, l3, l4, l5]  st H = rn Ls xs d 80 12 [l0, l1, l2, l3, l4, l5] (.inl 1 :: st) H := rn_nx rfl rfl
set_option maxRecDepth 20000 in
theorem e_M_check_12 : rn Ls xs d 80 12 [l0, l1, l2, l3, l4, l5]  st H = rn Ls xs d 80 14 [l0, l1, l2, l3, l4, l5] (.inl 30 :: st) H := rn_nx rfl rfl
set_option maxRecDepth 20000 in
theorem e_M_check_14 : rn Ls xs (d + 1) 80 14 [l0, l1, l2, l3, l4, l5] [v2, v1, v0] H = rb Ls xs (d + 1) 80 17 [l0, l1, l2, l3, l4, l5] [] (rn Ls xs d 97 0 [some v0, some v1, some v2] [] H) := rn_call rfl (Nat.le_of_ble_eq_true rfl) (Nat.le_of_ble_eq_true rfl) rfl rfl
set_option maxRecDepth 20000 in
theorem e_M_check_17 : rn Ls xs d 80 17 [l0, l1, l2, l3, l4, l5] (.inl x :: st) H = if x ≠ 0 then rn Ls xs d 80 23 [l0, l1, l2, l3, l4, l5] st H else rn Ls xs d 80 20 [l0, l1, l2, l3, l4, l5] st H := rn_if (p := fun x => x ≠ 0) rfl
set_option maxRecDepth 20000 in
theorem e_M_check_20 : rn Ls xs d 80 20 [l0, l1, l2, l3, l4, l5]  st H = rn Ls xs d 80 22 [l0, l1, l2, l3, l4, l5] (.inl (-1000000001) :: st) H := rn_nx rfl rfl
set_option maxRecDepth 20000 in
theorem e_M_check_22 : rn Ls xs d 80 22 [l0, l1, l2, l3, l4, l5] [.inl x] H = some (some (.inl x), H) := rn_done rfl rfl
set_option maxRecDepth 20000 in
theorem e_M_check_23 : rn Ls xs d 80 23 [some (.inr u), l1, l2, l3, l4, l5] st H = rn Ls xs d 80 24 [some (.inr u), l1, l2, l3, l4, l5] (.inr u :: st) H := rn_nx rfl rfl
set_option maxRecDepth 20000 in
theorem e_M_check_24 : rn Ls xs d 80 24 [l0, l1, l2, l3, l4, l5] (.inr (.inl (some a)) :: st) (S, I, R) = if h_is S a 9 36 then rn Ls xs d 80 27 [l0, l1, l2, l3, l4, l5] (.inl (I a 3) :: st) (S, I, R) else none := rn_bc rfl rfl
set_option maxRecDepth 20000 in
theorem e_M_check_27 : rn Ls xs d 80 27 [l0, l1, l2, l3, l4, l5] (.inl x :: st) H = if x ≠ 0 then rn Ls xs d 80 33 [l0, l1, l2, l3, l4, l5] st H else rn Ls xs d 80 30 [l0, l1, l2, l3, l4, l5] st H := rn_if (p := fun x => x ≠ 0) rfl
set_option maxRecDepth 20000 in
theorem e_M_check_30 : rn Ls xs d 80 30 [l0, l1, l2, l3, l4, l5]  st H = rn Ls xs d 80 32 [l0, l1, l2, l3, l4, l5] (.inl (-1000000002) :: st) H := rn_nx rfl rfl
set_option maxRecDepth 20000 in
theorem e_M_check_32 : rn Ls xs d 80 32 [l0, l1, l2, l3, l4, l5] [.inl x] H = some (some (.inl x), H) := rn_done rfl rfl
set_option maxRecDepth 20000 in
theorem e_M_check_33 : rn Ls xs d 80 33 [some (.inr u), l1, l2, l3, l4, l5] st H = rn Ls xs d 80 34 [some (.inr u), l1, l2, l3, l4, l5] (.inr u :: st) H := rn_nx rfl rfl
set_option maxRecDepth 20000 in
theorem e_M_check_34 : rn Ls xs d 80 34 [l0, l1, l2, l3, l4, l5] (.inr (.inl (some a)) :: st) (S, I, R) = if h_is S a 9 36 then rn Ls xs d 80 37 [l0, l1, l2, l3, l4, l5] (.inr (R a 0) :: st) (S, I, R) else none := rn_bc rfl rfl
set_option maxRecDepth 20000 in
theorem e_M_check_37 : rn Ls xs d 80 37 [some (.inr u), l1, l2, l3, l4, l5] st H = rn Ls xs d 80 38 [some (.inr u), l1, l2, l3, l4, l5] (.inr u :: st) H := rn_nx rfl rfl
set_option maxRecDepth 20000 in
theorem e_M_check_38 : rn Ls xs d 80 38 [l0, l1, l2, l3, l4, l5] (.inr (.inl (some a)) :: st) (S, I, R) = if h_is S a 9 36 then rn Ls xs d 80 41 [l0, l1, l2, l3, l4, l5] (.inr (R a 2) :: st) (S, I, R) else none := rn_bc rfl rfl
set_option maxRecDepth 20000 in
theorem e_M_check_41 : rn Ls xs (d + 1) 80 41 [l0, l1, l2, l3, l4, l5] [v1, v0] H = rb Ls xs (d + 1) 80 44 [l0, l1, l2, l3, l4, l5] [] (rn Ls xs d 171 0 [some v0, some v1, none] [] H) := rn_call rfl (Nat.le_of_ble_eq_true rfl) (Nat.le_of_ble_eq_true rfl) rfl rfl
set_option maxRecDepth 20000 in
theorem e_M_check_44 : rn Ls xs d 80 44 [some (.inr u), l1, l2, l3, l4, l5] st H = rn Ls xs d 80 45 [some (.inr u), l1, l2, l3, l4, l5] (.inr u :: st) H := rn_nx rfl rfl
set_option maxRecDepth 20000 in
theorem e_M_check_45 : rn Ls xs d 80 45 [l0, l1, l2, l3, l4, l5] (.inr (.inl (some a)) :: st) (S, I, R) = if h_is S a 9 36 then rn Ls xs d 80 48 [l0, l1, l2, l3, l4, l5] (.inr (R a 1) :: st) (S, I, R) else none := rn_bc rfl rfl
set_option maxRecDepth 20000 in
theorem e_M_check_48 : rn Ls xs d 80 48 [some (.inr u), l1, l2, l3, l4, l5] st H = rn Ls xs d 80 49 [some (.inr u), l1, l2, l3, l4, l5] (.inr u :: st) H := rn_nx rfl rfl
set_option maxRecDepth 20000 in
theorem e_M_check_49 : rn Ls xs d 80 49 [l0, l1, l2, l3, l4, l5] (.inr (.inl (some a)) :: st) (S, I, R) = if h_is S a 9 36 then rn Ls xs d 80 52 [l0, l1, l2, l3, l4, l5] (.inr (R a 0) :: st) (S, I, R) else none := rn_bc rfl rfl
set_option maxRecDepth 20000 in
theorem e_M_check_52 : rn Ls xs (d + 1) 80 52 [l0, l1, l2, l3, l4, l5] [v1, v0] H = rb Ls xs (d + 1) 80 55 [l0, l1, l2, l3, l4, l5] [] (rn Ls xs d 171 0 [some v0, some v1, none] [] H) := rn_call rfl (Nat.le_of_ble_eq_true rfl) (Nat.le_of_ble_eq_true rfl) rfl rfl
set_option maxRecDepth 20000 in
theorem e_M_check_55 : rn Ls xs d 80 55 [l0, l1, l2, l3, l4, l5]  st H = rn Ls xs d 80 56 [l0, l1, l2, l3, l4, l5] (.inl 2 :: st) H := rn_nx rfl rfl
set_option maxRecDepth 20000 in
theorem e_M_check_56 : rn Ls xs d 80 56 [l0, l1, l2, l3, l4, l5]  st H = rn Ls xs d 80 59 [l0, l1, l2, l3, l4, l5] (.inl 9999 :: st) H := rn_nx rfl rfl
set_option maxRecDepth 20000 in
theorem e_M_check_59 : rn Ls xs d 80 59 [some (.inr u), l1, l2, l3, l4, l5] st H = rn Ls xs d 80 60 [some (.inr u), l1, l2, l3, l4, l5] (.inr u :: st) H := rn_nx rfl rfl
set_option maxRecDepth 20000 in
theorem e_M_check_60 : rn Ls xs d 80 60 [l0, l1, l2, l3, l4, l5] (.inr (.inl (some a)) :: st) (S, I, R) = if h_is S a 9 36 then rn Ls xs d 80 63 [l0, l1, l2, l3, l4, l5] (.inr (R a 0) :: st) (S, I, R) else none := rn_bc rfl rfl
set_option maxRecDepth 20000 in
theorem e_M_check_63 : rn Ls xs d 80 63 [l0, l1, l2, l3, l4, l5]  st H = rn Ls xs d 80 64 [l0, l1, l2, l3, l4, l5] (.inl 2 :: st) H := rn_nx rfl rfl
set_option maxRecDepth 20000 in
theorem e_M_check_64 : rn Ls xs d 80 64 [l0, l1, l2, l3, l4, l5] (.inl i :: .inr (.inl (some a)) :: st) (S, I, R) = if h_ia S a 0 i then rn Ls xs d 80 65 [l0, l1, l2, l3, l4, l5] (.inl (I a i.toNatClampNeg) :: st) (S, I, R) else none := rn_bc rfl rfl
set_option maxRecDepth 20000 in
theorem e_M_check_65 : rn Ls xs d 80 65 [l0, l1, l2, l3, l4, l5] (.inl y :: .inl x :: st) H = rn Ls xs d 80 66 [l0, l1, l2, l3, l4, l5] (.inl (x - y) :: st) H := rn_nx rfl rfl
set_option maxRecDepth 20000 in
theorem e_M_check_66 : rn Ls xs d 80 66 [l0, l1, l2, l3, l4, l5]  st H = rn Ls xs d 80 67 [l0, l1, l2, l3, l4, l5] (.inl 0 :: st) H := rn_nx rfl rfl
set_option maxRecDepth 20000 in
theorem e_M_check_67 : rn Ls xs d 80 67 [l0, some (.inl x), l2, l3, l4, l5] st H = rn Ls xs d 80 68 [l0, some (.inl x), l2, l3, l4, l5] (.inl x :: st) H := rn_nx rfl rfl
set_option maxRecDepth 20000 in
theorem e_M_check_68 : rn Ls xs (d + 1) 80 68 [l0, l1, l2, l3, l4, l5] [v2, v1, v0, v3] H = rb Ls xs (d + 1) 80 71 [l0, l1, l2, l3, l4, l5] [v3] (rn Ls xs d 120 0 [some v0, some v1, some v2] [] H) := rn_call rfl (Nat.le_of_ble_eq_true rfl) (Nat.le_of_ble_eq_true rfl) rfl rfl
set_option maxRecDepth 20000 in
theorem e_M_check_71 : rn Ls xs d 80 71 [l0, l1, l2, l3, l4, l5] (.inl y :: .inl x :: st) H = rn Ls xs d 80 72 [l0, l1, l2, l3, l4, l5] (.inl (x * y) :: st) H := rn_nx rfl rfl
set_option maxRecDepth 20000 in
theorem e_M_check_72 : rn Ls xs d 80 72 [l0, l1, l2, l3, l4, l5] (.inl x :: st) H = rn Ls xs d 80 73 [l0, l1, l2, some (.inl x), l4, l5] st H := rn_nx rfl rfl
set_option maxRecDepth 20000 in
theorem e_M_check_73 : rn Ls xs d 80 73 [l0, l1, l2, l3, l4, l5]  st H = rn Ls xs d 80 74 [l0, l1, l2, l3, l4, l5] (.inl 0 :: st) H := rn_nx rfl rfl
set_option maxRecDepth 20000 in
theorem e_M_check_74 : rn Ls xs d 80 74 [l0, l1, l2, l3, l4, l5] (.inl x :: st) H = rn Ls xs d 80 76 [l0, l1, l2, l3, some (.inl x), l5] st H := rn_nx rfl rfl
set_option maxRecDepth 20000 in
theorem e_M_check_76 : rn Ls xs d 80 76 [l0, l1, l2, l3, l4, l5]  st H = rn Ls xs d 80 77 [l0, l1, l2, l3, l4, l5] (.inl 0 :: st) H := rn_nx rfl rfl
set_option maxRecDepth 20000 in
theorem e_M_check_77 : rn Ls xs d 80 77 [l0, l1, l2, l3, l4, l5] (.inl x :: st) H = rn Ls xs d 80 79 [l0, l1, l2, l3, l4, some (.inl x)] st H := rn_nx rfl rfl
set_option maxRecDepth 20000 in
theorem e_M_check_79 : rn Ls xs d 80 79 [l0, l1, l2, l3, l4, l5]  st H = rn Ls xs d 80 80 [l0, l1, l2, l3, l4, l5] (.inl 2 :: st) H := rn_nx rfl rfl
set_option maxRecDepth 20000 in
theorem e_M_check_80 : rn Ls xs d 80 80 [l0, l1, l2, l3, l4, some (.inl x)] st H = rn Ls xs d 80 82 [l0, l1, l2, l3, l4, some (.inl x)] (.inl x :: st) H := rn_nx rfl rfl
set_option maxRecDepth 20000 in
theorem e_M_check_82 : rn Ls xs d 80 82 [l0, l1, l2, l3, l4, l5] (.inl y :: .inl x :: st) H = rn Ls xs d 80 83 [l0, l1, l2, l3, l4, l5] (.inl (x * y) :: st) H := rn_nx rfl rfl
set_option maxRecDepth 20000 in
theorem e_M_check_83 : rn Ls xs d 80 83 [l0, l1, l2, some (.inl x), l4, l5] st H = rn Ls xs d 80 84 [l0, l1, l2, some (.inl x), l4, l5] (.inl x :: st) H := rn_nx rfl rfl
set_option maxRecDepth 20000 in
theorem e_M_check_84 : rn Ls xs d 80 84 [l0, l1, l2, l3, l4, l5] (.inl y :: .inl x :: st) H = if y ≤ x then rn Ls xs d 80 180 [l0, l1, l2, l3, l4, l5] st H else rn Ls xs d 80 87 [l0, l1, l2, l3, l4, l5] st H := rn_cmp (p := fun x y => y ≤ x) rfl
set_option maxRecDepth 20000 in
theorem e_M_check_87 : rn Ls xs d 80 87 [l0, l1, l2, l3, some (.inl x), l5] st H = rn Ls xs d 80 89 [l0, l1, l2, l3, some (.inl x), l5] (.inl x :: st) H := rn_nx rfl rfl
set_option maxRecDepth 20000 in
theorem e_M_check_89 : rn Ls xs d 80 89 [l0, l1, l2, l3, l4, l5]  st H = rn Ls xs d 80 90 [l0, l1, l2, l3, l4, l5] (.inl 2 :: st) H := rn_nx rfl rfl
set_option maxRecDepth 20000 in
theorem e_M_check_90 : rn Ls xs d 80 90 [l0, l1, l2, l3, l4, some (.inl x)] st H = rn Ls xs d 80 92 [l0, l1, l2, l3, l4, some (.inl x)] (.inl x :: st) H := rn_nx rfl rfl
set_option maxRecDepth 20000 in
theorem e_M_check_92 : rn Ls xs d 80 92 [l0, l1, l2, l3, l4, l5] (.inl y :: .inl x :: st) H = rn Ls xs d 80 93 [l0, l1, l2, l3, l4, l5] (.inl (x * y) :: st) H := rn_nx rfl rfl
set_option maxRecDepth 20000 in
theorem e_M_check_93 : rn Ls xs d 80 93 [l0, l1, l2, l3, l4, l5] (.inl y :: .inl x :: st) H = if x ≠ y then rn Ls xs d 80 180 [l0, l1, l2, l3, l4, l5] st H else rn Ls xs d 80 96 [l0, l1, l2, l3, l4, l5] st H := rn_cmp (p := fun x y => x ≠ y) rfl
set_option maxRecDepth 20000 in
theorem e_M_check_96 : rn Ls xs d 80 96 [some (.inr u), l1, l2, l3, l4, l5] st H = rn Ls xs d 80 97 [some (.inr u), l1, l2, l3, l4, l5] (.inr u :: st) H := rn_nx rfl rfl
set_option maxRecDepth 20000 in
theorem e_M_check_97 : rn Ls xs (d + 1) 80 97 [l0, l1, l2, l3, l4, l5] [(.inr (.inl (some a)))] (S, I, R) = if h_is S a 9 36 then rb Ls xs (d + 1) 80 100 [l0, l1, l2, l3, l4, l5] [] (rn Ls xs d 131 0 [some (.inr (.inl (some a))), none, none, none] [] (S, I, R)) else none := rn_callO rfl rfl (Nat.le_of_ble_eq_true rfl) rfl rfl
set_option maxRecDepth 20000 in
theorem e_M_check_100 : rn Ls xs d 80 100 [l0, l1, l2, l3, some (.inl x), l5] st H = rn Ls xs d 80 102 [l0, l1, l2, l3, some (.inl x), l5] (.inl x :: st) H := rn_nx rfl rfl
set_option maxRecDepth 20000 in
theorem e_M_check_102 : rn Ls xs d 80 102 [l0, l1, l2, l3, some (.inl x), l5] st H = rn Ls xs d 80 104 [l0, l1, l2, l3, some (.inl x), l5] (.inl x :: st) H := rn_nx rfl rfl
set_option maxRecDepth 20000 in
theorem e_M_check_104 : rn Ls xs d 80 104 [l0, l1, some (.inl x), l3, l4, l5] st H = rn Ls xs d 80 105 [l0, l1, some (.inl x), l3, l4, l5] (.inl x :: st) H := rn_nx rfl rfl
set_option maxRecDepth 20000 in
theorem e_M_check_105 : rn Ls xs d 80 105 [l0, l1, l2, l3, l4, l5] (.inl y :: .inl x :: st) H = if y ≤ x then rn Ls xs d 80 128 [l0, l1, l2, l3, l4, l5] st H else rn Ls xs d 80 108 [l0, l1, l2, l3, l4, l5] st H := rn_cmp (p := fun x y => y ≤ x) rfl
set_option maxRecDepth 20000 in
theorem e_M_check_108 : rn Ls xs d 80 108 [some (.inr u), l1, l2, l3, l4, l5] st H = rn Ls xs d 80 109 [some (.inr u), l1, l2, l3, l4, l5] (.inr u :: st) H := rn_nx rfl rfl
set_option maxRecDepth 20000 in
theorem e_M_check_109 : rn Ls xs d 80 109 [l0, l1, l2, l3, l4, l5] (.inr (.inl (some a)) :: st) (S, I, R) = if h_is S a 9 36 then rn Ls xs d 80 112 [l0, l1, l2, l3, l4, l5] (.inr (R a 34) :: st) (S, I, R) else none := rn_bc rfl rfl
set_option maxRecDepth 20000 in
theorem e_M_check_112 : rn Ls xs d 80 112 [l0, l1, l2, l3, some (.inl x), l5] st H = rn Ls xs d 80 114 [l0, l1, l2, l3, some (.inl x), l5] (.inl x :: st) H := rn_nx rfl rfl
set_option maxRecDepth 20000 in
theorem e_M_check_114 : rn Ls xs d 80 114 [l0, l1, l2, l3, l4, l5] (.inl i :: .inr (.inl (some a)) :: st) (S, I, R) = if h_ia S a 0 i then rn Ls xs d 80 115 [l0, l1, l2, l3, l4, l5] (.inl (I a i.toNatClampNeg) :: st) (S, I, R) else none := rn_bc rfl rfl
set_option maxRecDepth 20000 in
theorem e_M_check_115 : rn Ls xs d 80 115 [some (.inr u), l1, l2, l3, l4, l5] st H = rn Ls xs d 80 116 [some (.inr u), l1, l2, l3, l4, l5] (.inr u :: st) H := rn_nx rfl rfl
set_option maxRecDepth 20000 in
theorem e_M_check_116 : rn Ls xs d 80 116 [l0, l1, l2, l3, l4, l5] (.inr (.inl (some a)) :: st) (S, I, R) = if h_is S a 9 36 then rn Ls xs d 80 119 [l0, l1, l2, l3, l4, l5] (.inr (R a 0) :: st) (S, I, R) else none := rn_bc rfl rfl
set_option maxRecDepth 20000 in
theorem e_M_check_119 : rn Ls xs d 80 119 [l0, l1, l2, l3, l4, l5]  st H = rn Ls xs d 80 120 [l0, l1, l2, l3, l4, l5] (.inl 4 :: st) H := rn_nx rfl rfl
set_option maxRecDepth 20000 in
theorem e_M_check_120 : rn Ls xs d 80 120 [l0, l1, l2, l3, l4, l5] (.inl i :: .inr (.inl (some a)) :: st) (S, I, R) = if h_ia S a 0 i then rn Ls xs d 80 121 [l0, l1, l2, l3, l4, l5] (.inl (I a i.toNatClampNeg) :: st) (S, I, R) else none := rn_bc rfl rfl
set_option maxRecDepth 20000 in
theorem e_M_check_121 : rn Ls xs d 80 121 [l0, l1, l2, l3, l4, l5] (.inl y :: .inl x :: st) H = if x ≠ y then rn Ls xs d 80 128 [l0, l1, l2, l3, l4, l5] st H else rn Ls xs d 80 124 [l0, l1, l2, l3, l4, l5] st H := rn_cmp (p := fun x y => x ≠ y) rfl
set_option maxRecDepth 20000 in
theorem e_M_check_124 : rn Ls xs d 80 124 [l0, l1, l2, l3, l4, l5]  st H = rn Ls xs d 80 125 [l0, l1, l2, l3, l4, l5] (.inl 1 :: st) H := rn_nx rfl rfl
set_option maxRecDepth 20000 in
theorem e_M_check_125 : rn Ls xs d 80 125 [l0, l1, l2, l3, l4, l5] st H = rn Ls xs d 80 129 [l0, l1, l2, l3, l4, l5] st H := rn_nx rfl rfl
set_option maxRecDepth 20000 in
theorem e_M_check_128 : rn Ls xs d 80 128 [l0, l1, l2, l3, l4, l5]  st H = rn Ls xs d 80 129 [l0, l1, l2, l3, l4, l5] (.inl 0 :: st) H := rn_nx rfl rfl
set_option maxRecDepth 20000 in
theorem e_M_check_129 : rn Ls xs d 80 129 [l0, l1, l2, l3, l4, l5] (.inl y :: .inl x :: st) H = rn Ls xs d 80 130 [l0, l1, l2, l3, l4, l5] (.inl (x + y) :: st) H := rn_nx rfl rfl
set_option maxRecDepth 20000 in
theorem e_M_check_130 : rn Ls xs d 80 130 [l0, l1, l2, l3, l4, l5] (.inl x :: st) H = rn Ls xs d 80 132 [l0, l1, l2, l3, some (.inl x), l5] st H := rn_nx rfl rfl
set_option maxRecDepth 20000 in
theorem e_M_check_132 : rn Ls xs d 80 132 [l0, l1, l2, l3, some (.inl x), l5] st H = rn Ls xs d 80 134 [l0, l1, l2, l3, some (.inl x), l5] (.inl x :: st) H := rn_nx rfl rfl
set_option maxRecDepth 20000 in
theorem e_M_check_134 : rn Ls xs d 80 134 [l0, l1, l2, l3, some (.inl x), l5] st H = rn Ls xs d 80 136 [l0, l1, l2, l3, some (.inl x), l5] (.inl x :: st) H := rn_nx rfl rfl
set_option maxRecDepth 20000 in
theorem e_M_check_136 : rn Ls xs d 80 136 [l0, l1, l2, l3, l4, l5]  st H = rn Ls xs d 80 137 [l0, l1, l2, l3, l4, l5] (.inl 2 :: st) H := rn_nx rfl rfl
set_option maxRecDepth 20000 in
theorem e_M_check_137 : rn Ls xs d 80 137 [l0, l1, l2, l3, l4, some (.inl x)] st H = rn Ls xs d 80 139 [l0, l1, l2, l3, l4, some (.inl x)] (.inl x :: st) H := rn_nx rfl rfl
set_option maxRecDepth 20000 in
theorem e_M_check_139 : rn Ls xs d 80 139 [l0, l1, l2, l3, l4, l5] (.inl y :: .inl x :: st) H = rn Ls xs d 80 140 [l0, l1, l2, l3, l4, l5] (.inl (x * y) :: st) H := rn_nx rfl rfl
set_option maxRecDepth 20000 in
theorem e_M_check_140 : rn Ls xs d 80 140 [l0, l1, l2, l3, l4, l5]  st H = rn Ls xs d 80 141 [l0, l1, l2, l3, l4, l5] (.inl 1 :: st) H := rn_nx rfl rfl
set_option maxRecDepth 20000 in
theorem e_M_check_141 : rn Ls xs d 80 141 [l0, l1, l2, l3, l4, l5] (.inl y :: .inl x :: st) H = rn Ls xs d 80 142 [l0, l1, l2, l3, l4, l5] (.inl (x + y) :: st) H := rn_nx rfl rfl
set_option maxRecDepth 20000 in
theorem e_M_check_142 : rn Ls xs d 80 142 [l0, l1, l2, l3, l4, l5] (.inl y :: .inl x :: st) H = if x ≠ y then rn Ls xs d 80 170 [l0, l1, l2, l3, l4, l5] st H else rn Ls xs d 80 145 [l0, l1, l2, l3, l4, l5] st H := rn_cmp (p := fun x y => x ≠ y) rfl
set_option maxRecDepth 20000 in
theorem e_M_check_145 : rn Ls xs d 80 145 [l0, l1, l2, l3, some (.inl x), l5] st H = rn Ls xs d 80 147 [l0, l1, l2, l3, some (.inl x), l5] (.inl x :: st) H := rn_nx rfl rfl
set_option maxRecDepth 20000 in
theorem e_M_check_147 : rn Ls xs d 80 147 [l0, l1, some (.inl x), l3, l4, l5] st H = rn Ls xs d 80 148 [l0, l1, some (.inl x), l3, l4, l5] (.inl x :: st) H := rn_nx rfl rfl
set_option maxRecDepth 20000 in
theorem e_M_check_148 : rn Ls xs d 80 148 [l0, l1, l2, l3, l4, l5] (.inl y :: .inl x :: st) H = if y ≤ x then rn Ls xs d 80 170 [l0, l1, l2, l3, l4, l5] st H else rn Ls xs d 80 151 [l0, l1, l2, l3, l4, l5] st H := rn_cmp (p := fun x y => y ≤ x) rfl
set_option maxRecDepth 20000 in
theorem e_M_check_151 : rn Ls xs d 80 151 [some (.inr u), l1, l2, l3, l4, l5] st H = rn Ls xs d 80 152 [some (.inr u), l1, l2, l3, l4, l5] (.inr u :: st) H := rn_nx rfl rfl
set_option maxRecDepth 20000 in
theorem e_M_check_152 : rn Ls xs d 80 152 [l0, l1, l2, l3, l4, l5] (.inr (.inl (some a)) :: st) (S, I, R) = if h_is S a 9 36 then rn Ls xs d 80 155 [l0, l1, l2, l3, l4, l5] (.inr (R a 34) :: st) (S, I, R) else none := rn_bc rfl rfl
set_option maxRecDepth 20000 in
theorem e_M_check_155 : rn Ls xs d 80 155 [l0, l1, l2, l3, some (.inl x), l5] st H = rn Ls xs d 80 157 [l0, l1, l2, l3, some (.inl x), l5] (.inl x :: st) H := rn_nx rfl rfl
set_option maxRecDepth 20000 in
theorem e_M_check_157 : rn Ls xs d 80 157 [l0, l1, l2, l3, l4, l5] (.inl i :: .inr (.inl (some a)) :: st) (S, I, R) = if h_ia S a 0 i then rn Ls xs d 80 158 [l0, l1, l2, l3, l4, l5] (.inl (I a i.toNatClampNeg) :: st) (S, I, R) else none := rn_bc rfl rfl
set_option maxRecDepth 20000 in
theorem e_M_check_158 : rn Ls xs d 80 158 [some (.inr u), l1, l2, l3, l4, l5] st H = rn Ls xs d 80 159 [some (.inr u), l1, l2, l3, l4, l5] (.inr u :: st) H := rn_nx rfl rfl
set_option maxRecDepth 20000 in
theorem e_M_check_159 : rn Ls xs d 80 159 [l0, l1, l2, l3, l4, l5]  st H = rn Ls xs d 80 160 [l0, l1, l2, l3, l4, l5] (.inl 4 :: st) H := rn_nx rfl rfl
set_option maxRecDepth 20000 in
theorem e_M_check_160 : rn Ls xs (d + 1) 80 160 [l0, l1, l2, l3, l4, l5] [v1, (.inr (.inl (some a))), v2, v3] (S, I, R) = if h_is S a 9 36 then rb Ls xs (d + 1) 80 163 [l0, l1, l2, l3, l4, l5] [v2, v3] (rn Ls xs d 125 0 [some (.inr (.inl (some a))), some v1, none, none] [] (S, I, R)) else none := rn_callO rfl rfl (Nat.le_of_ble_eq_true rfl) rfl rfl
set_option maxRecDepth 20000 in
theorem e_M_check_163 : rn Ls xs d 80 163 [l0, l1, l2, l3, l4, l5] (.inl y :: .inl x :: st) H = if x ≠ y then rn Ls xs d 80 170 [l0, l1, l2, l3, l4, l5] st H else rn Ls xs d 80 166 [l0, l1, l2, l3, l4, l5] st H := rn_cmp (p := fun x y => x ≠ y) rfl
set_option maxRecDepth 20000 in
theorem e_M_check_166 : rn Ls xs d 80 166 [l0, l1, l2, l3, l4, l5]  st H = rn Ls xs d 80 167 [l0, l1, l2, l3, l4, l5] (.inl 1 :: st) H := rn_nx rfl rfl
set_option maxRecDepth 20000 in
theorem e_M_check_167 : rn Ls xs d 80 167 [l0, l1, l2, l3, l4, l5] st H = rn Ls xs d 80 171 [l0, l1, l2, l3, l4, l5] st H := rn_nx rfl rfl
set_option maxRecDepth 20000 in
theorem e_M_check_170 : rn Ls xs d 80 170 [l0, l1, l2, l3, l4, l5]  st H = rn Ls xs d 80 171 [l0, l1, l2, l3, l4, l5] (.inl 0 :: st) H := rn_nx rfl rfl
set_option maxRecDepth 20000 in
theorem e_M_check_171 : rn Ls xs d 80 171 [l0, l1, l2, l3, l4, l5] (.inl y :: .inl x :: st) H = rn Ls xs d 80 172 [l0, l1, l2, l3, l4, l5] (.inl (x + y) :: st) H := rn_nx rfl rfl
set_option maxRecDepth 20000 in
theorem e_M_check_172 : rn Ls xs d 80 172 [l0, l1, l2, l3, l4, l5] (.inl x :: st) H = rn Ls xs d 80 174 [l0, l1, l2, l3, some (.inl x), l5] st H := rn_nx rfl rfl
set_option maxRecDepth 20000 in
theorem e_M_check_174 : rn Ls xs d 80 174 [l0, l1, l2, l3, l4, some (.inl x)] st H = rn Ls xs d 80 177 [l0, l1, l2, l3, l4, some (.inl (x + 1))] st H := rn_nx rfl rfl
set_option maxRecDepth 20000 in
theorem e_M_check_177 : rn Ls xs d 80 177 [l0, l1, l2, l3, l4, l5] st H = rn Ls xs d 80 79 [l0, l1, l2, l3, l4, l5] st H := rn_nx rfl rfl
set_option maxRecDepth 20000 in
theorem e_M_check_180 : rn Ls xs d 80 180 [some (.inr u), l1, l2, l3, l4, l5] st H = rn Ls xs d 80 181 [some (.inr u), l1, l2, l3, l4, l5] (.inr u :: st) H := rn_nx rfl rfl
set_option maxRecDepth 20000 in
theorem e_M_check_181 : rn Ls xs d 80 181 [l0, l1, l2, l3, l4, l5] (.inr (.inl (some a)) :: st) (S, I, R) = if h_is S a 9 36 then rn Ls xs d 80 184 [l0, l1, l2, l3, l4, l5] (.inr (R a 2) :: st) (S, I, R) else none := rn_bc rfl rfl
set_option maxRecDepth 20000 in
theorem e_M_check_184 : rn Ls xs d 80 184 [some (.inr u), l1, l2, l3, l4, l5] st H = rn Ls xs d 80 185 [some (.inr u), l1, l2, l3, l4, l5] (.inr u :: st) H := rn_nx rfl rfl
set_option maxRecDepth 20000 in
theorem e_M_check_185 : rn Ls xs d 80 185 [l0, l1, l2, l3, l4, l5] (.inr (.inl (some a)) :: st) (S, I, R) = if h_is S a 9 36 then rn Ls xs d 80 188 [l0, l1, l2, l3, l4, l5] (.inr (R a 0) :: st) (S, I, R) else none := rn_bc rfl rfl
set_option maxRecDepth 20000 in
theorem e_M_check_188 : rn Ls xs (d + 1) 80 188 [l0, l1, l2, l3, l4, l5] [v1, v0] H = rb Ls xs (d + 1) 80 191 [l0, l1, l2, l3, l4, l5] [] (rn Ls xs d 171 0 [some v0, some v1, none] [] H) := rn_call rfl (Nat.le_of_ble_eq_true rfl) (Nat.le_of_ble_eq_true rfl) rfl rfl
set_option maxRecDepth 20000 in
theorem e_M_check_191 : rn Ls xs d 80 191 [l0, l1, l2, l3, some (.inl x), l5] st H = rn Ls xs d 80 193 [l0, l1, l2, l3, some (.inl x), l5] (.inl x :: st) H := rn_nx rfl rfl
set_option maxRecDepth 20000 in
theorem e_M_check_193 : rn Ls xs d 80 193 [l0, l1, some (.inl x), l3, l4, l5] st H = rn Ls xs d 80 194 [l0, l1, some (.inl x), l3, l4, l5] (.inl x :: st) H := rn_nx rfl rfl
set_option maxRecDepth 20000 in
theorem e_M_check_194 : rn Ls xs d 80 194 [l0, l1, l2, l3, l4, l5] (.inl y :: .inl x :: st) H = if x ≠ y then rn Ls xs d 80 207 [l0, l1, l2, l3, l4, l5] st H else rn Ls xs d 80 197 [l0, l1, l2, l3, l4, l5] st H := rn_cmp (p := fun x y => x ≠ y) rfl
set_option maxRecDepth 20000 in
theorem e_M_check_197 : rn Ls xs d 80 197 [l0, l1, l2, l3, some (.inl x), l5] st H = rn Ls xs d 80 199 [l0, l1, l2, l3, some (.inl x), l5] (.inl x :: st) H := rn_nx rfl rfl
set_option maxRecDepth 20000 in
theorem e_M_check_199 : rn Ls xs d 80 199 [l0, l1, l2, some (.inl x), l4, l5] st H = rn Ls xs d 80 200 [l0, l1, l2, some (.inl x), l4, l5] (.inl x :: st) H := rn_nx rfl rfl
set_option maxRecDepth 20000 in
theorem e_M_check_200 : rn Ls xs d 80 200 [l0, l1, l2, l3, l4, l5] (.inl y :: .inl x :: st) H = if x ≠ y then rn Ls xs d 80 207 [l0, l1, l2, l3, l4, l5] st H else rn Ls xs d 80 203 [l0, l1, l2, l3, l4, l5] st H := rn_cmp (p := fun x y => x ≠ y) rfl
set_option maxRecDepth 20000 in
theorem e_M_check_203 : rn Ls xs d 80 203 [l0, l1, l2, l3, l4, l5]  st H = rn Ls xs d 80 204 [l0, l1, l2, l3, l4, l5] (.inl 0 :: st) H := rn_nx rfl rfl
set_option maxRecDepth 20000 in
theorem e_M_check_204 : rn Ls xs d 80 204 [l0, l1, l2, l3, l4, l5] st H = rn Ls xs d 80 211 [l0, l1, l2, l3, l4, l5] st H := rn_nx rfl rfl
set_option maxRecDepth 20000 in
theorem e_M_check_207 : rn Ls xs d 80 207 [l0, l1, l2, l3, l4, l5]  st H = rn Ls xs d 80 208 [l0, l1, l2, l3, l4, l5] (.inl 1 :: st) H := rn_nx rfl rfl
set_option maxRecDepth 20000 in
theorem e_M_check_208 : rn Ls xs d 80 208 [l0, l1, l2, l3, some (.inl x), l5] st H = rn Ls xs d 80 210 [l0, l1, l2, l3, some (.inl x), l5] (.inl x :: st) H := rn_nx rfl rfl
set_option maxRecDepth 20000 in
theorem e_M_check_210 : rn Ls xs d 80 210 [l0, l1, l2, l3, l4, l5] (.inl y :: .inl x :: st) H = rn Ls xs d 80 211 [l0, l1, l2, l3, l4, l5] (.inl (x + y) :: st) H := rn_nx rfl rfl
set_option maxRecDepth 20000 in
theorem e_M_check_211 : rn Ls xs d 80 211 [l0, l1, l2, l3, l4, l5] [.inl x] H = some (some (.inl x), H) := rn_done rfl rfl
theorem e_W_keep_0 : rn Ls xs d 81 0 [some (.inr u)] st H = rn Ls xs d 81 1 [some (.inr u)] (.inr u :: st) H := rn_nx rfl rfl
theorem e_W_keep_1 : rn Ls xs d 81 1 [l0] (.inr (.inl (some a)) :: st) (S, I, R) = if h_is S a 8 10 then rn Ls xs d 81 4 [l0] (.inr (R a 1) :: st) (S, I, R) else none := rn_bc rfl rfl
theorem e_W_keep_4 : rn Ls xs d 81 4 [some (.inr u)] st H = rn Ls xs d 81 5 [some (.inr u)] (.inr u :: st) H := rn_nx rfl rfl
theorem e_W_keep_5 : rn Ls xs d 81 5 [l0] (.inr (.inl (some a)) :: st) (S, I, R) = if h_is S a 8 10 then rn Ls xs d 81 8 [l0] (.inr (R a 0) :: st) (S, I, R) else none := rn_bc rfl rfl
theorem e_W_keep_8 : rn Ls xs (d + 1) 81 8 [l0] [v1, (.inr (.inl (some a)))] (S, I, R) = if h_is S a 3 11 then rb Ls xs (d + 1) 81 11 [l0] [] (rn Ls xs d 172 0 [some (.inr (.inl (some a))), some v1, none] [] (S, I, R)) else none := rn_callO rfl rfl (Nat.le_of_ble_eq_true rfl) rfl rfl
theorem e_W_keep_11 : rn Ls xs d 81 11 [some (.inr u)] st H = rn Ls xs d 81 12 [some (.inr u)] (.inr u :: st) H := rn_nx rfl rfl
theorem e_W_keep_12 : rn Ls xs d 81 12 [l0]  st H = rn Ls xs d 81 13 [l0] (.inl 1 :: st) H := rn_nx rfl rfl
theorem e_W_keep_13 : rn Ls xs d 81 13 [l0] (.inl x :: .inr (.inl (some a)) :: st) (S, I, R) = if h_is S a 8 10 && h_bo x then rn Ls xs d 81 16 [l0] st (S, va_up I a (upd (I a) 9 x), R) else none := rn_bc rfl rfl
theorem e_W_keep_16 : rn Ls xs d 81 16 [some (.inr u)] st H = rn Ls xs d 81 17 [some (.inr u)] (.inr u :: st) H := rn_nx rfl rfl
theorem e_W_keep_17 : rn Ls xs d 81 17 [l0] (.inr (.inl (some a)) :: st) (S, I, R) = if h_is S a 8 10 then rn Ls xs d 81 20 [l0] (.inr (R a 1) :: st) (S, I, R) else none := rn_bc rfl rfl
theorem e_W_keep_20 : rn Ls xs d 81 20 [l0] (.inr (.inl (some a)) :: st) (S, I, R) = if h_is S a 3 11 then rn Ls xs d 81 23 [l0] (.inl (I a 3) :: st) (S, I, R) else none := rn_bc rfl rfl
theorem e_W_keep_23 : rn Ls xs d 81 23 [l0] [.inl x] H = some (some (.inl x), H) := rn_done rfl rfl
theorem e_M_keep_0 : rn Ls xs d 82 0 [some (.inr u)] st H = rn Ls xs d 82 1 [some (.inr u)] (.inr u :: st) H := rn_nx rfl rfl
theorem e_M_keep_1 : rn Ls xs d 82 1 [l0] (.inr (.inl (some a)) :: st) (S, I, R) = if h_is S a 9 36 then rn Ls xs d 82 4 [l0] (.inr (R a 0) :: st) (S, I, R) else none := rn_bc rfl rfl
theorem e_M_keep_4 : rn Ls xs d 82 4 [some (.inr u)] st H = rn Ls xs d 82 5 [some (.inr u)] (.inr u :: st) H := rn_nx rfl rfl
theorem e_M_keep_5 : rn Ls xs d 82 5 [l0] (.inr (.inl (some a)) :: st) (S, I, R) = if h_is S a 9 36 then rn Ls xs d 82 8 [l0] (.inr (R a 1) :: st) (S, I, R) else none := rn_bc rfl rfl
theorem e_M_keep_8 : rn Ls xs (d + 1) 82 8 [l0] [v1, v0] H = rb Ls xs (d + 1) 82 11 [l0] [] (rn Ls xs d 171 0 [some v0, some v1, none] [] H) := rn_call rfl (Nat.le_of_ble_eq_true rfl) (Nat.le_of_ble_eq_true rfl) rfl rfl
theorem e_M_keep_11 : rn Ls xs d 82 11 [some (.inr u)] st H = rn Ls xs d 82 12 [some (.inr u)] (.inr u :: st) H := rn_nx rfl rfl
theorem e_M_keep_12 : rn Ls xs d 82 12 [l0]  st H = rn Ls xs d 82 13 [l0] (.inl 1 :: st) H := rn_nx rfl rfl
theorem e_M_keep_13 : rn Ls xs d 82 13 [l0] (.inl x :: .inr (.inl (some a)) :: st) (S, I, R) = if h_is S a 9 36 && h_bo x then rn Ls xs d 82 16 [l0] st (S, va_up I a (upd (I a) 3 x), R) else none := rn_bc rfl rfl
theorem e_M_keep_16 : rn Ls xs d 82 16 [some (.inr u)] st H = rn Ls xs d 82 17 [some (.inr u)] (.inr u :: st) H := rn_nx rfl rfl
theorem e_M_keep_17 : rn Ls xs d 82 17 [l0] (.inr (.inl (some a)) :: st) (S, I, R) = if h_is S a 9 36 then rn Ls xs d 82 20 [l0] (.inr (R a 0) :: st) (S, I, R) else none := rn_bc rfl rfl
theorem e_M_keep_20 : rn Ls xs d 82 20 [l0]  st H = rn Ls xs d 82 21 [l0] (.inl 1 :: st) H := rn_nx rfl rfl
theorem e_M_keep_21 : rn Ls xs d 82 21 [l0] (.inl i :: .inr (.inl (some a)) :: st) (S, I, R) = if h_ia S a 0 i then rn Ls xs d 82 22 [l0] (.inl (I a i.toNatClampNeg) :: st) (S, I, R) else none := rn_bc rfl rfl
theorem e_M_keep_22 : rn Ls xs d 82 22 [l0] [.inl x] H = some (some (.inl x), H) := rn_done rfl rfl
theorem e_W_back_0 : rn Ls xs d 83 0 [some (.inr u)] st H = rn Ls xs d 83 1 [some (.inr u)] (.inr u :: st) H := rn_nx rfl rfl
theorem e_W_back_1 : rn Ls xs d 83 1 [l0] (.inr (.inl (some a)) :: st) (S, I, R) = if h_is S a 8 10 then rn Ls xs d 83 4 [l0] (.inl (I a 9) :: st) (S, I, R) else none := rn_bc rfl rfl
theorem e_W_back_4 : rn Ls xs d 83 4 [l0] (.inl x :: st) H = if x ≠ 0 then rn Ls xs d 83 10 [l0] st H else rn Ls xs d 83 7 [l0] st H := rn_if (p := fun x => x ≠ 0) rfl
theorem e_W_back_7 : rn Ls xs d 83 7 [l0]  st H = rn Ls xs d 83 9 [l0] (.inl (-1000000002) :: st) H := rn_nx rfl rfl
theorem e_W_back_9 : rn Ls xs d 83 9 [l0] [.inl x] H = some (some (.inl x), H) := rn_done rfl rfl
theorem e_W_back_10 : rn Ls xs d 83 10 [some (.inr u)] st H = rn Ls xs d 83 11 [some (.inr u)] (.inr u :: st) H := rn_nx rfl rfl
theorem e_W_back_11 : rn Ls xs d 83 11 [l0] (.inr (.inl (some a)) :: st) (S, I, R) = if h_is S a 8 10 then rn Ls xs d 83 14 [l0] (.inr (R a 0) :: st) (S, I, R) else none := rn_bc rfl rfl
theorem e_W_back_14 : rn Ls xs d 83 14 [some (.inr u)] st H = rn Ls xs d 83 15 [some (.inr u)] (.inr u :: st) H := rn_nx rfl rfl
theorem e_W_back_15 : rn Ls xs d 83 15 [l0] (.inr (.inl (some a)) :: st) (S, I, R) = if h_is S a 8 10 then rn Ls xs d 83 18 [l0] (.inr (R a 1) :: st) (S, I, R) else none := rn_bc rfl rfl
theorem e_W_back_18 : rn Ls xs (d + 1) 83 18 [l0] [v1, (.inr (.inl (some a)))] (S, I, R) = if h_is S a 3 11 then rb Ls xs (d + 1) 83 21 [l0] [] (rn Ls xs d 172 0 [some (.inr (.inl (some a))), some v1, none] [] (S, I, R)) else none := rn_callO rfl rfl (Nat.le_of_ble_eq_true rfl) rfl rfl
theorem e_W_back_21 : rn Ls xs d 83 21 [some (.inr u)] st H = rn Ls xs d 83 22 [some (.inr u)] (.inr u :: st) H := rn_nx rfl rfl
theorem e_W_back_22 : rn Ls xs d 83 22 [l0] (.inr (.inl (some a)) :: st) (S, I, R) = if h_is S a 8 10 then rn Ls xs d 83 25 [l0] (.inr (R a 0) :: st) (S, I, R) else none := rn_bc rfl rfl
theorem e_W_back_25 : rn Ls xs d 83 25 [l0] (.inr (.inl (some a)) :: st) (S, I, R) = if h_is S a 3 11 then rn Ls xs d 83 28 [l0] (.inl (I a 3) :: st) (S, I, R) else none := rn_bc rfl rfl
theorem e_W_back_28 : rn Ls xs d 83 28 [l0] [.inl x] H = some (some (.inl x), H) := rn_done rfl rfl
theorem e_M_back_0 : rn Ls xs d 84 0 [some (.inr u)] st H = rn Ls xs d 84 1 [some (.inr u)] (.inr u :: st) H := rn_nx rfl rfl
theorem e_M_back_1 : rn Ls xs d 84 1 [l0] (.inr (.inl (some a)) :: st) (S, I, R) = if h_is S a 9 36 then rn Ls xs d 84 4 [l0] (.inl (I a 3) :: st) (S, I, R) else none := rn_bc rfl rfl
theorem e_M_back_4 : rn Ls xs d 84 4 [l0] (.inl x :: st) H = if x ≠ 0 then rn Ls xs d 84 10 [l0] st H else rn Ls xs d 84 7 [l0] st H := rn_if (p := fun x => x ≠ 0) rfl
theorem e_M_back_7 : rn Ls xs d 84 7 [l0]  st H = rn Ls xs d 84 9 [l0] (.inl (-1000000002) :: st) H := rn_nx rfl rfl
theorem e_M_back_9 : rn Ls xs d 84 9 [l0] [.inl x] H = some (some (.inl x), H) := rn_done rfl rfl
theorem e_M_back_10 : rn Ls xs d 84 10 [some (.inr u)] st H = rn Ls xs d 84 11 [some (.inr u)] (.inr u :: st) H := rn_nx rfl rfl
theorem e_M_back_11 : rn Ls xs d 84 11 [l0] (.inr (.inl (some a)) :: st) (S, I, R) = if h_is S a 9 36 then rn Ls xs d 84 14 [l0] (.inr (R a 1) :: st) (S, I, R) else none := rn_bc rfl rfl
theorem e_M_back_14 : rn Ls xs d 84 14 [some (.inr u)] st H = rn Ls xs d 84 15 [some (.inr u)] (.inr u :: st) H := rn_nx rfl rfl
theorem e_M_back_15 : rn Ls xs d 84 15 [l0] (.inr (.inl (some a)) :: st) (S, I, R) = if h_is S a 9 36 then rn Ls xs d 84 18 [l0] (.inr (R a 0) :: st) (S, I, R) else none := rn_bc rfl rfl
theorem e_M_back_18 : rn Ls xs (d + 1) 84 18 [l0] [v1, v0] H = rb Ls xs (d + 1) 84 21 [l0] [] (rn Ls xs d 171 0 [some v0, some v1, none] [] H) := rn_call rfl (Nat.le_of_ble_eq_true rfl) (Nat.le_of_ble_eq_true rfl) rfl rfl
theorem e_M_back_21 : rn Ls xs d 84 21 [some (.inr u)] st H = rn Ls xs d 84 22 [some (.inr u)] (.inr u :: st) H := rn_nx rfl rfl
theorem e_M_back_22 : rn Ls xs d 84 22 [l0] (.inr (.inl (some a)) :: st) (S, I, R) = if h_is S a 9 36 then rn Ls xs d 84 25 [l0] (.inr (R a 0) :: st) (S, I, R) else none := rn_bc rfl rfl
theorem e_M_back_25 : rn Ls xs d 84 25 [l0]  st H = rn Ls xs d 84 26 [l0] (.inl 1 :: st) H := rn_nx rfl rfl
theorem e_M_back_26 : rn Ls xs d 84 26 [l0] (.inl i :: .inr (.inl (some a)) :: st) (S, I, R) = if h_ia S a 0 i then rn Ls xs d 84 27 [l0] (.inl (I a i.toNatClampNeg) :: st) (S, I, R) else none := rn_bc rfl rfl
theorem e_M_back_27 : rn Ls xs d 84 27 [l0] [.inl x] H = some (some (.inl x), H) := rn_done rfl rfl
theorem e_W_count_0 : rn Ls xs d 85 0 [l0, some (.inl x)] st H = rn Ls xs d 85 1 [l0, some (.inl x)] (.inl x :: st) H := rn_nx rfl rfl
theorem e_W_count_1 : rn Ls xs d 85 1 [l0, l1] (.inl x :: st) H = if x = 0 then rn Ls xs d 85 48 [l0, l1] st H else if x = 1 then rn Ls xs d 85 56 [l0, l1] st H else if x = 2 then rn Ls xs d 85 64 [l0, l1] st H else if x = 3 then rn Ls xs d 85 72 [l0, l1] st H else if x = 4 then rn Ls xs d 85 83 [l0, l1] st H else if x = 5 then rn Ls xs d 85 91 [l0, l1] st H else if x = 6 then rn Ls xs d 85 96 [l0, l1] st H else if x = 7 then rn Ls xs d 85 104 [l0, l1] st H else rn Ls xs d 85 112 [l0, l1] st H := (rn_nx rfl rfl).trans (rn_tc rfl rfl (rn_tc rfl rfl (rn_tc rfl rfl (rn_tc rfl rfl (rn_tc rfl rfl (rn_tc rfl rfl (rn_tc rfl rfl (rn_tc rfl rfl (rn_tn)))))))))
theorem e_W_count_48 : rn Ls xs d 85 48 [some (.inr u), l1] st H = rn Ls xs d 85 49 [some (.inr u), l1] (.inr u :: st) H := rn_nx rfl rfl
theorem e_W_count_49 : rn Ls xs d 85 49 [l0, l1] (.inr (.inl (some a)) :: st) (S, I, R) = if h_is S a 8 10 then rn Ls xs d 85 52 [l0, l1] (.inr (R a 0) :: st) (S, I, R) else none := rn_bc rfl rfl
theorem e_W_count_52 : rn Ls xs d 85 52 [l0, l1] (.inr (.inl (some a)) :: st) (S, I, R) = if h_is S a 3 11 then rn Ls xs d 85 55 [l0, l1] (.inl (I a 3) :: st) (S, I, R) else none := rn_bc rfl rfl
theorem e_W_count_55 : rn Ls xs d 85 55 [l0, l1] [.inl x] H = some (some (.inl x), H) := rn_done rfl rfl
theorem e_W_count_56 : rn Ls xs d 85 56 [some (.inr u), l1] st H = rn Ls xs d 85 57 [some (.inr u), l1] (.inr u :: st) H := rn_nx rfl rfl
theorem e_W_count_57 : rn Ls xs d 85 57 [l0, l1] (.inr (.inl (some a)) :: st) (S, I, R) = if h_is S a 8 10 then rn Ls xs d 85 60 [l0, l1] (.inr (R a 0) :: st) (S, I, R) else none := rn_bc rfl rfl
theorem e_W_count_60 : rn Ls xs d 85 60 [l0, l1] (.inr (.inl (some a)) :: st) (S, I, R) = if h_is S a 3 11 then rn Ls xs d 85 63 [l0, l1] (.inl (I a 9) :: st) (S, I, R) else none := rn_bc rfl rfl
theorem e_W_count_63 : rn Ls xs d 85 63 [l0, l1] [.inl x] H = some (some (.inl x), H) := rn_done rfl rfl
theorem e_W_count_64 : rn Ls xs d 85 64 [some (.inr u), l1] st H = rn Ls xs d 85 65 [some (.inr u), l1] (.inr u :: st) H := rn_nx rfl rfl
theorem e_W_count_65 : rn Ls xs d 85 65 [l0, l1] (.inr (.inl (some a)) :: st) (S, I, R) = if h_is S a 8 10 then rn Ls xs d 85 68 [l0, l1] (.inr (R a 0) :: st) (S, I, R) else none := rn_bc rfl rfl
theorem e_W_count_68 : rn Ls xs d 85 68 [l0, l1] (.inr (.inl (some a)) :: st) (S, I, R) = if h_is S a 3 11 then rn Ls xs d 85 71 [l0, l1] (.inl (I a 5) :: st) (S, I, R) else none := rn_bc rfl rfl
theorem e_W_count_71 : rn Ls xs d 85 71 [l0, l1] [.inl x] H = some (some (.inl x), H) := rn_done rfl rfl
theorem e_W_count_72 : rn Ls xs d 85 72 [some (.inr u), l1] st H = rn Ls xs d 85 73 [some (.inr u), l1] (.inr u :: st) H := rn_nx rfl rfl
theorem e_W_count_73 : rn Ls xs d 85 73 [l0, l1] (.inr (.inl (some a)) :: st) (S, I, R) = if h_is S a 8 10 then rn Ls xs d 85 76 [l0, l1] (.inr (R a 0) :: st) (S, I, R) else none := rn_bc rfl rfl
theorem e_W_count_76 : rn Ls xs (d + 1) 85 76 [l0, l1] [(.inr (.inl (some a)))] (S, I, R) = if h_is S a 3 11 then rb Ls xs (d + 1) 85 79 [l0, l1] [] (rn Ls xs d 122 0 [some (.inr (.inl (some a))), none, none] [] (S, I, R)) else none := rn_callO rfl rfl (Nat.le_of_ble_eq_true rfl) rfl rfl
theorem e_W_count_79 : rn Ls xs (d + 1) 85 79 [l0, l1] [v0] H = rb Ls xs (d + 1) 85 82 [l0, l1] [] (rn Ls xs d 127 0 [some v0] [] H) := rn_call rfl (Nat.le_of_ble_eq_true rfl) (Nat.le_of_ble_eq_true rfl) rfl rfl
theorem e_W_count_82 : rn Ls xs d 85 82 [l0, l1] [.inl x] H = some (some (.inl x), H) := rn_done rfl rfl
theorem e_W_count_83 : rn Ls xs d 85 83 [some (.inr u), l1] st H = rn Ls xs d 85 84 [some (.inr u), l1] (.inr u :: st) H := rn_nx rfl rfl
theorem e_W_count_84 : rn Ls xs d 85 84 [l0, l1] (.inr (.inl (some a)) :: st) (S, I, R) = if h_is S a 8 10 then rn Ls xs d 85 87 [l0, l1] (.inr (R a 0) :: st) (S, I, R) else none := rn_bc rfl rfl
theorem e_W_count_87 : rn Ls xs d 85 87 [l0, l1] (.inr (.inl (some a)) :: st) (S, I, R) = if h_is S a 3 11 then rn Ls xs d 85 90 [l0, l1] (.inl (I a 4) :: st) (S, I, R) else none := rn_bc rfl rfl
theorem e_W_count_90 : rn Ls xs d 85 90 [l0, l1] [.inl x] H = some (some (.inl x), H) := rn_done rfl rfl
theorem e_W_count_91 : rn Ls xs d 85 91 [some (.inr u), l1] st H = rn Ls xs d 85 92 [some (.inr u), l1] (.inr u :: st) H := rn_nx rfl rfl
theorem e_W_count_92 : rn Ls xs d 85 92 [l0, l1] (.inr (.inl (some a)) :: st) (S, I, R) = if h_is S a 8 10 then rn Ls xs d 85 95 [l0, l1] (.inl (I a 8) :: st) (S, I, R) else none := rn_bc rfl rfl
theorem e_W_count_95 : rn Ls xs d 85 95 [l0, l1] [.inl x] H = some (some (.inl x), H) := rn_done rfl rfl
theorem e_W_count_96 : rn Ls xs d 85 96 [some (.inr u), l1] st H = rn Ls xs d 85 97 [some (.inr u), l1] (.inr u :: st) H := rn_nx rfl rfl
theorem e_W_count_97 : rn Ls xs d 85 97 [l0, l1] (.inr (.inl (some a)) :: st) (S, I, R) = if h_is S a 8 10 then rn Ls xs d 85 100 [l0, l1] (.inr (R a 3) :: st) (S, I, R) else none := rn_bc rfl rfl
theorem e_W_count_100 : rn Ls xs d 85 100 [l0, l1] (.inr (.inl (some a)) :: st) (S, I, R) = if h_is S a 5 2 then rn Ls xs d 85 103 [l0, l1] (.inl (I a 1) :: st) (S, I, R) else none := rn_bc rfl rfl
theorem e_W_count_103 : rn Ls xs d 85 103 [l0, l1] [.inl x] H = some (some (.inl x), H) := rn_done rfl rfl
theorem e_W_count_104 : rn Ls xs d 85 104 [some (.inr u), l1] st H = rn Ls xs d 85 105 [some (.inr u), l1] (.inr u :: st) H := rn_nx rfl rfl
theorem e_W_count_105 : rn Ls xs d 85 105 [l0, l1] (.inr (.inl (some a)) :: st) (S, I, R) = if h_is S a 8 10 then rn Ls xs d 85 108 [l0, l1] (.inr (R a 0) :: st) (S, I, R) else none := rn_bc rfl rfl
theorem e_W_count_108 : rn Ls xs d 85 108 [l0, l1] (.inr (.inl (some a)) :: st) (S, I, R) = if h_is S a 3 11 then rn Ls xs d 85 111 [l0, l1] (.inl (I a 10) :: st) (S, I, R) else none := rn_bc rfl rfl
theorem e_W_count_111 : rn Ls xs d 85 111 [l0, l1] [.inl x] H = some (some (.inl x), H) := rn_done rfl rfl
theorem e_W_count_112 : rn Ls xs d 85 112 [l0, l1]  st H = rn Ls xs d 85 114 [l0, l1] (.inl (-1000000001) :: st) H := rn_nx rfl rfl
theorem e_W_count_114 : rn Ls xs d 85 114 [l0, l1] [.inl x] H = some (some (.inl x), H) := rn_done rfl rfl
theorem e_M_count_0 : rn Ls xs d 86 0 [l0, some (.inl x)] st H = rn Ls xs d 86 1 [l0, some (.inl x)] (.inl x :: st) H := rn_nx rfl rfl
theorem e_M_count_1 : rn Ls xs d 86 1 [l0, l1] (.inl x :: st) H = if x = 0 then rn Ls xs d 86 48 [l0, l1] st H else if x = 1 then rn Ls xs d 86 55 [l0, l1] st H else if x = 2 then rn Ls xs d 86 62 [l0, l1] st H else if x = 3 then rn Ls xs d 86 69 [l0, l1] st H else if x = 4 then rn Ls xs d 86 75 [l0, l1] st H else if x = 5 then rn Ls xs d 86 83 [l0, l1] st H else if x = 6 then rn Ls xs d 86 88 [l0, l1] st H else if x = 7 then rn Ls xs d 86 93 [l0, l1] st H else rn Ls xs d 86 100 [l0, l1] st H := (rn_nx rfl rfl).trans (rn_tc rfl rfl (rn_tc rfl rfl (rn_tc rfl rfl (rn_tc rfl rfl (rn_tc rfl rfl (rn_tc rfl rfl (rn_tc rfl rfl (rn_tc rfl rfl (rn_tn)))))))))
theorem e_M_count_48 : rn Ls xs d 86 48 [some (.inr u), l1] st H = rn Ls xs d 86 49 [some (.inr u), l1] (.inr u :: st) H := rn_nx rfl rfl
theorem e_M_count_49 : rn Ls xs d 86 49 [l0, l1] (.inr (.inl (some a)) :: st) (S, I, R) = if h_is S a 9 36 then rn Ls xs d 86 52 [l0, l1] (.inr (R a 0) :: st) (S, I, R) else none := rn_bc rfl rfl
theorem e_M_count_52 : rn Ls xs d 86 52 [l0, l1]  st H = rn Ls xs d 86 53 [l0, l1] (.inl 1 :: st) H := rn_nx rfl rfl
theorem e_M_count_53 : rn Ls xs d 86 53 [l0, l1] (.inl i :: .inr (.inl (some a)) :: st) (S, I, R) = if h_ia S a 0 i then rn Ls xs d 86 54 [l0, l1] (.inl (I a i.toNatClampNeg) :: st) (S, I, R) else none := rn_bc rfl rfl
theorem e_M_count_54 : rn Ls xs d 86 54 [l0, l1] [.inl x] H = some (some (.inl x), H) := rn_done rfl rfl
theorem e_M_count_55 : rn Ls xs d 86 55 [some (.inr u), l1] st H = rn Ls xs d 86 56 [some (.inr u), l1] (.inr u :: st) H := rn_nx rfl rfl
theorem e_M_count_56 : rn Ls xs d 86 56 [l0, l1] (.inr (.inl (some a)) :: st) (S, I, R) = if h_is S a 9 36 then rn Ls xs d 86 59 [l0, l1] (.inr (R a 0) :: st) (S, I, R) else none := rn_bc rfl rfl
theorem e_M_count_59 : rn Ls xs d 86 59 [l0, l1]  st H = rn Ls xs d 86 60 [l0, l1] (.inl 2 :: st) H := rn_nx rfl rfl
theorem e_M_count_60 : rn Ls xs d 86 60 [l0, l1] (.inl i :: .inr (.inl (some a)) :: st) (S, I, R) = if h_ia S a 0 i then rn Ls xs d 86 61 [l0, l1] (.inl (I a i.toNatClampNeg) :: st) (S, I, R) else none := rn_bc rfl rfl
theorem e_M_count_61 : rn Ls xs d 86 61 [l0, l1] [.inl x] H = some (some (.inl x), H) := rn_done rfl rfl
theorem e_M_count_62 : rn Ls xs d 86 62 [some (.inr u), l1] st H = rn Ls xs d 86 63 [some (.inr u), l1] (.inr u :: st) H := rn_nx rfl rfl
theorem e_M_count_63 : rn Ls xs d 86 63 [l0, l1] (.inr (.inl (some a)) :: st) (S, I, R) = if h_is S a 9 36 then rn Ls xs d 86 66 [l0, l1] (.inr (R a 0) :: st) (S, I, R) else none := rn_bc rfl rfl
theorem e_M_count_66 : rn Ls xs d 86 66 [l0, l1]  st H = rn Ls xs d 86 67 [l0, l1] (.inl 3 :: st) H := rn_nx rfl rfl
theorem e_M_count_67 : rn Ls xs d 86 67 [l0, l1] (.inl i :: .inr (.inl (some a)) :: st) (S, I, R) = if h_ia S a 0 i then rn Ls xs d 86 68 [l0, l1] (.inl (I a i.toNatClampNeg) :: st) (S, I, R) else none := rn_bc rfl rfl
theorem e_M_count_68 : rn Ls xs d 86 68 [l0, l1] [.inl x] H = some (some (.inl x), H) := rn_done rfl rfl
theorem e_M_count_69 : rn Ls xs d 86 69 [some (.inr u), l1] st H = rn Ls xs d 86 70 [some (.inr u), l1] (.inr u :: st) H := rn_nx rfl rfl
theorem e_M_count_70 : rn Ls xs d 86 70 [l0, l1]  st H = rn Ls xs d 86 71 [l0, l1] (.inl 0 :: st) H := rn_nx rfl rfl
theorem e_M_count_71 : rn Ls xs (d + 1) 86 71 [l0, l1] [v1, (.inr (.inl (some a)))] (S, I, R) = if h_is S a 9 36 then rb Ls xs (d + 1) 86 74 [l0, l1] [] (rn Ls xs d 125 0 [some (.inr (.inl (some a))), some v1, none, none] [] (S, I, R)) else none := rn_callO rfl rfl (Nat.le_of_ble_eq_true rfl) rfl rfl
theorem e_M_count_74 : rn Ls xs d 86 74 [l0, l1] [.inl x] H = some (some (.inl x), H) := rn_done rfl rfl
theorem e_M_count_75 : rn Ls xs d 86 75 [some (.inr u), l1] st H = rn Ls xs d 86 76 [some (.inr u), l1] (.inr u :: st) H := rn_nx rfl rfl
theorem e_M_count_76 : rn Ls xs d 86 76 [l0, l1] (.inr (.inl (some a)) :: st) (S, I, R) = if h_is S a 9 36 then rn Ls xs d 86 79 [l0, l1] (.inr (R a 0) :: st) (S, I, R) else none := rn_bc rfl rfl
theorem e_M_count_79 : rn Ls xs d 86 79 [l0, l1]  st H = rn Ls xs d 86 81 [l0, l1] (.inl 7 :: st) H := rn_nx rfl rfl
theorem e_M_count_81 : rn Ls xs d 86 81 [l0, l1] (.inl i :: .inr (.inl (some a)) :: st) (S, I, R) = if h_ia S a 0 i then rn Ls xs d 86 82 [l0, l1] (.inl (I a i.toNatClampNeg) :: st) (S, I, R) else none := rn_bc rfl rfl
theorem e_M_count_82 : rn Ls xs d 86 82 [l0, l1] [.inl x] H = some (some (.inl x), H) := rn_done rfl rfl
theorem e_M_count_83 : rn Ls xs d 86 83 [some (.inr u), l1] st H = rn Ls xs d 86 84 [some (.inr u), l1] (.inr u :: st) H := rn_nx rfl rfl
theorem e_M_count_84 : rn Ls xs d 86 84 [l0, l1] (.inr (.inl (some a)) :: st) (S, I, R) = if h_is S a 9 36 then rn Ls xs d 86 87 [l0, l1] (.inl (I a 35) :: st) (S, I, R) else none := rn_bc rfl rfl
theorem e_M_count_87 : rn Ls xs d 86 87 [l0, l1] [.inl x] H = some (some (.inl x), H) := rn_done rfl rfl
theorem e_M_count_88 : rn Ls xs d 86 88 [some (.inr u), l1] st H = rn Ls xs d 86 89 [some (.inr u), l1] (.inr u :: st) H := rn_nx rfl rfl
theorem e_M_count_89 : rn Ls xs d 86 89 [l0, l1] (.inr (.inl (some a)) :: st) (S, I, R) = if h_is S a 9 36 then rn Ls xs d 86 92 [l0, l1] (.inl (I a 9) :: st) (S, I, R) else none := rn_bc rfl rfl
theorem e_M_count_92 : rn Ls xs d 86 92 [l0, l1] [.inl x] H = some (some (.inl x), H) := rn_done rfl rfl
theorem e_M_count_93 : rn Ls xs d 86 93 [some (.inr u), l1] st H = rn Ls xs d 86 94 [some (.inr u), l1] (.inr u :: st) H := rn_nx rfl rfl
theorem e_M_count_94 : rn Ls xs d 86 94 [l0, l1] (.inr (.inl (some a)) :: st) (S, I, R) = if h_is S a 9 36 then rn Ls xs d 86 97 [l0, l1] (.inr (R a 0) :: st) (S, I, R) else none := rn_bc rfl rfl
theorem e_M_count_97 : rn Ls xs d 86 97 [l0, l1]  st H = rn Ls xs d 86 98 [l0, l1] (.inl 0 :: st) H := rn_nx rfl rfl
theorem e_M_count_98 : rn Ls xs d 86 98 [l0, l1] (.inl i :: .inr (.inl (some a)) :: st) (S, I, R) = if h_ia S a 0 i then rn Ls xs d 86 99 [l0, l1] (.inl (I a i.toNatClampNeg) :: st) (S, I, R) else none := rn_bc rfl rfl
theorem e_M_count_99 : rn Ls xs d 86 99 [l0, l1] [.inl x] H = some (some (.inl x), H) := rn_done rfl rfl
theorem e_M_count_100 : rn Ls xs d 86 100 [l0, l1]  st H = rn Ls xs d 86 102 [l0, l1] (.inl (-1000000001) :: st) H := rn_nx rfl rfl
theorem e_M_count_102 : rn Ls xs d 86 102 [l0, l1] [.inl x] H = some (some (.inl x), H) := rn_done rfl rfl
theorem e_S_init_0 : rn Ls xs d 87 0 [some (.inr u), l1] st H = rn Ls xs d 87 1 [some (.inr u), l1] (.inr u :: st) H := rn_nx rfl rfl
theorem e_S_init_1 : rn Ls xs (d + 1) 87 1 [l0, l1] (.inr (.inl (some a)) :: []) H = rn Ls xs (d + 1) 87 4 [l0, l1] [] H := rn_nx rfl rfl
theorem e_S_init_4 : rn Ls xs d 87 4 [some (.inr u), l1] st H = rn Ls xs d 87 5 [some (.inr u), l1] (.inr u :: st) H := rn_nx rfl rfl
theorem e_S_init_5 : rn Ls xs d 87 5 [l0, l1]  st H = rn Ls xs d 87 7 [l0, l1] (.inl 14 :: st) H := rn_nx rfl rfl
theorem e_S_init_7 : rn Ls xs d 87 7 [l0, l1] (.inl x :: st) (S, I, R) = if 0 ≤ x.toInt ∧ x.toInt ≤ 100000 then rn Ls xs d 87 10 [l0, l1] (.inr (.inl (some S.2.1)) :: st) (h_mk (S, I, R) (100 + 4) x.toNatClampNeg) else none := rn_pc rfl rfl
theorem e_S_init_10 : rn Ls xs d 87 10 [l0, l1] (.inr u :: .inr (.inl (some a)) :: st) (S, I, R) = if h_is S a 3 11 then rn Ls xs d 87 13 [l0, l1] st (S, I, va_up R a (va_up (R a) 0 u)) else none := rn_bc rfl rfl
theorem e_S_init_13 : rn Ls xs d 87 13 [some (.inr u), l1] st H = rn Ls xs d 87 14 [some (.inr u), l1] (.inr u :: st) H := rn_nx rfl rfl
theorem e_S_init_14 : rn Ls xs d 87 14 [l0, l1]  st H = rn Ls xs d 87 16 [l0, l1] (.inl 14 :: st) H := rn_nx rfl rfl
theorem e_S_init_16 : rn Ls xs d 87 16 [l0, l1] (.inl x :: st) (S, I, R) = if 0 ≤ x.toInt ∧ x.toInt ≤ 100000 then rn Ls xs d 87 19 [l0, l1] (.inr (.inl (some S.2.1)) :: st) (h_mk (S, I, R) (100 + 5) x.toNatClampNeg) else none := rn_pc rfl rfl
theorem e_S_init_19 : rn Ls xs d 87 19 [l0, l1] (.inr u :: .inr (.inl (some a)) :: st) (S, I, R) = if h_is S a 3 11 then rn Ls xs d 87 22 [l0, l1] st (S, I, va_up R a (va_up (R a) 1 u)) else none := rn_bc rfl rfl
theorem e_S_init_22 : rn Ls xs d 87 22 [some (.inr u), l1] st H = rn Ls xs d 87 23 [some (.inr u), l1] (.inr u :: st) H := rn_nx rfl rfl
theorem e_S_init_23 : rn Ls xs d 87 23 [l0, l1]  st H = rn Ls xs d 87 25 [l0, l1] (.inl 96 :: st) H := rn_nx rfl rfl
theorem e_S_init_25 : rn Ls xs d 87 25 [l0, l1] (.inl x :: st) (S, I, R) = if 0 ≤ x.toInt ∧ x.toInt ≤ 100000 then rn Ls xs d 87 27 [l0, l1] (.inr (.inl (some S.2.1)) :: st) (h_mk (S, I, R) (100 + 0) x.toNatClampNeg) else none := rn_pc rfl rfl
theorem e_S_init_27 : rn Ls xs d 87 27 [l0, l1] (.inr u :: .inr (.inl (some a)) :: st) (S, I, R) = if h_is S a 3 11 then rn Ls xs d 87 30 [l0, l1] st (S, I, va_up R a (va_up (R a) 2 u)) else none := rn_bc rfl rfl
theorem e_S_init_30 : rn Ls xs d 87 30 [some (.inr u), l1] st H = rn Ls xs d 87 31 [some (.inr u), l1] (.inr u :: st) H := rn_nx rfl rfl
theorem e_S_init_31 : rn Ls xs d 87 31 [l0, l1]  st H = rn Ls xs d 87 32 [l0, l1] (.inl 0 :: st) H := rn_nx rfl rfl
theorem e_S_init_32 : rn Ls xs d 87 32 [l0, l1] (.inl x :: .inr (.inl (some a)) :: st) (S, I, R) = if h_is S a 3 11 then rn Ls xs d 87 35 [l0, l1] st (S, va_up I a (upd (I a) 3 x), R) else none := rn_bc rfl rfl
theorem e_S_init_35 : rn Ls xs d 87 35 [some (.inr u), l1] st H = rn Ls xs d 87 36 [some (.inr u), l1] (.inr u :: st) H := rn_nx rfl rfl
theorem e_S_init_36 : rn Ls xs d 87 36 [l0, l1]  st H = rn Ls xs d 87 37 [l0, l1] (.inl 0 :: st) H := rn_nx rfl rfl
theorem e_S_init_37 : rn Ls xs d 87 37 [l0, l1] (.inl x :: .inr (.inl (some a)) :: st) (S, I, R) = if h_is S a 3 11 then rn Ls xs d 87 40 [l0, l1] st (S, va_up I a (upd (I a) 4 x), R) else none := rn_bc rfl rfl
theorem e_S_init_40 : rn Ls xs d 87 40 [some (.inr u), l1] st H = rn Ls xs d 87 41 [some (.inr u), l1] (.inr u :: st) H := rn_nx rfl rfl
theorem e_S_init_41 : rn Ls xs d 87 41 [l0, l1]  st H = rn Ls xs d 87 42 [l0, l1] (.inl 0 :: st) H := rn_nx rfl rfl
theorem e_S_init_42 : rn Ls xs d 87 42 [l0, l1] (.inl x :: .inr (.inl (some a)) :: st) (S, I, R) = if h_is S a 3 11 then rn Ls xs d 87 45 [l0, l1] st (S, va_up I a (upd (I a) 5 x), R) else none := rn_bc rfl rfl
theorem e_S_init_45 : rn Ls xs d 87 45 [some (.inr u), l1] st H = rn Ls xs d 87 46 [some (.inr u), l1] (.inr u :: st) H := rn_nx rfl rfl
theorem e_S_init_46 : rn Ls xs d 87 46 [l0, l1]  st H = rn Ls xs d 87 47 [l0, l1] (.inl 0 :: st) H := rn_nx rfl rfl
theorem e_S_init_47 : rn Ls xs d 87 47 [l0, l1] (.inl x :: .inr (.inl (some a)) :: st) (S, I, R) = if h_is S a 3 11 then rn Ls xs d 87 50 [l0, l1] st (S, va_up I a (upd (I a) 6 x), R) else none := rn_bc rfl rfl
theorem e_S_init_50 : rn Ls xs d 87 50 [some (.inr u), l1] st H = rn Ls xs d 87 51 [some (.inr u), l1] (.inr u :: st) H := rn_nx rfl rfl
theorem e_S_init_51 : rn Ls xs d 87 51 [l0, l1]  st H = rn Ls xs d 87 52 [l0, l1] (.inl 0 :: st) H := rn_nx rfl rfl
theorem e_S_init_52 : rn Ls xs d 87 52 [l0, l1] (.inl x :: .inr (.inl (some a)) :: st) (S, I, R) = if h_is S a 3 11 then rn Ls xs d 87 55 [l0, l1] st (S, va_up I a (upd (I a) 7 x), R) else none := rn_bc rfl rfl
theorem e_S_init_55 : rn Ls xs d 87 55 [some (.inr u), l1] st H = rn Ls xs d 87 56 [some (.inr u), l1] (.inr u :: st) H := rn_nx rfl rfl
theorem e_S_init_56 : rn Ls xs d 87 56 [l0, l1]  st H = rn Ls xs d 87 57 [l0, l1] (.inl 0 :: st) H := rn_nx rfl rfl
theorem e_S_init_57 : rn Ls xs d 87 57 [l0, l1] (.inl x :: .inr (.inl (some a)) :: st) (S, I, R) = if h_is S a 3 11 then rn Ls xs d 87 60 [l0, l1] st (S, va_up I a (upd (I a) 8 x), R) else none := rn_bc rfl rfl
theorem e_S_init_60 : rn Ls xs d 87 60 [some (.inr u), l1] st H = rn Ls xs d 87 61 [some (.inr u), l1] (.inr u :: st) H := rn_nx rfl rfl
theorem e_S_init_61 : rn Ls xs d 87 61 [l0, l1]  st H = rn Ls xs d 87 62 [l0, l1] (.inl 0 :: st) H := rn_nx rfl rfl
theorem e_S_init_62 : rn Ls xs d 87 62 [l0, l1] (.inl x :: .inr (.inl (some a)) :: st) (S, I, R) = if h_is S a 3 11 then rn Ls xs d 87 65 [l0, l1] st (S, va_up I a (upd (I a) 9 x), R) else none := rn_bc rfl rfl
theorem e_S_init_65 : rn Ls xs d 87 65 [some (.inr u), l1] st H = rn Ls xs d 87 66 [some (.inr u), l1] (.inr u :: st) H := rn_nx rfl rfl
theorem e_S_init_66 : rn Ls xs d 87 66 [l0, l1]  st H = rn Ls xs d 87 67 [l0, l1] (.inl 1 :: st) H := rn_nx rfl rfl
theorem e_S_init_67 : rn Ls xs d 87 67 [l0, l1] (.inl x :: .inr (.inl (some a)) :: st) (S, I, R) = if h_is S a 3 11 then rn Ls xs d 87 70 [l0, l1] st (S, va_up I a (upd (I a) 10 x), R) else none := rn_bc rfl rfl
theorem e_S_init_70 : rn Ls xs d 87 70 [l0, l1]  st H = rn Ls xs d 87 71 [l0, l1] (.inl 0 :: st) H := rn_nx rfl rfl
theorem e_S_init_71 : rn Ls xs d 87 71 [l0, l1] (.inl x :: st) H = rn Ls xs d 87 72 [l0, some (.inl x)] st H := rn_nx rfl rfl
theorem e_S_init_72 : rn Ls xs d 87 72 [l0, some (.inl x)] st H = rn Ls xs d 87 73 [l0, some (.inl x)] (.inl x :: st) H := rn_nx rfl rfl
theorem e_S_init_73 : rn Ls xs d 87 73 [l0, l1]  st H = rn Ls xs d 87 75 [l0, l1] (.inl 14 :: st) H := rn_nx rfl rfl
theorem e_S_init_75 : rn Ls xs d 87 75 [l0, l1] (.inl y :: .inl x :: st) H = if y ≤ x then rn Ls xs d 87 97 [l0, l1] st H else rn Ls xs d 87 78 [l0, l1] st H := rn_cmp (p := fun x y => y ≤ x) rfl
theorem e_S_init_78 : rn Ls xs d 87 78 [some (.inr u), l1] st H = rn Ls xs d 87 79 [some (.inr u), l1] (.inr u :: st) H := rn_nx rfl rfl
theorem e_S_init_79 : rn Ls xs d 87 79 [l0, l1] (.inr (.inl (some a)) :: st) (S, I, R) = if h_is S a 3 11 then rn Ls xs d 87 82 [l0, l1] (.inr (R a 0) :: st) (S, I, R) else none := rn_bc rfl rfl
theorem e_S_init_82 : rn Ls xs d 87 82 [l0, some (.inl x)] st H = rn Ls xs d 87 83 [l0, some (.inl x)] (.inl x :: st) H := rn_nx rfl rfl
theorem e_S_init_83 : rn Ls xs d 87 83 [l0, l1] st (S, I, R) = rn Ls xs d 87 86 [l0, l1] (.inr (.inl (some S.2.1)) :: st) (h_mk (S, I, R) 7 6) := rn_nx rfl rfl
theorem e_S_init_86 : rn Ls xs d 87 86 [l0, l1] (v :: st) H = rn Ls xs d 87 87 [l0, l1] (v :: v :: st) H := rn_nx rfl rfl
theorem e_S_init_87 : rn Ls xs (d + 1) 87 87 [l0, l1] [(.inr (.inl (some a))), v1, v2, v3] (S, I, R) = if h_is S a 7 6 then rb Ls xs (d + 1) 87 90 [l0, l1] [v1, v2, v3] (rn Ls xs d 173 0 [some (.inr (.inl (some a)))] [] (S, I, R)) else none := rn_callO rfl rfl (Nat.le_of_ble_eq_true rfl) rfl rfl
theorem e_S_init_90 : rn Ls xs d 87 90 [l0, l1] (.inr (.inl (some b)) :: .inl i :: .inr (.inl (some a)) :: st) (S, I, R) = if h_ia S a 4 i && h_is S b 7 6 then rn Ls xs d 87 91 [l0, l1] st (S, I, va_up R a (va_up (R a) i.toNatClampNeg (.inl (some b)))) else none := rn_bc rfl rfl
theorem e_S_init_91 : rn Ls xs d 87 91 [l0, some (.inl x)] st H = rn Ls xs d 87 94 [l0, some (.inl (x + 1))] st H := rn_nx rfl rfl
theorem e_S_init_94 : rn Ls xs d 87 94 [l0, l1] st H = rn Ls xs d 87 72 [l0, l1] st H := rn_nx rfl rfl
theorem e_S_init_97 : rn Ls xs d 87 97 [l0, l1] [] H = some (none, H) := rn_done rfl rfl
end EQ

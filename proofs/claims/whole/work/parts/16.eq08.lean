section EQ
variable {Ls : Nat} {xs : Nat → Int32} {d : Nat} {l0 l1 l2 l3 l4 l5 l6 l7 l8 l9 l10 l11 l12 : Option mV} {st : List mV} {H : mH} {S : mS} {I : mI} {R : mR} {x y z i : Int32} {a b : Nat} {k : Nat} {v w : mV} {u : mr} {v0 v1 v2 v3 v4 v5 v6 v7 v8 v9 v10 v11 : mV}
theorem e_M_takesPart_0 : rn Ls xs d 201 0 [some (.inr u), l1] st H = rn Ls xs d 201 1 [some (.inr u), l1] (.inr u :: st) H := rn_nx rfl rfl
theorem e_M_takesPart_1 : rn Ls xs d 201 1 [l0, l1] (.inr (.inl (some a)) :: st) (S, I, R) = if h_is S a 9 36 then rn Ls xs d 201 4 [l0, l1] (.inl (I a 12) :: st) (S, I, R) else none := rn_bc rfl rfl
theorem e_M_takesPart_4 : rn Ls xs d 201 4 [l0, l1]  st H = rn Ls xs d 201 5 [l0, l1] (.inl 1 :: st) H := rn_nx rfl rfl
theorem e_M_takesPart_5 : rn Ls xs d 201 5 [l0, l1] (.inl y :: .inl x :: st) H = if x ≠ y then rn Ls xs d 201 36 [l0, l1] st H else rn Ls xs d 201 8 [l0, l1] st H := rn_cmp (p := fun x y => x ≠ y) rfl
theorem e_M_takesPart_8 : rn Ls xs d 201 8 [some (.inr u), l1] st H = rn Ls xs d 201 9 [some (.inr u), l1] (.inr u :: st) H := rn_nx rfl rfl
theorem e_M_takesPart_9 : rn Ls xs d 201 9 [l0, l1] (.inr (.inl (some a)) :: st) (S, I, R) = if h_is S a 9 36 then rn Ls xs d 201 12 [l0, l1] (.inl (I a 10) :: st) (S, I, R) else none := rn_bc rfl rfl
theorem e_M_takesPart_12 : rn Ls xs d 201 12 [some (.inr u), l1] st H = rn Ls xs d 201 13 [some (.inr u), l1] (.inr u :: st) H := rn_nx rfl rfl
theorem e_M_takesPart_13 : rn Ls xs d 201 13 [l0, l1] (.inr (.inl (some a)) :: st) (S, I, R) = if h_is S a 9 36 then rn Ls xs d 201 16 [l0, l1] (.inl (I a 11) :: st) (S, I, R) else none := rn_bc rfl rfl
theorem e_M_takesPart_16 : rn Ls xs d 201 16 [l0, l1] (.inl y :: .inl x :: st) H = rn Ls xs d 201 17 [l0, l1] (.inl (x - y) :: st) H := rn_nx rfl rfl
theorem e_M_takesPart_17 : rn Ls xs d 201 17 [l0, l1]  st H = rn Ls xs d 201 18 [l0, l1] (.inl 1 :: st) H := rn_nx rfl rfl
theorem e_M_takesPart_18 : rn Ls xs d 201 18 [l0, l1] (.inl y :: .inl x :: st) H = if x ≠ y then rn Ls xs d 201 36 [l0, l1] st H else rn Ls xs d 201 21 [l0, l1] st H := rn_cmp (p := fun x y => x ≠ y) rfl
theorem e_M_takesPart_21 : rn Ls xs d 201 21 [some (.inr u), l1] st H = rn Ls xs d 201 22 [some (.inr u), l1] (.inr u :: st) H := rn_nx rfl rfl
theorem e_M_takesPart_22 : rn Ls xs d 201 22 [some (.inr u), l1] st H = rn Ls xs d 201 23 [some (.inr u), l1] (.inr u :: st) H := rn_nx rfl rfl
theorem e_M_takesPart_23 : rn Ls xs d 201 23 [l0, l1] (.inr (.inl (some a)) :: st) (S, I, R) = if h_is S a 9 36 then rn Ls xs d 201 26 [l0, l1] (.inl (I a 13) :: st) (S, I, R) else none := rn_bc rfl rfl
theorem e_M_takesPart_26 : rn Ls xs (d + 1) 201 26 [l0, l1] [v1, (.inr (.inl (some a)))] (S, I, R) = if h_is S a 9 36 then rb Ls xs (d + 1) 201 29 [l0, l1] [] (rn Ls xs d 215 0 [some (.inr (.inl (some a))), some v1] [] (S, I, R)) else none := rn_callO rfl rfl (Nat.le_of_ble_eq_true rfl) rfl rfl
theorem e_M_takesPart_29 : rn Ls xs d 201 29 [l0, l1] (.inl x :: st) H = if x < 0 then rn Ls xs d 201 36 [l0, l1] st H else rn Ls xs d 201 32 [l0, l1] st H := rn_if (p := fun x => x < 0) rfl
theorem e_M_takesPart_32 : rn Ls xs d 201 32 [l0, l1]  st H = rn Ls xs d 201 33 [l0, l1] (.inl 1 :: st) H := rn_nx rfl rfl
theorem e_M_takesPart_33 : rn Ls xs d 201 33 [l0, l1] st H = rn Ls xs d 201 37 [l0, l1] st H := rn_nx rfl rfl
theorem e_M_takesPart_36 : rn Ls xs d 201 36 [l0, l1]  st H = rn Ls xs d 201 37 [l0, l1] (.inl 0 :: st) H := rn_nx rfl rfl
theorem e_M_takesPart_37 : rn Ls xs d 201 37 [l0, l1] (.inl x :: st) H = rn Ls xs d 201 38 [l0, some (.inl x)] st H := rn_nx rfl rfl
theorem e_M_takesPart_38 : rn Ls xs d 201 38 [some (.inr u), l1] st H = rn Ls xs d 201 39 [some (.inr u), l1] (.inr u :: st) H := rn_nx rfl rfl
theorem e_M_takesPart_39 : rn Ls xs d 201 39 [l0, l1] (.inr (.inl (some a)) :: st) (S, I, R) = if h_is S a 9 36 then rn Ls xs d 201 42 [l0, l1] (.inl (I a 12) :: st) (S, I, R) else none := rn_bc rfl rfl
theorem e_M_takesPart_42 : rn Ls xs d 201 42 [l0, l1]  st H = rn Ls xs d 201 43 [l0, l1] (.inl 2 :: st) H := rn_nx rfl rfl
theorem e_M_takesPart_43 : rn Ls xs d 201 43 [l0, l1] (.inl y :: .inl x :: st) H = if x = y then rn Ls xs d 201 52 [l0, l1] st H else rn Ls xs d 201 46 [l0, l1] st H := rn_cmp (p := fun x y => x = y) rfl
theorem e_M_takesPart_46 : rn Ls xs d 201 46 [l0, some (.inl x)] st H = rn Ls xs d 201 47 [l0, some (.inl x)] (.inl x :: st) H := rn_nx rfl rfl
theorem e_M_takesPart_47 : rn Ls xs d 201 47 [l0, l1] (.inl x :: st) H = if x ≠ 0 then rn Ls xs d 201 52 [l0, l1] st H else rn Ls xs d 201 50 [l0, l1] st H := rn_if (p := fun x => x ≠ 0) rfl
theorem e_M_takesPart_50 : rn Ls xs d 201 50 [l0, l1]  st H = rn Ls xs d 201 51 [l0, l1] (.inl 0 :: st) H := rn_nx rfl rfl
theorem e_M_takesPart_51 : rn Ls xs d 201 51 [l0, l1] [.inl x] H = if h_bo x then some (some (.inl x), H) else none := rn_zret rfl
theorem e_M_takesPart_52 : rn Ls xs d 201 52 [some (.inr u), l1] st H = rn Ls xs d 201 53 [some (.inr u), l1] (.inr u :: st) H := rn_nx rfl rfl
theorem e_M_takesPart_53 : rn Ls xs d 201 53 [l0, l1] (.inr (.inl (some a)) :: st) (S, I, R) = if h_is S a 9 36 then rn Ls xs d 201 56 [l0, l1] (.inr (R a 18) :: st) (S, I, R) else none := rn_bc rfl rfl
theorem e_M_takesPart_56 : rn Ls xs d 201 56 [some (.inr u), l1] st H = rn Ls xs d 201 57 [some (.inr u), l1] (.inr u :: st) H := rn_nx rfl rfl
theorem e_M_takesPart_57 : rn Ls xs d 201 57 [l0, l1] (.inr (.inl (some a)) :: st) (S, I, R) = if h_is S a 9 36 then rn Ls xs d 201 60 [l0, l1] (.inl (I a 19) :: st) (S, I, R) else none := rn_bc rfl rfl
theorem e_M_takesPart_60 : rn Ls xs d 201 60 [some (.inr u), l1] st H = rn Ls xs d 201 61 [some (.inr u), l1] (.inr u :: st) H := rn_nx rfl rfl
theorem e_M_takesPart_61 : rn Ls xs d 201 61 [l0, l1] (.inr (.inl (some a)) :: st) (S, I, R) = if h_is S a 9 36 then rn Ls xs d 201 64 [l0, l1] (.inl (I a 12) :: st) (S, I, R) else none := rn_bc rfl rfl
theorem e_M_takesPart_64 : rn Ls xs d 201 64 [l0, l1]  st H = rn Ls xs d 201 65 [l0, l1] (.inl 2 :: st) H := rn_nx rfl rfl
theorem e_M_takesPart_65 : rn Ls xs d 201 65 [l0, l1] (.inl y :: .inl x :: st) H = if x ≠ y then rn Ls xs d 201 75 [l0, l1] st H else rn Ls xs d 201 68 [l0, l1] st H := rn_cmp (p := fun x y => x ≠ y) rfl
theorem e_M_takesPart_68 : rn Ls xs d 201 68 [some (.inr u), l1] st H = rn Ls xs d 201 69 [some (.inr u), l1] (.inr u :: st) H := rn_nx rfl rfl
theorem e_M_takesPart_69 : rn Ls xs d 201 69 [l0, l1] (.inr (.inl (some a)) :: st) (S, I, R) = if h_is S a 9 36 then rn Ls xs d 201 72 [l0, l1] (.inl (I a 13) :: st) (S, I, R) else none := rn_bc rfl rfl
theorem e_M_takesPart_72 : rn Ls xs d 201 72 [l0, l1] st H = rn Ls xs d 201 87 [l0, l1] st H := rn_nx rfl rfl
theorem e_M_takesPart_75 : rn Ls xs d 201 75 [l0, l1]  st H = rn Ls xs d 201 78 [l0, l1] (.inl 10000 :: st) H := rn_nx rfl rfl
theorem e_M_takesPart_78 : rn Ls xs d 201 78 [some (.inr u), l1] st H = rn Ls xs d 201 79 [some (.inr u), l1] (.inr u :: st) H := rn_nx rfl rfl
theorem e_M_takesPart_79 : rn Ls xs d 201 79 [some (.inr u), l1] st H = rn Ls xs d 201 80 [some (.inr u), l1] (.inr u :: st) H := rn_nx rfl rfl
theorem e_M_takesPart_80 : rn Ls xs d 201 80 [l0, l1] (.inr (.inl (some a)) :: st) (S, I, R) = if h_is S a 9 36 then rn Ls xs d 201 83 [l0, l1] (.inl (I a 13) :: st) (S, I, R) else none := rn_bc rfl rfl
theorem e_M_takesPart_83 : rn Ls xs (d + 1) 201 83 [l0, l1] [v1, (.inr (.inl (some a))), v2, v3, v4] (S, I, R) = if h_is S a 9 36 then rb Ls xs (d + 1) 201 86 [l0, l1] [v2, v3, v4] (rn Ls xs d 215 0 [some (.inr (.inl (some a))), some v1] [] (S, I, R)) else none := rn_callO rfl rfl (Nat.le_of_ble_eq_true rfl) rfl rfl
theorem e_M_takesPart_86 : rn Ls xs d 201 86 [l0, l1] (.inl y :: .inl x :: st) H = rn Ls xs d 201 87 [l0, l1] (.inl (x + y) :: st) H := rn_nx rfl rfl
theorem e_M_takesPart_87 : rn Ls xs d 201 87 [l0, l1] (.inl x :: .inl i :: .inr (.inl (some a)) :: st) (S, I, R) = if h_ia S a 0 i then rn Ls xs d 201 88 [l0, l1] st (S, va_up I a (upd (I a) i.toNatClampNeg x), R) else none := rn_bc rfl rfl
theorem e_M_takesPart_88 : rn Ls xs d 201 88 [some (.inr u), l1] st H = rn Ls xs d 201 89 [some (.inr u), l1] (.inr u :: st) H := rn_nx rfl rfl
theorem e_M_takesPart_89 : rn Ls xs d 201 89 [l0, l1] (v :: st) H = rn Ls xs d 201 90 [l0, l1] (v :: v :: st) H := rn_nx rfl rfl
theorem e_M_takesPart_90 : rn Ls xs d 201 90 [l0, l1] (.inr (.inl (some a)) :: st) (S, I, R) = if h_is S a 9 36 then rn Ls xs d 201 93 [l0, l1] (.inl (I a 19) :: st) (S, I, R) else none := rn_bc rfl rfl
theorem e_M_takesPart_93 : rn Ls xs d 201 93 [l0, l1]  st H = rn Ls xs d 201 94 [l0, l1] (.inl 1 :: st) H := rn_nx rfl rfl
theorem e_M_takesPart_94 : rn Ls xs d 201 94 [l0, l1] (.inl y :: .inl x :: st) H = rn Ls xs d 201 95 [l0, l1] (.inl (x + y) :: st) H := rn_nx rfl rfl
theorem e_M_takesPart_95 : rn Ls xs d 201 95 [l0, l1] (.inl x :: .inr (.inl (some a)) :: st) (S, I, R) = if h_is S a 9 36 then rn Ls xs d 201 98 [l0, l1] st (S, va_up I a (upd (I a) 19 x), R) else none := rn_bc rfl rfl
theorem e_M_takesPart_98 : rn Ls xs d 201 98 [some (.inr u), l1] st H = rn Ls xs d 201 99 [some (.inr u), l1] (.inr u :: st) H := rn_nx rfl rfl
theorem e_M_takesPart_99 : rn Ls xs d 201 99 [l0, l1] (v :: st) H = rn Ls xs d 201 100 [l0, l1] (v :: v :: st) H := rn_nx rfl rfl
theorem e_M_takesPart_100 : rn Ls xs d 201 100 [l0, l1] (.inr (.inl (some a)) :: st) (S, I, R) = if h_is S a 9 36 then rn Ls xs d 201 103 [l0, l1] (.inl (I a 20) :: st) (S, I, R) else none := rn_bc rfl rfl
theorem e_M_takesPart_103 : rn Ls xs d 201 103 [l0, l1]  st H = rn Ls xs d 201 104 [l0, l1] (.inl 1 :: st) H := rn_nx rfl rfl
theorem e_M_takesPart_104 : rn Ls xs d 201 104 [l0, l1] (.inl y :: .inl x :: st) H = rn Ls xs d 201 105 [l0, l1] (.inl (x + y) :: st) H := rn_nx rfl rfl
theorem e_M_takesPart_105 : rn Ls xs d 201 105 [l0, l1] (.inl x :: .inr (.inl (some a)) :: st) (S, I, R) = if h_is S a 9 36 then rn Ls xs d 201 108 [l0, l1] st (S, va_up I a (upd (I a) 20 x), R) else none := rn_bc rfl rfl
theorem e_M_takesPart_108 : rn Ls xs d 201 108 [some (.inr u), l1] st H = rn Ls xs d 201 109 [some (.inr u), l1] (.inr u :: st) H := rn_nx rfl rfl
theorem e_M_takesPart_109 : rn Ls xs d 201 109 [l0, l1]  st H = rn Ls xs d 201 111 [l0, l1] (.inl 6 :: st) H := rn_nx rfl rfl
theorem e_M_takesPart_111 : rn Ls xs (d + 1) 201 111 [l0, l1] [v1, (.inr (.inl (some a)))] (S, I, R) = if h_is S a 9 36 then rb Ls xs (d + 1) 201 114 [l0, l1] [] (rn Ls xs d 203 0 [some (.inr (.inl (some a))), some v1] [] (S, I, R)) else none := rn_callO rfl rfl (Nat.le_of_ble_eq_true rfl) rfl rfl
theorem e_M_takesPart_114 : rn Ls xs d 201 114 [some (.inr u), l1] st H = rn Ls xs d 201 115 [some (.inr u), l1] (.inr u :: st) H := rn_nx rfl rfl
theorem e_M_takesPart_115 : rn Ls xs (d + 1) 201 115 [l0, l1] [(.inr (.inl (some a)))] (S, I, R) = if h_is S a 9 36 then rb Ls xs (d + 1) 201 118 [l0, l1] [] (rn Ls xs d 157 0 [some (.inr (.inl (some a))), none] [] (S, I, R)) else none := rn_callO rfl rfl (Nat.le_of_ble_eq_true rfl) rfl rfl
theorem e_M_takesPart_118 : rn Ls xs d 201 118 [l0, l1]  st H = rn Ls xs d 201 119 [l0, l1] (.inl 1 :: st) H := rn_nx rfl rfl
theorem e_M_takesPart_119 : rn Ls xs d 201 119 [l0, l1] [.inl x] H = if h_bo x then some (some (.inl x), H) else none := rn_zret rfl
theorem e_M_notsOpen_0 : rn Ls xs d 202 0 [l0, l1, l2]  st H = rn Ls xs d 202 1 [l0, l1, l2] (.inl 0 :: st) H := rn_nx rfl rfl
theorem e_M_notsOpen_1 : rn Ls xs d 202 1 [l0, l1, l2] (.inl x :: st) H = rn Ls xs d 202 2 [l0, some (.inl x), l2] st H := rn_nx rfl rfl
theorem e_M_notsOpen_2 : rn Ls xs d 202 2 [l0, l1, l2]  st H = rn Ls xs d 202 3 [l0, l1, l2] (.inl 0 :: st) H := rn_nx rfl rfl
theorem e_M_notsOpen_3 : rn Ls xs d 202 3 [l0, l1, l2] (.inl x :: st) H = rn Ls xs d 202 4 [l0, l1, some (.inl x)] st H := rn_nx rfl rfl
theorem e_M_notsOpen_4 : rn Ls xs d 202 4 [l0, l1, some (.inl x)] st H = rn Ls xs d 202 5 [l0, l1, some (.inl x)] (.inl x :: st) H := rn_nx rfl rfl
theorem e_M_notsOpen_5 : rn Ls xs d 202 5 [some (.inr u), l1, l2] st H = rn Ls xs d 202 6 [some (.inr u), l1, l2] (.inr u :: st) H := rn_nx rfl rfl
theorem e_M_notsOpen_6 : rn Ls xs d 202 6 [l0, l1, l2] (.inr (.inl (some a)) :: st) (S, I, R) = if h_is S a 9 36 then rn Ls xs d 202 9 [l0, l1, l2] (.inl (I a 22) :: st) (S, I, R) else none := rn_bc rfl rfl
theorem e_M_notsOpen_9 : rn Ls xs d 202 9 [l0, l1, l2] (.inl y :: .inl x :: st) H = if y ≤ x then rn Ls xs d 202 37 [l0, l1, l2] st H else rn Ls xs d 202 12 [l0, l1, l2] st H := rn_cmp (p := fun x y => y ≤ x) rfl
theorem e_M_notsOpen_12 : rn Ls xs d 202 12 [l0, some (.inl x), l2] st H = rn Ls xs d 202 13 [l0, some (.inl x), l2] (.inl x :: st) H := rn_nx rfl rfl
theorem e_M_notsOpen_13 : rn Ls xs d 202 13 [some (.inr u), l1, l2] st H = rn Ls xs d 202 14 [some (.inr u), l1, l2] (.inr u :: st) H := rn_nx rfl rfl
theorem e_M_notsOpen_14 : rn Ls xs d 202 14 [l0, l1, l2] (.inr (.inl (some a)) :: st) (S, I, R) = if h_is S a 9 36 then rn Ls xs d 202 17 [l0, l1, l2] (.inr (R a 21) :: st) (S, I, R) else none := rn_bc rfl rfl
theorem e_M_notsOpen_17 : rn Ls xs d 202 17 [l0, l1, some (.inl x)] st H = rn Ls xs d 202 18 [l0, l1, some (.inl x)] (.inl x :: st) H := rn_nx rfl rfl
theorem e_M_notsOpen_18 : rn Ls xs d 202 18 [l0, l1, l2] (.inl i :: .inr (.inl (some a)) :: st) (S, I, R) = if h_ia S a 0 i then rn Ls xs d 202 19 [l0, l1, l2] (.inl (I a i.toNatClampNeg) :: st) (S, I, R) else none := rn_bc rfl rfl
theorem e_M_notsOpen_19 : rn Ls xs d 202 19 [l0, l1, l2]  st H = rn Ls xs d 202 21 [l0, l1, l2] (.inl (-10) :: st) H := rn_nx rfl rfl
theorem e_M_notsOpen_21 : rn Ls xs d 202 21 [l0, l1, l2] (.inl y :: .inl x :: st) H = if x ≠ y then rn Ls xs d 202 28 [l0, l1, l2] st H else rn Ls xs d 202 24 [l0, l1, l2] st H := rn_cmp (p := fun x y => x ≠ y) rfl
theorem e_M_notsOpen_24 : rn Ls xs d 202 24 [l0, l1, l2]  st H = rn Ls xs d 202 25 [l0, l1, l2] (.inl 1 :: st) H := rn_nx rfl rfl
theorem e_M_notsOpen_25 : rn Ls xs d 202 25 [l0, l1, l2] st H = rn Ls xs d 202 29 [l0, l1, l2] st H := rn_nx rfl rfl
theorem e_M_notsOpen_28 : rn Ls xs d 202 28 [l0, l1, l2]  st H = rn Ls xs d 202 29 [l0, l1, l2] (.inl 0 :: st) H := rn_nx rfl rfl
theorem e_M_notsOpen_29 : rn Ls xs d 202 29 [l0, l1, l2] (.inl y :: .inl x :: st) H = rn Ls xs d 202 30 [l0, l1, l2] (.inl (x + y) :: st) H := rn_nx rfl rfl
theorem e_M_notsOpen_30 : rn Ls xs d 202 30 [l0, l1, l2] (.inl x :: st) H = rn Ls xs d 202 31 [l0, some (.inl x), l2] st H := rn_nx rfl rfl
theorem e_M_notsOpen_31 : rn Ls xs d 202 31 [l0, l1, some (.inl x)] st H = rn Ls xs d 202 34 [l0, l1, some (.inl (x + 1))] st H := rn_nx rfl rfl
theorem e_M_notsOpen_34 : rn Ls xs d 202 34 [l0, l1, l2] st H = rn Ls xs d 202 4 [l0, l1, l2] st H := rn_nx rfl rfl
theorem e_M_notsOpen_37 : rn Ls xs d 202 37 [l0, some (.inl x), l2] st H = rn Ls xs d 202 38 [l0, some (.inl x), l2] (.inl x :: st) H := rn_nx rfl rfl
theorem e_M_notsOpen_38 : rn Ls xs d 202 38 [l0, l1, l2] [.inl x] H = some (some (.inl x), H) := rn_done rfl rfl
theorem e_M_settle_0 : rn Ls xs d 203 0 [some (.inr u), l1] st H = rn Ls xs d 203 1 [some (.inr u), l1] (.inr u :: st) H := rn_nx rfl rfl
theorem e_M_settle_1 : rn Ls xs d 203 1 [l0, l1] (.inr (.inl (some a)) :: st) (S, I, R) = if h_is S a 9 36 then rn Ls xs d 203 4 [l0, l1] (.inl (I a 22) :: st) (S, I, R) else none := rn_bc rfl rfl
theorem e_M_settle_4 : rn Ls xs d 203 4 [l0, l1] (.inl x :: st) H = if x ≤ 0 then rn Ls xs d 203 82 [l0, l1] st H else rn Ls xs d 203 7 [l0, l1] st H := rn_if (p := fun x => x ≤ 0) rfl
theorem e_M_settle_7 : rn Ls xs d 203 7 [some (.inr u), l1] st H = rn Ls xs d 203 8 [some (.inr u), l1] (.inr u :: st) H := rn_nx rfl rfl
theorem e_M_settle_8 : rn Ls xs d 203 8 [l0, l1] (.inr (.inl (some a)) :: st) (S, I, R) = if h_is S a 9 36 then rn Ls xs d 203 11 [l0, l1] (.inr (R a 21) :: st) (S, I, R) else none := rn_bc rfl rfl
theorem e_M_settle_11 : rn Ls xs d 203 11 [some (.inr u), l1] st H = rn Ls xs d 203 12 [some (.inr u), l1] (.inr u :: st) H := rn_nx rfl rfl
theorem e_M_settle_12 : rn Ls xs d 203 12 [l0, l1] (.inr (.inl (some a)) :: st) (S, I, R) = if h_is S a 9 36 then rn Ls xs d 203 15 [l0, l1] (.inl (I a 22) :: st) (S, I, R) else none := rn_bc rfl rfl
theorem e_M_settle_15 : rn Ls xs d 203 15 [l0, l1]  st H = rn Ls xs d 203 16 [l0, l1] (.inl 1 :: st) H := rn_nx rfl rfl
theorem e_M_settle_16 : rn Ls xs d 203 16 [l0, l1] (.inl y :: .inl x :: st) H = rn Ls xs d 203 17 [l0, l1] (.inl (x - y) :: st) H := rn_nx rfl rfl
theorem e_M_settle_17 : rn Ls xs d 203 17 [l0, l1] (.inl i :: .inr (.inl (some a)) :: st) (S, I, R) = if h_ia S a 0 i then rn Ls xs d 203 18 [l0, l1] (.inl (I a i.toNatClampNeg) :: st) (S, I, R) else none := rn_bc rfl rfl
theorem e_M_settle_18 : rn Ls xs d 203 18 [l0, l1]  st H = rn Ls xs d 203 20 [l0, l1] (.inl (-11) :: st) H := rn_nx rfl rfl
theorem e_M_settle_20 : rn Ls xs d 203 20 [l0, l1] (.inl y :: .inl x :: st) H = if x = y then rn Ls xs d 203 82 [l0, l1] st H else rn Ls xs d 203 23 [l0, l1] st H := rn_cmp (p := fun x y => x = y) rfl
theorem e_M_settle_23 : rn Ls xs d 203 23 [some (.inr u), l1] st H = rn Ls xs d 203 24 [some (.inr u), l1] (.inr u :: st) H := rn_nx rfl rfl
theorem e_M_settle_24 : rn Ls xs d 203 24 [l0, l1] (.inr (.inl (some a)) :: st) (S, I, R) = if h_is S a 9 36 then rn Ls xs d 203 27 [l0, l1] (.inr (R a 21) :: st) (S, I, R) else none := rn_bc rfl rfl
theorem e_M_settle_27 : rn Ls xs d 203 27 [some (.inr u), l1] st H = rn Ls xs d 203 28 [some (.inr u), l1] (.inr u :: st) H := rn_nx rfl rfl
theorem e_M_settle_28 : rn Ls xs d 203 28 [l0, l1] (.inr (.inl (some a)) :: st) (S, I, R) = if h_is S a 9 36 then rn Ls xs d 203 31 [l0, l1] (.inl (I a 22) :: st) (S, I, R) else none := rn_bc rfl rfl
theorem e_M_settle_31 : rn Ls xs d 203 31 [l0, l1]  st H = rn Ls xs d 203 32 [l0, l1] (.inl 1 :: st) H := rn_nx rfl rfl
theorem e_M_settle_32 : rn Ls xs d 203 32 [l0, l1] (.inl y :: .inl x :: st) H = rn Ls xs d 203 33 [l0, l1] (.inl (x - y) :: st) H := rn_nx rfl rfl
theorem e_M_settle_33 : rn Ls xs d 203 33 [l0, l1] (.inl i :: .inr (.inl (some a)) :: st) (S, I, R) = if h_ia S a 0 i then rn Ls xs d 203 34 [l0, l1] (.inl (I a i.toNatClampNeg) :: st) (S, I, R) else none := rn_bc rfl rfl
theorem e_M_settle_34 : rn Ls xs (d + 1) 203 34 [l0, l1] [v0] H = rb Ls xs (d + 1) 203 37 [l0, l1] [] (rn Ls xs d 205 0 [some v0] [] H) := rn_call rfl (Nat.le_of_ble_eq_true rfl) (Nat.le_of_ble_eq_true rfl) rfl rfl
theorem e_M_settle_37 : rn Ls xs d 203 37 [l0, some (.inl x)] st H = rn Ls xs d 203 38 [l0, some (.inl x)] (.inl x :: st) H := rn_nx rfl rfl
theorem e_M_settle_38 : rn Ls xs d 203 38 [l0, l1] (.inl y :: .inl x :: st) H = if x < y then rn Ls xs d 203 82 [l0, l1] st H else rn Ls xs d 203 41 [l0, l1] st H := rn_cmp (p := fun x y => x < y) rfl
theorem e_M_settle_41 : rn Ls xs d 203 41 [some (.inr u), l1] st H = rn Ls xs d 203 42 [some (.inr u), l1] (.inr u :: st) H := rn_nx rfl rfl
theorem e_M_settle_42 : rn Ls xs d 203 42 [l0, l1] (v :: st) H = rn Ls xs d 203 43 [l0, l1] (v :: v :: st) H := rn_nx rfl rfl
theorem e_M_settle_43 : rn Ls xs d 203 43 [l0, l1] (.inr (.inl (some a)) :: st) (S, I, R) = if h_is S a 9 36 then rn Ls xs d 203 46 [l0, l1] (.inl (I a 22) :: st) (S, I, R) else none := rn_bc rfl rfl
theorem e_M_settle_46 : rn Ls xs d 203 46 [l0, l1]  st H = rn Ls xs d 203 47 [l0, l1] (.inl 1 :: st) H := rn_nx rfl rfl
theorem e_M_settle_47 : rn Ls xs d 203 47 [l0, l1] (.inl y :: .inl x :: st) H = rn Ls xs d 203 48 [l0, l1] (.inl (x - y) :: st) H := rn_nx rfl rfl
theorem e_M_settle_48 : rn Ls xs d 203 48 [l0, l1] (.inl x :: .inr (.inl (some a)) :: st) (S, I, R) = if h_is S a 9 36 then rn Ls xs d 203 51 [l0, l1] st (S, va_up I a (upd (I a) 22 x), R) else none := rn_bc rfl rfl
theorem e_M_settle_51 : rn Ls xs d 203 51 [some (.inr u), l1] st H = rn Ls xs d 203 52 [some (.inr u), l1] (.inr u :: st) H := rn_nx rfl rfl
theorem e_M_settle_52 : rn Ls xs d 203 52 [l0, l1] (.inr (.inl (some a)) :: st) (S, I, R) = if h_is S a 9 36 then rn Ls xs d 203 55 [l0, l1] (.inr (R a 18) :: st) (S, I, R) else none := rn_bc rfl rfl
theorem e_M_settle_55 : rn Ls xs d 203 55 [some (.inr u), l1] st H = rn Ls xs d 203 56 [some (.inr u), l1] (.inr u :: st) H := rn_nx rfl rfl
theorem e_M_settle_56 : rn Ls xs d 203 56 [l0, l1] (.inr (.inl (some a)) :: st) (S, I, R) = if h_is S a 9 36 then rn Ls xs d 203 59 [l0, l1] (.inl (I a 19) :: st) (S, I, R) else none := rn_bc rfl rfl
theorem e_M_settle_59 : rn Ls xs d 203 59 [some (.inr u), l1] st H = rn Ls xs d 203 60 [some (.inr u), l1] (.inr u :: st) H := rn_nx rfl rfl
theorem e_M_settle_60 : rn Ls xs d 203 60 [l0, l1] (.inr (.inl (some a)) :: st) (S, I, R) = if h_is S a 9 36 then rn Ls xs d 203 63 [l0, l1] (.inr (R a 21) :: st) (S, I, R) else none := rn_bc rfl rfl
theorem e_M_settle_63 : rn Ls xs d 203 63 [some (.inr u), l1] st H = rn Ls xs d 203 64 [some (.inr u), l1] (.inr u :: st) H := rn_nx rfl rfl
theorem e_M_settle_64 : rn Ls xs d 203 64 [l0, l1] (.inr (.inl (some a)) :: st) (S, I, R) = if h_is S a 9 36 then rn Ls xs d 203 67 [l0, l1] (.inl (I a 22) :: st) (S, I, R) else none := rn_bc rfl rfl
theorem e_M_settle_67 : rn Ls xs d 203 67 [l0, l1] (.inl i :: .inr (.inl (some a)) :: st) (S, I, R) = if h_ia S a 0 i then rn Ls xs d 203 68 [l0, l1] (.inl (I a i.toNatClampNeg) :: st) (S, I, R) else none := rn_bc rfl rfl
theorem e_M_settle_68 : rn Ls xs d 203 68 [l0, l1] (.inl x :: .inl i :: .inr (.inl (some a)) :: st) (S, I, R) = if h_ia S a 0 i then rn Ls xs d 203 69 [l0, l1] st (S, va_up I a (upd (I a) i.toNatClampNeg x), R) else none := rn_bc rfl rfl
theorem e_M_settle_69 : rn Ls xs d 203 69 [some (.inr u), l1] st H = rn Ls xs d 203 70 [some (.inr u), l1] (.inr u :: st) H := rn_nx rfl rfl
theorem e_M_settle_70 : rn Ls xs d 203 70 [l0, l1] (v :: st) H = rn Ls xs d 203 71 [l0, l1] (v :: v :: st) H := rn_nx rfl rfl
theorem e_M_settle_71 : rn Ls xs d 203 71 [l0, l1] (.inr (.inl (some a)) :: st) (S, I, R) = if h_is S a 9 36 then rn Ls xs d 203 74 [l0, l1] (.inl (I a 19) :: st) (S, I, R) else none := rn_bc rfl rfl
theorem e_M_settle_74 : rn Ls xs d 203 74 [l0, l1]  st H = rn Ls xs d 203 75 [l0, l1] (.inl 1 :: st) H := rn_nx rfl rfl
theorem e_M_settle_75 : rn Ls xs d 203 75 [l0, l1] (.inl y :: .inl x :: st) H = rn Ls xs d 203 76 [l0, l1] (.inl (x + y) :: st) H := rn_nx rfl rfl
theorem e_M_settle_76 : rn Ls xs d 203 76 [l0, l1] (.inl x :: .inr (.inl (some a)) :: st) (S, I, R) = if h_is S a 9 36 then rn Ls xs d 203 79 [l0, l1] st (S, va_up I a (upd (I a) 19 x), R) else none := rn_bc rfl rfl
theorem e_M_settle_79 : rn Ls xs d 203 79 [l0, l1] st H = rn Ls xs d 203 0 [l0, l1] st H := rn_nx rfl rfl
theorem e_M_settle_82 : rn Ls xs d 203 82 [l0, l1] [] H = some (none, H) := rn_done rfl rfl
theorem e_M_signHere_0 : rn Ls xs d 204 0 [some (.inr u)] st H = rn Ls xs d 204 1 [some (.inr u)] (.inr u :: st) H := rn_nx rfl rfl
theorem e_M_signHere_1 : rn Ls xs d 204 1 [l0] (.inr (.inl (some a)) :: st) (S, I, R) = if h_is S a 9 36 then rn Ls xs d 204 4 [l0] (.inl (I a 12) :: st) (S, I, R) else none := rn_bc rfl rfl
theorem e_M_signHere_4 : rn Ls xs d 204 4 [l0]  st H = rn Ls xs d 204 5 [l0] (.inl 3 :: st) H := rn_nx rfl rfl
theorem e_M_signHere_5 : rn Ls xs d 204 5 [l0] (.inl y :: .inl x :: st) H = if x = y then rn Ls xs d 204 10 [l0] st H else rn Ls xs d 204 8 [l0] st H := rn_cmp (p := fun x y => x = y) rfl
theorem e_M_signHere_8 : rn Ls xs d 204 8 [l0]  st H = rn Ls xs d 204 9 [l0] (.inl 0 :: st) H := rn_nx rfl rfl
theorem e_M_signHere_9 : rn Ls xs d 204 9 [l0] [.inl x] H = some (some (.inl x), H) := rn_done rfl rfl
theorem e_M_signHere_10 : rn Ls xs d 204 10 [some (.inr u)] st H = rn Ls xs d 204 11 [some (.inr u)] (.inr u :: st) H := rn_nx rfl rfl
theorem e_M_signHere_11 : rn Ls xs d 204 11 [l0] (.inr (.inl (some a)) :: st) (S, I, R) = if h_is S a 9 36 then rn Ls xs d 204 14 [l0] (.inl (I a 13) :: st) (S, I, R) else none := rn_bc rfl rfl
theorem e_M_signHere_14 : rn Ls xs d 204 14 [l0] (.inl x :: st) H = if x = 38 then rn Ls xs d 204 98 [l0] st H else if x = 42 then rn Ls xs d 204 116 [l0] st H else if x = 43 then rn Ls xs d 204 110 [l0] st H else if x = 45 then rn Ls xs d 204 113 [l0] st H else if x = 47 then rn Ls xs d 204 119 [l0] st H else if x = 60 then rn Ls xs d 204 101 [l0] st H else if x = 61 then rn Ls xs d 204 104 [l0] st H else if x = 62 then rn Ls xs d 204 107 [l0] st H else if x = 124 then rn Ls xs d 204 96 [l0] st H else rn Ls xs d 204 122 [l0] st H := (rn_nx rfl rfl).trans (rn_lc rfl rfl (rn_lc rfl rfl (rn_lc rfl rfl (rn_lc rfl rfl (rn_lc rfl rfl (rn_lc rfl rfl (rn_lc rfl rfl (rn_lc rfl rfl (rn_lc rfl rfl (rn_ln))))))))))
theorem e_M_signHere_96 : rn Ls xs d 204 96 [l0]  st H = rn Ls xs d 204 97 [l0] (.inl (-1) :: st) H := rn_nx rfl rfl
theorem e_M_signHere_97 : rn Ls xs d 204 97 [l0] [.inl x] H = some (some (.inl x), H) := rn_done rfl rfl
theorem e_M_signHere_98 : rn Ls xs d 204 98 [l0]  st H = rn Ls xs d 204 100 [l0] (.inl (-2) :: st) H := rn_nx rfl rfl
theorem e_M_signHere_100 : rn Ls xs d 204 100 [l0] [.inl x] H = some (some (.inl x), H) := rn_done rfl rfl
theorem e_M_signHere_101 : rn Ls xs d 204 101 [l0]  st H = rn Ls xs d 204 103 [l0] (.inl (-3) :: st) H := rn_nx rfl rfl
theorem e_M_signHere_103 : rn Ls xs d 204 103 [l0] [.inl x] H = some (some (.inl x), H) := rn_done rfl rfl
theorem e_M_signHere_104 : rn Ls xs d 204 104 [l0]  st H = rn Ls xs d 204 106 [l0] (.inl (-4) :: st) H := rn_nx rfl rfl
theorem e_M_signHere_106 : rn Ls xs d 204 106 [l0] [.inl x] H = some (some (.inl x), H) := rn_done rfl rfl
theorem e_M_signHere_107 : rn Ls xs d 204 107 [l0]  st H = rn Ls xs d 204 109 [l0] (.inl (-5) :: st) H := rn_nx rfl rfl
theorem e_M_signHere_109 : rn Ls xs d 204 109 [l0] [.inl x] H = some (some (.inl x), H) := rn_done rfl rfl
theorem e_M_signHere_110 : rn Ls xs d 204 110 [l0]  st H = rn Ls xs d 204 112 [l0] (.inl (-6) :: st) H := rn_nx rfl rfl
theorem e_M_signHere_112 : rn Ls xs d 204 112 [l0] [.inl x] H = some (some (.inl x), H) := rn_done rfl rfl
theorem e_M_signHere_113 : rn Ls xs d 204 113 [l0]  st H = rn Ls xs d 204 115 [l0] (.inl (-7) :: st) H := rn_nx rfl rfl
theorem e_M_signHere_115 : rn Ls xs d 204 115 [l0] [.inl x] H = some (some (.inl x), H) := rn_done rfl rfl
theorem e_M_signHere_116 : rn Ls xs d 204 116 [l0]  st H = rn Ls xs d 204 118 [l0] (.inl (-8) :: st) H := rn_nx rfl rfl
theorem e_M_signHere_118 : rn Ls xs d 204 118 [l0] [.inl x] H = some (some (.inl x), H) := rn_done rfl rfl
theorem e_M_signHere_119 : rn Ls xs d 204 119 [l0]  st H = rn Ls xs d 204 121 [l0] (.inl (-9) :: st) H := rn_nx rfl rfl
theorem e_M_signHere_121 : rn Ls xs d 204 121 [l0] [.inl x] H = some (some (.inl x), H) := rn_done rfl rfl
theorem e_M_signHere_122 : rn Ls xs d 204 122 [l0]  st H = rn Ls xs d 204 123 [l0] (.inl 0 :: st) H := rn_nx rfl rfl
theorem e_M_signHere_123 : rn Ls xs d 204 123 [l0] [.inl x] H = some (some (.inl x), H) := rn_done rfl rfl
theorem e_M_rank_0 : rn Ls xs d 205 0 [some (.inl x)] st H = rn Ls xs d 205 1 [some (.inl x)] (.inl x :: st) H := rn_nx rfl rfl
theorem e_M_rank_1 : rn Ls xs d 205 1 [l0]  st H = rn Ls xs d 205 2 [l0] (.inl (-1) :: st) H := rn_nx rfl rfl
theorem e_M_rank_2 : rn Ls xs d 205 2 [l0] (.inl y :: .inl x :: st) H = if x ≠ y then rn Ls xs d 205 9 [l0] st H else rn Ls xs d 205 5 [l0] st H := rn_cmp (p := fun x y => x ≠ y) rfl
theorem e_M_rank_5 : rn Ls xs d 205 5 [l0]  st H = rn Ls xs d 205 6 [l0] (.inl 1 :: st) H := rn_nx rfl rfl
theorem e_M_rank_6 : rn Ls xs d 205 6 [l0] st H = rn Ls xs d 205 51 [l0] st H := rn_nx rfl rfl
theorem e_M_rank_9 : rn Ls xs d 205 9 [some (.inl x)] st H = rn Ls xs d 205 10 [some (.inl x)] (.inl x :: st) H := rn_nx rfl rfl
theorem e_M_rank_10 : rn Ls xs d 205 10 [l0]  st H = rn Ls xs d 205 12 [l0] (.inl (-2) :: st) H := rn_nx rfl rfl
theorem e_M_rank_12 : rn Ls xs d 205 12 [l0] (.inl y :: .inl x :: st) H = if x ≠ y then rn Ls xs d 205 19 [l0] st H else rn Ls xs d 205 15 [l0] st H := rn_cmp (p := fun x y => x ≠ y) rfl
theorem e_M_rank_15 : rn Ls xs d 205 15 [l0]  st H = rn Ls xs d 205 16 [l0] (.inl 2 :: st) H := rn_nx rfl rfl
theorem e_M_rank_16 : rn Ls xs d 205 16 [l0] st H = rn Ls xs d 205 51 [l0] st H := rn_nx rfl rfl
theorem e_M_rank_19 : rn Ls xs d 205 19 [some (.inl x)] st H = rn Ls xs d 205 20 [some (.inl x)] (.inl x :: st) H := rn_nx rfl rfl
theorem e_M_rank_20 : rn Ls xs d 205 20 [l0]  st H = rn Ls xs d 205 22 [l0] (.inl (-5) :: st) H := rn_nx rfl rfl
theorem e_M_rank_22 : rn Ls xs d 205 22 [l0] (.inl y :: .inl x :: st) H = if x < y then rn Ls xs d 205 29 [l0] st H else rn Ls xs d 205 25 [l0] st H := rn_cmp (p := fun x y => x < y) rfl
theorem e_M_rank_25 : rn Ls xs d 205 25 [l0]  st H = rn Ls xs d 205 26 [l0] (.inl 3 :: st) H := rn_nx rfl rfl
theorem e_M_rank_26 : rn Ls xs d 205 26 [l0] st H = rn Ls xs d 205 51 [l0] st H := rn_nx rfl rfl
theorem e_M_rank_29 : rn Ls xs d 205 29 [some (.inl x)] st H = rn Ls xs d 205 30 [some (.inl x)] (.inl x :: st) H := rn_nx rfl rfl
theorem e_M_rank_30 : rn Ls xs d 205 30 [l0]  st H = rn Ls xs d 205 32 [l0] (.inl (-7) :: st) H := rn_nx rfl rfl
theorem e_M_rank_32 : rn Ls xs d 205 32 [l0] (.inl y :: .inl x :: st) H = if x < y then rn Ls xs d 205 39 [l0] st H else rn Ls xs d 205 35 [l0] st H := rn_cmp (p := fun x y => x < y) rfl
theorem e_M_rank_35 : rn Ls xs d 205 35 [l0]  st H = rn Ls xs d 205 36 [l0] (.inl 4 :: st) H := rn_nx rfl rfl
theorem e_M_rank_36 : rn Ls xs d 205 36 [l0] st H = rn Ls xs d 205 51 [l0] st H := rn_nx rfl rfl
theorem e_M_rank_39 : rn Ls xs d 205 39 [some (.inl x)] st H = rn Ls xs d 205 40 [some (.inl x)] (.inl x :: st) H := rn_nx rfl rfl
theorem e_M_rank_40 : rn Ls xs d 205 40 [l0]  st H = rn Ls xs d 205 42 [l0] (.inl (-9) :: st) H := rn_nx rfl rfl
theorem e_M_rank_42 : rn Ls xs d 205 42 [l0] (.inl y :: .inl x :: st) H = if x < y then rn Ls xs d 205 49 [l0] st H else rn Ls xs d 205 45 [l0] st H := rn_cmp (p := fun x y => x < y) rfl
theorem e_M_rank_45 : rn Ls xs d 205 45 [l0]  st H = rn Ls xs d 205 46 [l0] (.inl 5 :: st) H := rn_nx rfl rfl
theorem e_M_rank_46 : rn Ls xs d 205 46 [l0] st H = rn Ls xs d 205 51 [l0] st H := rn_nx rfl rfl
theorem e_M_rank_49 : rn Ls xs d 205 49 [l0]  st H = rn Ls xs d 205 51 [l0] (.inl 6 :: st) H := rn_nx rfl rfl
theorem e_M_rank_51 : rn Ls xs d 205 51 [l0] [.inl x] H = some (some (.inl x), H) := rn_done rfl rfl
theorem e_JMath_max_0 : rn Ls xs d 206 0 [some (.inl x), l1] st H = rn Ls xs d 206 1 [some (.inl x), l1] (.inl x :: st) H := rn_nx rfl rfl
theorem e_JMath_max_1 : rn Ls xs d 206 1 [l0, some (.inl x)] st H = rn Ls xs d 206 2 [l0, some (.inl x)] (.inl x :: st) H := rn_nx rfl rfl
theorem e_JMath_max_2 : rn Ls xs d 206 2 [l0, l1] (.inl y :: .inl x :: st) H = if x < y then rn Ls xs d 206 9 [l0, l1] st H else rn Ls xs d 206 5 [l0, l1] st H := rn_cmp (p := fun x y => x < y) rfl
theorem e_JMath_max_5 : rn Ls xs d 206 5 [some (.inl x), l1] st H = rn Ls xs d 206 6 [some (.inl x), l1] (.inl x :: st) H := rn_nx rfl rfl
theorem e_JMath_max_6 : rn Ls xs d 206 6 [l0, l1] st H = rn Ls xs d 206 10 [l0, l1] st H := rn_nx rfl rfl
theorem e_JMath_max_9 : rn Ls xs d 206 9 [l0, some (.inl x)] st H = rn Ls xs d 206 10 [l0, some (.inl x)] (.inl x :: st) H := rn_nx rfl rfl
theorem e_JMath_max_10 : rn Ls xs d 206 10 [l0, l1] [.inl x] H = some (some (.inl x), H) := rn_done rfl rfl
theorem e_S_upPlaceSum_0 : rn Ls xs d 207 0 [l0, l1, l2]  st H = rn Ls xs d 207 1 [l0, l1, l2] (.inl 0 :: st) H := rn_nx rfl rfl
theorem e_S_upPlaceSum_1 : rn Ls xs d 207 1 [l0, l1, l2] (.inl x :: st) H = rn Ls xs d 207 2 [l0, some (.inl x), l2] st H := rn_nx rfl rfl
theorem e_S_upPlaceSum_2 : rn Ls xs d 207 2 [l0, l1, l2]  st H = rn Ls xs d 207 3 [l0, l1, l2] (.inl 0 :: st) H := rn_nx rfl rfl
theorem e_S_upPlaceSum_3 : rn Ls xs d 207 3 [l0, l1, l2] (.inl x :: st) H = rn Ls xs d 207 4 [l0, l1, some (.inl x)] st H := rn_nx rfl rfl
theorem e_S_upPlaceSum_4 : rn Ls xs d 207 4 [l0, l1, some (.inl x)] st H = rn Ls xs d 207 5 [l0, l1, some (.inl x)] (.inl x :: st) H := rn_nx rfl rfl
theorem e_S_upPlaceSum_5 : rn Ls xs d 207 5 [some (.inr u), l1, l2] st H = rn Ls xs d 207 6 [some (.inr u), l1, l2] (.inr u :: st) H := rn_nx rfl rfl
theorem e_S_upPlaceSum_6 : rn Ls xs d 207 6 [l0, l1, l2] (.inr (.inl (some a)) :: st) (S, I, R) = if h_is S a 3 11 then rn Ls xs d 207 9 [l0, l1, l2] (.inl (I a 3) :: st) (S, I, R) else none := rn_bc rfl rfl
theorem e_S_upPlaceSum_9 : rn Ls xs d 207 9 [l0, l1, l2] (.inl y :: .inl x :: st) H = if y ≤ x then rn Ls xs d 207 46 [l0, l1, l2] st H else rn Ls xs d 207 12 [l0, l1, l2] st H := rn_cmp (p := fun x y => y ≤ x) rfl
theorem e_S_upPlaceSum_12 : rn Ls xs d 207 12 [l0, some (.inl x), l2] st H = rn Ls xs d 207 13 [l0, some (.inl x), l2] (.inl x :: st) H := rn_nx rfl rfl
theorem e_S_upPlaceSum_13 : rn Ls xs d 207 13 [some (.inr u), l1, l2] st H = rn Ls xs d 207 14 [some (.inr u), l1, l2] (.inr u :: st) H := rn_nx rfl rfl
theorem e_S_upPlaceSum_14 : rn Ls xs d 207 14 [l0, l1, l2] (.inr (.inl (some a)) :: st) (S, I, R) = if h_is S a 3 11 then rn Ls xs d 207 17 [l0, l1, l2] (.inr (R a 0) :: st) (S, I, R) else none := rn_bc rfl rfl
theorem e_S_upPlaceSum_17 : rn Ls xs d 207 17 [l0, l1, some (.inl x)] st H = rn Ls xs d 207 18 [l0, l1, some (.inl x)] (.inl x :: st) H := rn_nx rfl rfl
theorem e_S_upPlaceSum_18 : rn Ls xs d 207 18 [l0, l1, l2] (.inl i :: .inr (.inl (some a)) :: st) (S, I, R) = if h_ia S a 4 i then (match R a i.toNatClampNeg with | .inl o => rn Ls xs d 207 19 [l0, l1, l2] (.inr (.inl o) :: st) (S, I, R) | .inr _ => none) else none := rn_aald rfl
theorem e_S_upPlaceSum_19 : rn Ls xs d 207 19 [l0, l1, l2] (.inr (.inl (some a)) :: st) (S, I, R) = if h_is S a 7 6 then rn Ls xs d 207 22 [l0, l1, l2] (.inl (I a 5) :: st) (S, I, R) else none := rn_bc rfl rfl
theorem e_S_upPlaceSum_22 : rn Ls xs d 207 22 [l0, l1, l2] (.inl x :: st) H = if x = 0 then rn Ls xs d 207 37 [l0, l1, l2] st H else rn Ls xs d 207 25 [l0, l1, l2] st H := rn_if (p := fun x => x = 0) rfl
theorem e_S_upPlaceSum_25 : rn Ls xs d 207 25 [some (.inr u), l1, l2] st H = rn Ls xs d 207 26 [some (.inr u), l1, l2] (.inr u :: st) H := rn_nx rfl rfl
theorem e_S_upPlaceSum_26 : rn Ls xs d 207 26 [l0, l1, l2] (.inr (.inl (some a)) :: st) (S, I, R) = if h_is S a 3 11 then rn Ls xs d 207 29 [l0, l1, l2] (.inr (R a 0) :: st) (S, I, R) else none := rn_bc rfl rfl
theorem e_S_upPlaceSum_29 : rn Ls xs d 207 29 [l0, l1, some (.inl x)] st H = rn Ls xs d 207 30 [l0, l1, some (.inl x)] (.inl x :: st) H := rn_nx rfl rfl
theorem e_S_upPlaceSum_30 : rn Ls xs d 207 30 [l0, l1, l2] (.inl i :: .inr (.inl (some a)) :: st) (S, I, R) = if h_ia S a 4 i then (match R a i.toNatClampNeg with | .inl o => rn Ls xs d 207 31 [l0, l1, l2] (.inr (.inl o) :: st) (S, I, R) | .inr _ => none) else none := rn_aald rfl
theorem e_S_upPlaceSum_31 : rn Ls xs d 207 31 [l0, l1, l2] (.inr (.inl (some a)) :: st) (S, I, R) = if h_is S a 7 6 then rn Ls xs d 207 34 [l0, l1, l2] (.inl (I a 2) :: st) (S, I, R) else none := rn_bc rfl rfl
theorem e_S_upPlaceSum_34 : rn Ls xs d 207 34 [l0, l1, l2] st H = rn Ls xs d 207 38 [l0, l1, l2] st H := rn_nx rfl rfl
theorem e_S_upPlaceSum_37 : rn Ls xs d 207 37 [l0, l1, l2]  st H = rn Ls xs d 207 38 [l0, l1, l2] (.inl 0 :: st) H := rn_nx rfl rfl
theorem e_S_upPlaceSum_38 : rn Ls xs d 207 38 [l0, l1, l2] (.inl y :: .inl x :: st) H = rn Ls xs d 207 39 [l0, l1, l2] (.inl (x + y) :: st) H := rn_nx rfl rfl
theorem e_S_upPlaceSum_39 : rn Ls xs d 207 39 [l0, l1, l2] (.inl x :: st) H = rn Ls xs d 207 40 [l0, some (.inl x), l2] st H := rn_nx rfl rfl
theorem e_S_upPlaceSum_40 : rn Ls xs d 207 40 [l0, l1, some (.inl x)] st H = rn Ls xs d 207 43 [l0, l1, some (.inl (x + 1))] st H := rn_nx rfl rfl
theorem e_S_upPlaceSum_43 : rn Ls xs d 207 43 [l0, l1, l2] st H = rn Ls xs d 207 4 [l0, l1, l2] st H := rn_nx rfl rfl
theorem e_S_upPlaceSum_46 : rn Ls xs d 207 46 [l0, some (.inl x), l2] st H = rn Ls xs d 207 47 [l0, some (.inl x), l2] (.inl x :: st) H := rn_nx rfl rfl
theorem e_S_upPlaceSum_47 : rn Ls xs d 207 47 [l0, l1, l2] [.inl x] H = some (some (.inl x), H) := rn_done rfl rfl
theorem e_S_breakUp_0 : rn Ls xs d 208 0 [some (.inr u), l1, l2] st H = rn Ls xs d 208 1 [some (.inr u), l1, l2] (.inr u :: st) H := rn_nx rfl rfl
theorem e_S_breakUp_1 : rn Ls xs d 208 1 [l0, l1, l2] (v :: st) H = rn Ls xs d 208 2 [l0, l1, l2] (v :: v :: st) H := rn_nx rfl rfl
theorem e_S_breakUp_2 : rn Ls xs d 208 2 [l0, l1, l2] (.inr (.inl (some a)) :: st) (S, I, R) = if h_is S a 3 11 then rn Ls xs d 208 5 [l0, l1, l2] (.inl (I a 6) :: st) (S, I, R) else none := rn_bc rfl rfl
theorem e_S_breakUp_5 : rn Ls xs d 208 5 [l0, l1, l2]  st H = rn Ls xs d 208 6 [l0, l1, l2] (.inl 1 :: st) H := rn_nx rfl rfl
theorem e_S_breakUp_6 : rn Ls xs d 208 6 [l0, l1, l2] (.inl y :: .inl x :: st) H = rn Ls xs d 208 7 [l0, l1, l2] (.inl (x + y) :: st) H := rn_nx rfl rfl
theorem e_S_breakUp_7 : rn Ls xs d 208 7 [l0, l1, l2] (.inl x :: .inr (.inl (some a)) :: st) (S, I, R) = if h_is S a 3 11 then rn Ls xs d 208 10 [l0, l1, l2] st (S, va_up I a (upd (I a) 6 x), R) else none := rn_bc rfl rfl
theorem e_S_breakUp_10 : rn Ls xs d 208 10 [l0, some (.inr u), l2] st H = rn Ls xs d 208 11 [l0, some (.inr u), l2] (.inr u :: st) H := rn_nx rfl rfl
theorem e_S_breakUp_11 : rn Ls xs d 208 11 [l0, l1, l2] (.inr (.inl (some a)) :: st) (S, I, R) = if h_is S a 7 6 then rn Ls xs d 208 14 [l0, l1, l2] (.inl (I a 4) :: st) (S, I, R) else none := rn_bc rfl rfl
theorem e_S_breakUp_14 : rn Ls xs d 208 14 [l0, l1, l2]  st H = rn Ls xs d 208 15 [l0, l1, l2] (.inl 1 :: st) H := rn_nx rfl rfl
theorem e_S_breakUp_15 : rn Ls xs d 208 15 [l0, l1, l2] (.inl y :: .inl x :: st) H = if x ≠ y then rn Ls xs d 208 24 [l0, l1, l2] st H else rn Ls xs d 208 18 [l0, l1, l2] st H := rn_cmp (p := fun x y => x ≠ y) rfl
theorem e_S_breakUp_18 : rn Ls xs d 208 18 [l0, some (.inr u), l2] st H = rn Ls xs d 208 19 [l0, some (.inr u), l2] (.inr u :: st) H := rn_nx rfl rfl
theorem e_S_breakUp_19 : rn Ls xs d 208 19 [l0, l1, l2]  st H = rn Ls xs d 208 20 [l0, l1, l2] (.inl 0 :: st) H := rn_nx rfl rfl
theorem e_S_breakUp_20 : rn Ls xs d 208 20 [l0, l1, l2] (.inl x :: .inr (.inl (some a)) :: st) (S, I, R) = if h_is S a 7 6 && h_bo x then rn Ls xs d 208 23 [l0, l1, l2] st (S, va_up I a (upd (I a) 5 x), R) else none := rn_bc rfl rfl
theorem e_S_breakUp_23 : rn Ls xs d 208 23 [l0, l1, l2] [] H = some (none, H) := rn_done rfl rfl
theorem e_S_breakUp_24 : rn Ls xs d 208 24 [l0, some (.inr u), l2] st H = rn Ls xs d 208 25 [l0, some (.inr u), l2] (.inr u :: st) H := rn_nx rfl rfl
theorem e_S_breakUp_25 : rn Ls xs d 208 25 [l0, l1, l2] (.inr (.inl (some a)) :: st) (S, I, R) = if h_is S a 7 6 then rn Ls xs d 208 28 [l0, l1, l2] (.inl (I a 4) :: st) (S, I, R) else none := rn_bc rfl rfl
theorem e_S_breakUp_28 : rn Ls xs d 208 28 [l0, l1, l2]  st H = rn Ls xs d 208 29 [l0, l1, l2] (.inl 2 :: st) H := rn_nx rfl rfl
theorem e_S_breakUp_29 : rn Ls xs d 208 29 [l0, l1, l2] (.inl y :: .inl x :: st) H = if y = 0 then none else rn Ls xs d 208 30 [l0, l1, l2] (.inl (x / y) :: st) H := rn_div (f := fun x y => x / y) rfl
theorem e_S_breakUp_30 : rn Ls xs d 208 30 [l0, l1, l2] (.inl x :: st) H = rn Ls xs d 208 31 [l0, l1, some (.inl x)] st H := rn_nx rfl rfl
theorem e_S_breakUp_31 : rn Ls xs d 208 31 [some (.inr u), l1, l2] st H = rn Ls xs d 208 32 [some (.inr u), l1, l2] (.inr u :: st) H := rn_nx rfl rfl
theorem e_S_breakUp_32 : rn Ls xs d 208 32 [l0, l1, l2]  st H = rn Ls xs d 208 33 [l0, l1, l2] (.inl 2 :: st) H := rn_nx rfl rfl
theorem e_S_breakUp_33 : rn Ls xs d 208 33 [l0, some (.inr u), l2] st H = rn Ls xs d 208 34 [l0, some (.inr u), l2] (.inr u :: st) H := rn_nx rfl rfl
theorem e_S_breakUp_34 : rn Ls xs d 208 34 [l0, l1, l2] (.inr (.inl (some a)) :: st) (S, I, R) = if h_is S a 7 6 then rn Ls xs d 208 37 [l0, l1, l2] (.inl (I a 1) :: st) (S, I, R) else none := rn_bc rfl rfl
theorem e_S_breakUp_37 : rn Ls xs d 208 37 [l0, some (.inr u), l2] st H = rn Ls xs d 208 38 [l0, some (.inr u), l2] (.inr u :: st) H := rn_nx rfl rfl
theorem e_S_breakUp_38 : rn Ls xs d 208 38 [l0, l1, l2] (.inr (.inl (some a)) :: st) (S, I, R) = if h_is S a 7 6 then rn Ls xs d 208 41 [l0, l1, l2] (.inl (I a 2) :: st) (S, I, R) else none := rn_bc rfl rfl
theorem e_S_breakUp_41 : rn Ls xs d 208 41 [l0, some (.inr u), l2] st H = rn Ls xs d 208 42 [l0, some (.inr u), l2] (.inr u :: st) H := rn_nx rfl rfl
theorem e_S_breakUp_42 : rn Ls xs d 208 42 [l0, l1, l2] (.inr (.inl (some a)) :: st) (S, I, R) = if h_is S a 7 6 then rn Ls xs d 208 45 [l0, l1, l2] (.inl (I a 3) :: st) (S, I, R) else none := rn_bc rfl rfl
theorem e_S_breakUp_45 : rn Ls xs d 208 45 [l0, l1, l2]  st H = rn Ls xs d 208 46 [l0, l1, l2] (.inl 1 :: st) H := rn_nx rfl rfl
theorem e_S_breakUp_46 : rn Ls xs d 208 46 [l0, l1, l2] (.inl y :: .inl x :: st) H = rn Ls xs d 208 47 [l0, l1, l2] (.inl (x + y) :: st) H := rn_nx rfl rfl
theorem e_S_breakUp_47 : rn Ls xs d 208 47 [l0, l1, l2]  st H = rn Ls xs d 208 49 [l0, l1, l2] (.inl 9 :: st) H := rn_nx rfl rfl
theorem e_S_breakUp_49 : rn Ls xs (d + 1) 208 49 [l0, l1, l2] [v1, v0, v2, v3, v4, v5] H = rb Ls xs (d + 1) 208 52 [l0, l1, l2] [v2, v3, v4, v5] (rn Ls xs d 116 0 [some v0, some v1] [] H) := rn_call rfl (Nat.le_of_ble_eq_true rfl) (Nat.le_of_ble_eq_true rfl) rfl rfl
theorem e_S_breakUp_52 : rn Ls xs d 208 52 [l0, some (.inr u), l2] st H = rn Ls xs d 208 53 [l0, some (.inr u), l2] (.inr u :: st) H := rn_nx rfl rfl
theorem e_S_breakUp_53 : rn Ls xs d 208 53 [l0, l1, l2] (.inr (.inl (some a)) :: st) (S, I, R) = if h_is S a 7 6 then rn Ls xs d 208 56 [l0, l1, l2] (.inl (I a 4) :: st) (S, I, R) else none := rn_bc rfl rfl
theorem e_S_breakUp_56 : rn Ls xs d 208 56 [l0, l1, some (.inl x)] st H = rn Ls xs d 208 57 [l0, l1, some (.inl x)] (.inl x :: st) H := rn_nx rfl rfl
theorem e_S_breakUp_57 : rn Ls xs d 208 57 [l0, l1, l2] (.inl y :: .inl x :: st) H = rn Ls xs d 208 58 [l0, l1, l2] (.inl (x - y) :: st) H := rn_nx rfl rfl
theorem e_S_breakUp_58 : rn Ls xs (d + 1) 208 58 [l0, l1, l2] [v5, v4, v3, v2, v1, (.inr (.inl (some a)))] (S, I, R) = if h_is S a 3 11 then rb Ls xs (d + 1) 208 61 [l0, l1, l2] [] (rn Ls xs d 96 0 [some (.inr (.inl (some a))), some v1, some v2, some v3, some v4, some v5, none] [] (S, I, R)) else none := rn_callO rfl rfl (Nat.le_of_ble_eq_true rfl) rfl rfl
theorem e_S_breakUp_61 : rn Ls xs d 208 61 [l0, l1, l2] (v :: st) H = rn Ls xs d 208 62 [l0, l1, l2] st H := rn_nx rfl rfl
theorem e_S_breakUp_62 : rn Ls xs d 208 62 [l0, some (.inr u), l2] st H = rn Ls xs d 208 63 [l0, some (.inr u), l2] (.inr u :: st) H := rn_nx rfl rfl
theorem e_S_breakUp_63 : rn Ls xs d 208 63 [l0, l1, some (.inl x)] st H = rn Ls xs d 208 64 [l0, l1, some (.inl x)] (.inl x :: st) H := rn_nx rfl rfl
theorem e_S_breakUp_64 : rn Ls xs d 208 64 [l0, l1, l2] (.inl x :: .inr (.inl (some a)) :: st) (S, I, R) = if h_is S a 7 6 then rn Ls xs d 208 67 [l0, l1, l2] st (S, va_up I a (upd (I a) 4 x), R) else none := rn_bc rfl rfl
theorem e_S_breakUp_67 : rn Ls xs d 208 67 [l0, l1, l2] [] H = some (none, H) := rn_done rfl rfl
theorem e_JMath_abs_0 : rn Ls xs d 209 0 [some (.inl x)] st H = rn Ls xs d 209 1 [some (.inl x)] (.inl x :: st) H := rn_nx rfl rfl
theorem e_JMath_abs_1 : rn Ls xs d 209 1 [l0] (.inl x :: st) H = if 0 ≤ x then rn Ls xs d 209 9 [l0] st H else rn Ls xs d 209 4 [l0] st H := rn_if (p := fun x => 0 ≤ x) rfl
theorem e_JMath_abs_4 : rn Ls xs d 209 4 [some (.inl x)] st H = rn Ls xs d 209 5 [some (.inl x)] (.inl x :: st) H := rn_nx rfl rfl
theorem e_JMath_abs_5 : rn Ls xs d 209 5 [l0] (.inl x :: st) H = rn Ls xs d 209 6 [l0] (.inl (-x) :: st) H := rn_nx rfl rfl
theorem e_JMath_abs_6 : rn Ls xs d 209 6 [l0] st H = rn Ls xs d 209 10 [l0] st H := rn_nx rfl rfl
theorem e_JMath_abs_9 : rn Ls xs d 209 9 [some (.inl x)] st H = rn Ls xs d 209 10 [some (.inl x)] (.inl x :: st) H := rn_nx rfl rfl
theorem e_JMath_abs_10 : rn Ls xs d 209 10 [l0] [.inl x] H = some (some (.inl x), H) := rn_done rfl rfl
theorem e_R_sortOf_0 : rn Ls xs d 210 0 [some (.inl x)] st H = rn Ls xs d 210 1 [some (.inl x)] (.inl x :: st) H := rn_nx rfl rfl
theorem e_R_sortOf_1 : rn Ls xs d 210 1 [l0]  st H = rn Ls xs d 210 3 [l0] (.inl 97 :: st) H := rn_nx rfl rfl
theorem e_R_sortOf_3 : rn Ls xs d 210 3 [l0] (.inl y :: .inl x :: st) H = if x < y then rn Ls xs d 210 14 [l0] st H else rn Ls xs d 210 6 [l0] st H := rn_cmp (p := fun x y => x < y) rfl
theorem e_R_sortOf_6 : rn Ls xs d 210 6 [some (.inl x)] st H = rn Ls xs d 210 7 [some (.inl x)] (.inl x :: st) H := rn_nx rfl rfl
theorem e_R_sortOf_7 : rn Ls xs d 210 7 [l0]  st H = rn Ls xs d 210 9 [l0] (.inl 122 :: st) H := rn_nx rfl rfl
theorem e_R_sortOf_9 : rn Ls xs d 210 9 [l0] (.inl y :: .inl x :: st) H = if y < x then rn Ls xs d 210 14 [l0] st H else rn Ls xs d 210 12 [l0] st H := rn_cmp (p := fun x y => y < x) rfl
theorem e_R_sortOf_12 : rn Ls xs d 210 12 [l0]  st H = rn Ls xs d 210 13 [l0] (.inl 1 :: st) H := rn_nx rfl rfl
theorem e_R_sortOf_13 : rn Ls xs d 210 13 [l0] [.inl x] H = some (some (.inl x), H) := rn_done rfl rfl
theorem e_R_sortOf_14 : rn Ls xs d 210 14 [some (.inl x)] st H = rn Ls xs d 210 15 [some (.inl x)] (.inl x :: st) H := rn_nx rfl rfl
theorem e_R_sortOf_15 : rn Ls xs d 210 15 [l0]  st H = rn Ls xs d 210 17 [l0] (.inl 48 :: st) H := rn_nx rfl rfl
theorem e_R_sortOf_17 : rn Ls xs d 210 17 [l0] (.inl y :: .inl x :: st) H = if x < y then rn Ls xs d 210 30 [l0] st H else rn Ls xs d 210 20 [l0] st H := rn_cmp (p := fun x y => x < y) rfl
theorem e_R_sortOf_20 : rn Ls xs d 210 20 [some (.inl x)] st H = rn Ls xs d 210 21 [some (.inl x)] (.inl x :: st) H := rn_nx rfl rfl
theorem e_R_sortOf_21 : rn Ls xs d 210 21 [l0]  st H = rn Ls xs d 210 23 [l0] (.inl 57 :: st) H := rn_nx rfl rfl
theorem e_R_sortOf_23 : rn Ls xs d 210 23 [l0] (.inl y :: .inl x :: st) H = if y < x then rn Ls xs d 210 30 [l0] st H else rn Ls xs d 210 26 [l0] st H := rn_cmp (p := fun x y => y < x) rfl
theorem e_R_sortOf_26 : rn Ls xs d 210 26 [l0]  st H = rn Ls xs d 210 27 [l0] (.inl 2 :: st) H := rn_nx rfl rfl
theorem e_R_sortOf_27 : rn Ls xs d 210 27 [l0] st H = rn Ls xs d 210 31 [l0] st H := rn_nx rfl rfl
theorem e_R_sortOf_30 : rn Ls xs d 210 30 [l0]  st H = rn Ls xs d 210 31 [l0] (.inl 0 :: st) H := rn_nx rfl rfl
theorem e_R_sortOf_31 : rn Ls xs d 210 31 [l0] [.inl x] H = some (some (.inl x), H) := rn_done rfl rfl
theorem e_R_isWord_0 : rn Ls xs d 211 0 [some (.inr u), l1, l2] st H = rn Ls xs d 211 1 [some (.inr u), l1, l2] (.inr u :: st) H := rn_nx rfl rfl
theorem e_R_isWord_1 : rn Ls xs d 211 1 [l0, l1, l2] (.inr (.inl (some a)) :: st) (S, I, R) = if h_is S a 1 10 then rn Ls xs d 211 4 [l0, l1, l2] (.inl (I a 5) :: st) (S, I, R) else none := rn_bc rfl rfl
theorem e_R_isWord_4 : rn Ls xs d 211 4 [l0, l1, l2]  st H = rn Ls xs d 211 5 [l0, l1, l2] (.inl 1 :: st) H := rn_nx rfl rfl
theorem e_R_isWord_5 : rn Ls xs d 211 5 [l0, l1, l2] (.inl y :: .inl x :: st) H = if x ≠ y then rn Ls xs d 211 24 [l0, l1, l2] st H else rn Ls xs d 211 8 [l0, l1, l2] st H := rn_cmp (p := fun x y => x ≠ y) rfl
theorem e_R_isWord_8 : rn Ls xs d 211 8 [some (.inr u), l1, l2] st H = rn Ls xs d 211 9 [some (.inr u), l1, l2] (.inr u :: st) H := rn_nx rfl rfl
theorem e_R_isWord_9 : rn Ls xs d 211 9 [l0, l1, l2] (.inr (.inl (some a)) :: st) (S, I, R) = if h_is S a 1 10 then rn Ls xs d 211 12 [l0, l1, l2] (.inl (I a 7) :: st) (S, I, R) else none := rn_bc rfl rfl
theorem e_R_isWord_12 : rn Ls xs d 211 12 [some (.inr u), l1, l2] st H = rn Ls xs d 211 13 [some (.inr u), l1, l2] (.inr u :: st) H := rn_nx rfl rfl
theorem e_R_isWord_13 : rn Ls xs d 211 13 [l0, l1, l2] (.inr (.inl (some a)) :: st) (S, I, R) = if h_is S a 1 10 then rn Ls xs d 211 16 [l0, l1, l2] (.inl (I a 6) :: st) (S, I, R) else none := rn_bc rfl rfl
theorem e_R_isWord_16 : rn Ls xs d 211 16 [l0, l1, l2] (.inl y :: .inl x :: st) H = rn Ls xs d 211 17 [l0, l1, l2] (.inl (x - y) :: st) H := rn_nx rfl rfl
theorem e_R_isWord_17 : rn Ls xs d 211 17 [l0, some (.inr u), l2] st H = rn Ls xs d 211 18 [l0, some (.inr u), l2] (.inr u :: st) H := rn_nx rfl rfl
theorem e_R_isWord_18 : rn Ls xs (d + 1) 211 18 [l0, l1, l2] [(.inr (.inr k)), v1] H = if 10 ≤ k ∧ k < 17 then rb Ls xs (d + 1) 211 21 [l0, l1, l2] [v1] (rn Ls xs d 216 0 [some (.inr (.inr k))] [] H) else none := rn_callT rfl rfl (Nat.le_of_ble_eq_true rfl) rfl rfl
theorem e_R_isWord_21 : rn Ls xs d 211 21 [l0, l1, l2] (.inl y :: .inl x :: st) H = if x = y then rn Ls xs d 211 26 [l0, l1, l2] st H else rn Ls xs d 211 24 [l0, l1, l2] st H := rn_cmp (p := fun x y => x = y) rfl
theorem e_R_isWord_24 : rn Ls xs d 211 24 [l0, l1, l2]  st H = rn Ls xs d 211 25 [l0, l1, l2] (.inl 0 :: st) H := rn_nx rfl rfl
theorem e_R_isWord_25 : rn Ls xs d 211 25 [l0, l1, l2] [.inl x] H = if h_bo x then some (some (.inl x), H) else none := rn_zret rfl
theorem e_R_isWord_26 : rn Ls xs d 211 26 [l0, l1, l2]  st H = rn Ls xs d 211 27 [l0, l1, l2] (.inl 0 :: st) H := rn_nx rfl rfl
theorem e_R_isWord_27 : rn Ls xs d 211 27 [l0, l1, l2] (.inl x :: st) H = rn Ls xs d 211 28 [l0, l1, some (.inl x)] st H := rn_nx rfl rfl
theorem e_R_isWord_28 : rn Ls xs d 211 28 [l0, l1, some (.inl x)] st H = rn Ls xs d 211 29 [l0, l1, some (.inl x)] (.inl x :: st) H := rn_nx rfl rfl
theorem e_R_isWord_29 : rn Ls xs d 211 29 [l0, some (.inr u), l2] st H = rn Ls xs d 211 30 [l0, some (.inr u), l2] (.inr u :: st) H := rn_nx rfl rfl
theorem e_R_isWord_30 : rn Ls xs (d + 1) 211 30 [l0, l1, l2] [(.inr (.inr k)), v1] H = if 10 ≤ k ∧ k < 17 then rb Ls xs (d + 1) 211 33 [l0, l1, l2] [v1] (rn Ls xs d 216 0 [some (.inr (.inr k))] [] H) else none := rn_callT rfl rfl (Nat.le_of_ble_eq_true rfl) rfl rfl
theorem e_R_isWord_33 : rn Ls xs d 211 33 [l0, l1, l2] (.inl y :: .inl x :: st) H = if y ≤ x then rn Ls xs d 211 66 [l0, l1, l2] st H else rn Ls xs d 211 36 [l0, l1, l2] st H := rn_cmp (p := fun x y => y ≤ x) rfl
theorem e_R_isWord_36 : rn Ls xs d 211 36 [some (.inr u), l1, l2] st H = rn Ls xs d 211 37 [some (.inr u), l1, l2] (.inr u :: st) H := rn_nx rfl rfl
theorem e_R_isWord_37 : rn Ls xs d 211 37 [l0, l1, l2] (.inr (.inl (some a)) :: st) (S, I, R) = if h_is S a 1 10 then rn Ls xs d 211 40 [l0, l1, l2] (.inr (R a 0) :: st) (S, I, R) else none := rn_bc rfl rfl
theorem e_R_isWord_40 : rn Ls xs d 211 40 [l0, l1, l2] (.inr (.inl (some a)) :: st) (S, I, R) = if h_is S a 5 2 then rn Ls xs d 211 43 [l0, l1, l2] (.inr (R a 0) :: st) (S, I, R) else none := rn_bc rfl rfl
theorem e_R_isWord_43 : rn Ls xs d 211 43 [some (.inr u), l1, l2] st H = rn Ls xs d 211 44 [some (.inr u), l1, l2] (.inr u :: st) H := rn_nx rfl rfl
theorem e_R_isWord_44 : rn Ls xs d 211 44 [l0, l1, l2] (.inr (.inl (some a)) :: st) (S, I, R) = if h_is S a 1 10 then rn Ls xs d 211 47 [l0, l1, l2] (.inl (I a 6) :: st) (S, I, R) else none := rn_bc rfl rfl
theorem e_R_isWord_47 : rn Ls xs d 211 47 [l0, l1, some (.inl x)] st H = rn Ls xs d 211 48 [l0, l1, some (.inl x)] (.inl x :: st) H := rn_nx rfl rfl
theorem e_R_isWord_48 : rn Ls xs d 211 48 [l0, l1, l2] (.inl y :: .inl x :: st) H = rn Ls xs d 211 49 [l0, l1, l2] (.inl (x + y) :: st) H := rn_nx rfl rfl
theorem e_R_isWord_49 : rn Ls xs d 211 49 [l0, l1, l2] (.inl i :: .inr (.inl (some a)) :: st) (S, I, R) = if h_ia S a 0 i then rn Ls xs d 211 50 [l0, l1, l2] (.inl (I a i.toNatClampNeg) :: st) (S, I, R) else none := rn_bc rfl rfl
theorem e_R_isWord_50 : rn Ls xs d 211 50 [l0, some (.inr u), l2] st H = rn Ls xs d 211 51 [l0, some (.inr u), l2] (.inr u :: st) H := rn_nx rfl rfl
theorem e_R_isWord_51 : rn Ls xs d 211 51 [l0, l1, some (.inl x)] st H = rn Ls xs d 211 52 [l0, l1, some (.inl x)] (.inl x :: st) H := rn_nx rfl rfl
theorem e_R_isWord_52 : rn Ls xs (d + 1) 211 52 [l0, l1, l2] [v1, (.inr (.inr k)), v2] H = if 10 ≤ k ∧ k < 17 then rb Ls xs (d + 1) 211 55 [l0, l1, l2] [v2] (rn Ls xs d 217 0 [some (.inr (.inr k)), some v1] [] H) else none := rn_callT rfl rfl (Nat.le_of_ble_eq_true rfl) rfl rfl
theorem e_R_isWord_55 : rn Ls xs d 211 55 [l0, l1, l2] (.inl y :: .inl x :: st) H = if x = y then rn Ls xs d 211 60 [l0, l1, l2] st H else rn Ls xs d 211 58 [l0, l1, l2] st H := rn_cmp (p := fun x y => x = y) rfl
theorem e_R_isWord_58 : rn Ls xs d 211 58 [l0, l1, l2]  st H = rn Ls xs d 211 59 [l0, l1, l2] (.inl 0 :: st) H := rn_nx rfl rfl
theorem e_R_isWord_59 : rn Ls xs d 211 59 [l0, l1, l2] [.inl x] H = if h_bo x then some (some (.inl x), H) else none := rn_zret rfl
theorem e_R_isWord_60 : rn Ls xs d 211 60 [l0, l1, some (.inl x)] st H = rn Ls xs d 211 63 [l0, l1, some (.inl (x + 1))] st H := rn_nx rfl rfl
theorem e_R_isWord_63 : rn Ls xs d 211 63 [l0, l1, l2] st H = rn Ls xs d 211 28 [l0, l1, l2] st H := rn_nx rfl rfl
theorem e_R_isWord_66 : rn Ls xs d 211 66 [l0, l1, l2]  st H = rn Ls xs d 211 67 [l0, l1, l2] (.inl 1 :: st) H := rn_nx rfl rfl
theorem e_R_isWord_67 : rn Ls xs d 211 67 [l0, l1, l2] [.inl x] H = if h_bo x then some (some (.inl x), H) else none := rn_zret rfl
theorem e_R_readPiece_0 : rn Ls xs d 212 0 [some (.inr u), l1, l2] st H = rn Ls xs d 212 1 [some (.inr u), l1, l2] (.inr u :: st) H := rn_nx rfl rfl
theorem e_R_readPiece_1 : rn Ls xs d 212 1 [l0, l1, l2] (.inr (.inl (some a)) :: st) (S, I, R) = if h_is S a 1 10 then rn Ls xs d 212 4 [l0, l1, l2] (.inl (I a 5) :: st) (S, I, R) else none := rn_bc rfl rfl
theorem e_R_readPiece_4 : rn Ls xs d 212 4 [l0, l1, l2]  st H = rn Ls xs d 212 5 [l0, l1, l2] (.inl 2 :: st) H := rn_nx rfl rfl
theorem e_R_readPiece_5 : rn Ls xs d 212 5 [l0, l1, l2] (.inl y :: .inl x :: st) H = if x ≠ y then rn Ls xs d 212 22 [l0, l1, l2] st H else rn Ls xs d 212 8 [l0, l1, l2] st H := rn_cmp (p := fun x y => x ≠ y) rfl
theorem e_R_readPiece_8 : rn Ls xs d 212 8 [some (.inr u), l1, l2] st H = rn Ls xs d 212 9 [some (.inr u), l1, l2] (.inr u :: st) H := rn_nx rfl rfl
theorem e_R_readPiece_9 : rn Ls xs d 212 9 [l0, l1, l2] (.inr (.inl (some a)) :: st) (S, I, R) = if h_is S a 1 10 then rn Ls xs d 212 12 [l0, l1, l2] (.inl (I a 8) :: st) (S, I, R) else none := rn_bc rfl rfl
theorem e_R_readPiece_12 : rn Ls xs d 212 12 [l0, l1, l2] (.inl x :: st) H = if x ≠ 0 then rn Ls xs d 212 22 [l0, l1, l2] st H else rn Ls xs d 212 15 [l0, l1, l2] st H := rn_if (p := fun x => x ≠ 0) rfl
theorem e_R_readPiece_15 : rn Ls xs d 212 15 [some (.inr u), l1, l2] st H = rn Ls xs d 212 16 [some (.inr u), l1, l2] (.inr u :: st) H := rn_nx rfl rfl
theorem e_R_readPiece_16 : rn Ls xs (d + 1) 212 16 [l0, l1, l2] [(.inr (.inl (some a)))] (S, I, R) = if h_is S a 1 10 then rb Ls xs (d + 1) 212 19 [l0, l1, l2] [] (rn Ls xs d 218 0 [some (.inr (.inl (some a))), none, none] [] (S, I, R)) else none := rn_callO rfl rfl (Nat.le_of_ble_eq_true rfl) rfl rfl
theorem e_R_readPiece_19 : rn Ls xs d 212 19 [l0, l1, l2] st H = rn Ls xs d 212 132 [l0, l1, l2] st H := rn_nx rfl rfl
theorem e_R_readPiece_22 : rn Ls xs d 212 22 [some (.inr u), l1, l2] st H = rn Ls xs d 212 23 [some (.inr u), l1, l2] (.inr u :: st) H := rn_nx rfl rfl
theorem e_R_readPiece_23 : rn Ls xs d 212 23 [l0, l1, l2] (.inr (.inl (some a)) :: st) (S, I, R) = if h_is S a 1 10 then rn Ls xs d 212 26 [l0, l1, l2] (.inl (I a 5) :: st) (S, I, R) else none := rn_bc rfl rfl
theorem e_R_readPiece_26 : rn Ls xs d 212 26 [l0, l1, l2]  st H = rn Ls xs d 212 27 [l0, l1, l2] (.inl 1 :: st) H := rn_nx rfl rfl
theorem e_R_readPiece_27 : rn Ls xs d 212 27 [l0, l1, l2] (.inl y :: .inl x :: st) H = if x ≠ y then rn Ls xs d 212 44 [l0, l1, l2] st H else rn Ls xs d 212 30 [l0, l1, l2] st H := rn_cmp (p := fun x y => x ≠ y) rfl
theorem e_R_readPiece_30 : rn Ls xs d 212 30 [some (.inr u), l1, l2] st H = rn Ls xs d 212 31 [some (.inr u), l1, l2] (.inr u :: st) H := rn_nx rfl rfl
theorem e_R_readPiece_31 : rn Ls xs d 212 31 [l0, l1, l2] (.inr (.inl (some a)) :: st) (S, I, R) = if h_is S a 1 10 then rn Ls xs d 212 34 [l0, l1, l2] (.inl (I a 8) :: st) (S, I, R) else none := rn_bc rfl rfl
theorem e_R_readPiece_34 : rn Ls xs d 212 34 [l0, l1, l2] (.inl x :: st) H = if x ≠ 0 then rn Ls xs d 212 44 [l0, l1, l2] st H else rn Ls xs d 212 37 [l0, l1, l2] st H := rn_if (p := fun x => x ≠ 0) rfl
theorem e_R_readPiece_37 : rn Ls xs d 212 37 [some (.inr u), l1, l2] st H = rn Ls xs d 212 38 [some (.inr u), l1, l2] (.inr u :: st) H := rn_nx rfl rfl
theorem e_R_readPiece_38 : rn Ls xs (d + 1) 212 38 [l0, l1, l2] [(.inr (.inl (some a)))] (S, I, R) = if h_is S a 1 10 then rb Ls xs (d + 1) 212 41 [l0, l1, l2] [] (rn Ls xs d 219 0 [some (.inr (.inl (some a))), none] [] (S, I, R)) else none := rn_callO rfl rfl (Nat.le_of_ble_eq_true rfl) rfl rfl
theorem e_R_readPiece_41 : rn Ls xs d 212 41 [l0, l1, l2] st H = rn Ls xs d 212 132 [l0, l1, l2] st H := rn_nx rfl rfl
theorem e_R_readPiece_44 : rn Ls xs d 212 44 [some (.inr u), l1, l2] st H = rn Ls xs d 212 45 [some (.inr u), l1, l2] (.inr u :: st) H := rn_nx rfl rfl
theorem e_R_readPiece_45 : rn Ls xs d 212 45 [l0, l1, l2]  st H = rn Ls xs d 212 47 [l0, l1, l2] (.inl 33 :: st) H := rn_nx rfl rfl
theorem e_R_readPiece_47 : rn Ls xs (d + 1) 212 47 [l0, l1, l2] [v1, (.inr (.inl (some a)))] (S, I, R) = if h_is S a 1 10 then rb Ls xs (d + 1) 212 50 [l0, l1, l2] [] (rn Ls xs d 220 0 [some (.inr (.inl (some a))), some v1] [] (S, I, R)) else none := rn_callO rfl rfl (Nat.le_of_ble_eq_true rfl) rfl rfl
theorem e_R_readPiece_50 : rn Ls xs d 212 50 [l0, l1, l2] (.inl x :: st) H = if x = 0 then rn Ls xs d 212 80 [l0, l1, l2] st H else rn Ls xs d 212 53 [l0, l1, l2] st H := rn_if (p := fun x => x = 0) rfl
theorem e_R_readPiece_53 : rn Ls xs d 212 53 [l0, l1, some (.inl x)] st H = rn Ls xs d 212 54 [l0, l1, some (.inl x)] (.inl x :: st) H := rn_nx rfl rfl
theorem e_R_readPiece_54 : rn Ls xs d 212 54 [l0, l1, l2]  st H = rn Ls xs d 212 56 [l0, l1, l2] (.inl 8 :: st) H := rn_nx rfl rfl
theorem e_R_readPiece_56 : rn Ls xs d 212 56 [l0, l1, l2] (.inl y :: .inl x :: st) H = if y ≤ x then rn Ls xs d 212 80 [l0, l1, l2] st H else rn Ls xs d 212 59 [l0, l1, l2] st H := rn_cmp (p := fun x y => y ≤ x) rfl
theorem e_R_readPiece_59 : rn Ls xs d 212 59 [some (.inr u), l1, l2] st H = rn Ls xs d 212 60 [some (.inr u), l1, l2] (.inr u :: st) H := rn_nx rfl rfl
theorem e_R_readPiece_60 : rn Ls xs (d + 1) 212 60 [l0, l1, l2] [(.inr (.inl (some a)))] (S, I, R) = if h_is S a 1 10 then rb Ls xs (d + 1) 212 63 [l0, l1, l2] [] (rn Ls xs d 193 0 [some (.inr (.inl (some a))), none, none] [] (S, I, R)) else none := rn_callO rfl rfl (Nat.le_of_ble_eq_true rfl) rfl rfl
theorem e_R_readPiece_63 : rn Ls xs d 212 63 [some (.inr u), l1, l2] st H = rn Ls xs d 212 64 [some (.inr u), l1, l2] (.inr u :: st) H := rn_nx rfl rfl
theorem e_R_readPiece_64 : rn Ls xs d 212 64 [l0, some (.inl x), l2] st H = rn Ls xs d 212 65 [l0, some (.inl x), l2] (.inl x :: st) H := rn_nx rfl rfl
theorem e_R_readPiece_65 : rn Ls xs d 212 65 [l0, l1, some (.inl x)] st H = rn Ls xs d 212 66 [l0, l1, some (.inl x)] (.inl x :: st) H := rn_nx rfl rfl
theorem e_R_readPiece_66 : rn Ls xs d 212 66 [l0, l1, l2]  st H = rn Ls xs d 212 67 [l0, l1, l2] (.inl 1 :: st) H := rn_nx rfl rfl
theorem e_R_readPiece_67 : rn Ls xs d 212 67 [l0, l1, l2] (.inl y :: .inl x :: st) H = rn Ls xs d 212 68 [l0, l1, l2] (.inl (x + y) :: st) H := rn_nx rfl rfl
theorem e_R_readPiece_68 : rn Ls xs (d + 1) 212 68 [l0, l1, l2] [v2, v1, (.inr (.inl (some a)))] (S, I, R) = if h_is S a 1 10 then rb Ls xs (d + 1) 212 71 [l0, l1, l2] [] (rn Ls xs d 212 0 [some (.inr (.inl (some a))), some v1, some v2] [] (S, I, R)) else none := rn_callO rfl rfl (Nat.le_of_ble_eq_true rfl) rfl rfl
theorem e_R_readPiece_71 : rn Ls xs d 212 71 [some (.inr u), l1, l2] st H = rn Ls xs d 212 72 [some (.inr u), l1, l2] (.inr u :: st) H := rn_nx rfl rfl
theorem e_R_readPiece_72 : rn Ls xs d 212 72 [l0, l1, l2]  st H = rn Ls xs d 212 74 [l0, l1, l2] (.inl (-33) :: st) H := rn_nx rfl rfl
theorem e_R_readPiece_74 : rn Ls xs (d + 1) 212 74 [l0, l1, l2] [v1, (.inr (.inl (some a)))] (S, I, R) = if h_is S a 1 10 then rb Ls xs (d + 1) 212 77 [l0, l1, l2] [] (rn Ls xs d 214 0 [some (.inr (.inl (some a))), some v1] [] (S, I, R)) else none := rn_callO rfl rfl (Nat.le_of_ble_eq_true rfl) rfl rfl
theorem e_R_readPiece_77 : rn Ls xs d 212 77 [l0, l1, l2] st H = rn Ls xs d 212 132 [l0, l1, l2] st H := rn_nx rfl rfl
theorem e_R_readPiece_80 : rn Ls xs d 212 80 [some (.inr u), l1, l2] st H = rn Ls xs d 212 81 [some (.inr u), l1, l2] (.inr u :: st) H := rn_nx rfl rfl
theorem e_R_readPiece_81 : rn Ls xs d 212 81 [l0, l1, l2]  st H = rn Ls xs d 212 83 [l0, l1, l2] (.inl 40 :: st) H := rn_nx rfl rfl
theorem e_R_readPiece_83 : rn Ls xs (d + 1) 212 83 [l0, l1, l2] [v1, (.inr (.inl (some a)))] (S, I, R) = if h_is S a 1 10 then rb Ls xs (d + 1) 212 86 [l0, l1, l2] [] (rn Ls xs d 220 0 [some (.inr (.inl (some a))), some v1] [] (S, I, R)) else none := rn_callO rfl rfl (Nat.le_of_ble_eq_true rfl) rfl rfl
theorem e_R_readPiece_86 : rn Ls xs d 212 86 [l0, l1, l2] (.inl x :: st) H = if x = 0 then rn Ls xs d 212 128 [l0, l1, l2] st H else rn Ls xs d 212 89 [l0, l1, l2] st H := rn_if (p := fun x => x = 0) rfl
theorem e_R_readPiece_89 : rn Ls xs d 212 89 [l0, some (.inl x), l2] st H = rn Ls xs d 212 90 [l0, some (.inl x), l2] (.inl x :: st) H := rn_nx rfl rfl
theorem e_R_readPiece_90 : rn Ls xs d 212 90 [l0, l1, l2]  st H = rn Ls xs d 212 92 [l0, l1, l2] (.inl 8 :: st) H := rn_nx rfl rfl
theorem e_R_readPiece_92 : rn Ls xs d 212 92 [l0, l1, l2] (.inl y :: .inl x :: st) H = if y ≤ x then rn Ls xs d 212 128 [l0, l1, l2] st H else rn Ls xs d 212 95 [l0, l1, l2] st H := rn_cmp (p := fun x y => y ≤ x) rfl
theorem e_R_readPiece_95 : rn Ls xs d 212 95 [some (.inr u), l1, l2] st H = rn Ls xs d 212 96 [some (.inr u), l1, l2] (.inr u :: st) H := rn_nx rfl rfl
theorem e_R_readPiece_96 : rn Ls xs (d + 1) 212 96 [l0, l1, l2] [(.inr (.inl (some a)))] (S, I, R) = if h_is S a 1 10 then rb Ls xs (d + 1) 212 99 [l0, l1, l2] [] (rn Ls xs d 193 0 [some (.inr (.inl (some a))), none, none] [] (S, I, R)) else none := rn_callO rfl rfl (Nat.le_of_ble_eq_true rfl) rfl rfl
theorem e_R_readPiece_99 : rn Ls xs d 212 99 [some (.inr u), l1, l2] st H = rn Ls xs d 212 100 [some (.inr u), l1, l2] (.inr u :: st) H := rn_nx rfl rfl
theorem e_R_readPiece_100 : rn Ls xs d 212 100 [l0, l1, l2]  st H = rn Ls xs d 212 101 [l0, l1, l2] (.inl 0 :: st) H := rn_nx rfl rfl
theorem e_R_readPiece_101 : rn Ls xs d 212 101 [l0, some (.inl x), l2] st H = rn Ls xs d 212 102 [l0, some (.inl x), l2] (.inl x :: st) H := rn_nx rfl rfl
theorem e_R_readPiece_102 : rn Ls xs d 212 102 [l0, l1, l2]  st H = rn Ls xs d 212 103 [l0, l1, l2] (.inl 1 :: st) H := rn_nx rfl rfl
theorem e_R_readPiece_103 : rn Ls xs d 212 103 [l0, l1, l2] (.inl y :: .inl x :: st) H = rn Ls xs d 212 104 [l0, l1, l2] (.inl (x + y) :: st) H := rn_nx rfl rfl
theorem e_R_readPiece_104 : rn Ls xs d 212 104 [l0, l1, some (.inl x)] st H = rn Ls xs d 212 105 [l0, l1, some (.inl x)] (.inl x :: st) H := rn_nx rfl rfl
theorem e_R_readPiece_105 : rn Ls xs (d + 1) 212 105 [l0, l1, l2] [v3, v2, v1, (.inr (.inl (some a)))] (S, I, R) = if h_is S a 1 10 then rb Ls xs (d + 1) 212 108 [l0, l1, l2] [] (rn Ls xs d 195 0 [some (.inr (.inl (some a))), some v1, some v2, some v3, none, none, none] [] (S, I, R)) else none := rn_callO rfl rfl (Nat.le_of_ble_eq_true rfl) rfl rfl
theorem e_R_readPiece_108 : rn Ls xs d 212 108 [some (.inr u), l1, l2] st H = rn Ls xs d 212 109 [some (.inr u), l1, l2] (.inr u :: st) H := rn_nx rfl rfl
theorem e_R_readPiece_109 : rn Ls xs d 212 109 [l0, l1, l2]  st H = rn Ls xs d 212 111 [l0, l1, l2] (.inl 41 :: st) H := rn_nx rfl rfl
theorem e_R_readPiece_111 : rn Ls xs (d + 1) 212 111 [l0, l1, l2] [v1, (.inr (.inl (some a)))] (S, I, R) = if h_is S a 1 10 then rb Ls xs (d + 1) 212 114 [l0, l1, l2] [] (rn Ls xs d 220 0 [some (.inr (.inl (some a))), some v1] [] (S, I, R)) else none := rn_callO rfl rfl (Nat.le_of_ble_eq_true rfl) rfl rfl
theorem e_R_readPiece_114 : rn Ls xs d 212 114 [l0, l1, l2] (.inl x :: st) H = if x ≠ 0 then rn Ls xs d 212 121 [l0, l1, l2] st H else rn Ls xs d 212 117 [l0, l1, l2] st H := rn_if (p := fun x => x ≠ 0) rfl
theorem e_R_readPiece_117 : rn Ls xs d 212 117 [some (.inr u), l1, l2] st H = rn Ls xs d 212 118 [some (.inr u), l1, l2] (.inr u :: st) H := rn_nx rfl rfl
theorem e_R_readPiece_118 : rn Ls xs (d + 1) 212 118 [l0, l1, l2] [(.inr (.inl (some a)))] (S, I, R) = if h_is S a 1 10 then rb Ls xs (d + 1) 212 121 [l0, l1, l2] [] (rn Ls xs d 196 0 [some (.inr (.inl (some a)))] [] (S, I, R)) else none := rn_callO rfl rfl (Nat.le_of_ble_eq_true rfl) rfl rfl
theorem e_R_readPiece_121 : rn Ls xs d 212 121 [some (.inr u), l1, l2] st H = rn Ls xs d 212 122 [some (.inr u), l1, l2] (.inr u :: st) H := rn_nx rfl rfl
theorem e_R_readPiece_122 : rn Ls xs (d + 1) 212 122 [l0, l1, l2] [(.inr (.inl (some a)))] (S, I, R) = if h_is S a 1 10 then rb Ls xs (d + 1) 212 125 [l0, l1, l2] [] (rn Ls xs d 193 0 [some (.inr (.inl (some a))), none, none] [] (S, I, R)) else none := rn_callO rfl rfl (Nat.le_of_ble_eq_true rfl) rfl rfl
theorem e_R_readPiece_125 : rn Ls xs d 212 125 [l0, l1, l2] st H = rn Ls xs d 212 132 [l0, l1, l2] st H := rn_nx rfl rfl
theorem e_R_readPiece_128 : rn Ls xs d 212 128 [some (.inr u), l1, l2] st H = rn Ls xs d 212 129 [some (.inr u), l1, l2] (.inr u :: st) H := rn_nx rfl rfl
theorem e_R_readPiece_129 : rn Ls xs (d + 1) 212 129 [l0, l1, l2] [(.inr (.inl (some a)))] (S, I, R) = if h_is S a 1 10 then rb Ls xs (d + 1) 212 132 [l0, l1, l2] [] (rn Ls xs d 196 0 [some (.inr (.inl (some a)))] [] (S, I, R)) else none := rn_callO rfl rfl (Nat.le_of_ble_eq_true rfl) rfl rfl
theorem e_R_readPiece_132 : rn Ls xs d 212 132 [l0, l1, l2] [] H = some (none, H) := rn_done rfl rfl
theorem e_R_joinsAt_0 : rn Ls xs d 213 0 [l0, some (.inl x)] st H = rn Ls xs d 213 1 [l0, some (.inl x)] (.inl x :: st) H := rn_nx rfl rfl
theorem e_R_joinsAt_1 : rn Ls xs d 213 1 [l0, l1] (.inl x :: st) H = if x = 0 then rn Ls xs d 213 32 [l0, l1] st H else if x = 1 then rn Ls xs d 213 39 [l0, l1] st H else if x = 2 then rn Ls xs d 213 46 [l0, l1] st H else if x = 3 then rn Ls xs d 213 79 [l0, l1] st H else rn Ls xs d 213 103 [l0, l1] st H := (rn_nx rfl rfl).trans (rn_tc rfl rfl (rn_tc rfl rfl (rn_tc rfl rfl (rn_tc rfl rfl (rn_tn)))))
theorem e_R_joinsAt_32 : rn Ls xs d 213 32 [some (.inr u), l1] st H = rn Ls xs d 213 33 [some (.inr u), l1] (.inr u :: st) H := rn_nx rfl rfl
theorem e_R_joinsAt_33 : rn Ls xs d 213 33 [l0, l1]  st H = rn Ls xs d 213 35 [l0, l1] (.inl 124 :: st) H := rn_nx rfl rfl
theorem e_R_joinsAt_35 : rn Ls xs (d + 1) 213 35 [l0, l1] [v1, (.inr (.inl (some a)))] (S, I, R) = if h_is S a 1 10 then rb Ls xs (d + 1) 213 38 [l0, l1] [] (rn Ls xs d 220 0 [some (.inr (.inl (some a))), some v1] [] (S, I, R)) else none := rn_callO rfl rfl (Nat.le_of_ble_eq_true rfl) rfl rfl
theorem e_R_joinsAt_38 : rn Ls xs d 213 38 [l0, l1] [.inl x] H = if h_bo x then some (some (.inl x), H) else none := rn_zret rfl
theorem e_R_joinsAt_39 : rn Ls xs d 213 39 [some (.inr u), l1] st H = rn Ls xs d 213 40 [some (.inr u), l1] (.inr u :: st) H := rn_nx rfl rfl
theorem e_R_joinsAt_40 : rn Ls xs d 213 40 [l0, l1]  st H = rn Ls xs d 213 42 [l0, l1] (.inl 38 :: st) H := rn_nx rfl rfl
theorem e_R_joinsAt_42 : rn Ls xs (d + 1) 213 42 [l0, l1] [v1, (.inr (.inl (some a)))] (S, I, R) = if h_is S a 1 10 then rb Ls xs (d + 1) 213 45 [l0, l1] [] (rn Ls xs d 220 0 [some (.inr (.inl (some a))), some v1] [] (S, I, R)) else none := rn_callO rfl rfl (Nat.le_of_ble_eq_true rfl) rfl rfl
theorem e_R_joinsAt_45 : rn Ls xs d 213 45 [l0, l1] [.inl x] H = if h_bo x then some (some (.inl x), H) else none := rn_zret rfl
theorem e_R_joinsAt_46 : rn Ls xs d 213 46 [some (.inr u), l1] st H = rn Ls xs d 213 47 [some (.inr u), l1] (.inr u :: st) H := rn_nx rfl rfl
theorem e_R_joinsAt_47 : rn Ls xs d 213 47 [l0, l1]  st H = rn Ls xs d 213 49 [l0, l1] (.inl 60 :: st) H := rn_nx rfl rfl
theorem e_R_joinsAt_49 : rn Ls xs (d + 1) 213 49 [l0, l1] [v1, (.inr (.inl (some a)))] (S, I, R) = if h_is S a 1 10 then rb Ls xs (d + 1) 213 52 [l0, l1] [] (rn Ls xs d 220 0 [some (.inr (.inl (some a))), some v1] [] (S, I, R)) else none := rn_callO rfl rfl (Nat.le_of_ble_eq_true rfl) rfl rfl
theorem e_R_joinsAt_52 : rn Ls xs d 213 52 [l0, l1] (.inl x :: st) H = if x ≠ 0 then rn Ls xs d 213 73 [l0, l1] st H else rn Ls xs d 213 55 [l0, l1] st H := rn_if (p := fun x => x ≠ 0) rfl
theorem e_R_joinsAt_55 : rn Ls xs d 213 55 [some (.inr u), l1] st H = rn Ls xs d 213 56 [some (.inr u), l1] (.inr u :: st) H := rn_nx rfl rfl
theorem e_R_joinsAt_56 : rn Ls xs d 213 56 [l0, l1]  st H = rn Ls xs d 213 58 [l0, l1] (.inl 61 :: st) H := rn_nx rfl rfl
theorem e_R_joinsAt_58 : rn Ls xs (d + 1) 213 58 [l0, l1] [v1, (.inr (.inl (some a)))] (S, I, R) = if h_is S a 1 10 then rb Ls xs (d + 1) 213 61 [l0, l1] [] (rn Ls xs d 220 0 [some (.inr (.inl (some a))), some v1] [] (S, I, R)) else none := rn_callO rfl rfl (Nat.le_of_ble_eq_true rfl) rfl rfl
theorem e_R_joinsAt_61 : rn Ls xs d 213 61 [l0, l1] (.inl x :: st) H = if x ≠ 0 then rn Ls xs d 213 73 [l0, l1] st H else rn Ls xs d 213 64 [l0, l1] st H := rn_if (p := fun x => x ≠ 0) rfl
theorem e_R_joinsAt_64 : rn Ls xs d 213 64 [some (.inr u), l1] st H = rn Ls xs d 213 65 [some (.inr u), l1] (.inr u :: st) H := rn_nx rfl rfl
theorem e_R_joinsAt_65 : rn Ls xs d 213 65 [l0, l1]  st H = rn Ls xs d 213 67 [l0, l1] (.inl 62 :: st) H := rn_nx rfl rfl
theorem e_R_joinsAt_67 : rn Ls xs (d + 1) 213 67 [l0, l1] [v1, (.inr (.inl (some a)))] (S, I, R) = if h_is S a 1 10 then rb Ls xs (d + 1) 213 70 [l0, l1] [] (rn Ls xs d 220 0 [some (.inr (.inl (some a))), some v1] [] (S, I, R)) else none := rn_callO rfl rfl (Nat.le_of_ble_eq_true rfl) rfl rfl
theorem e_R_joinsAt_70 : rn Ls xs d 213 70 [l0, l1] (.inl x :: st) H = if x = 0 then rn Ls xs d 213 77 [l0, l1] st H else rn Ls xs d 213 73 [l0, l1] st H := rn_if (p := fun x => x = 0) rfl
theorem e_R_joinsAt_73 : rn Ls xs d 213 73 [l0, l1]  st H = rn Ls xs d 213 74 [l0, l1] (.inl 1 :: st) H := rn_nx rfl rfl
theorem e_R_joinsAt_74 : rn Ls xs d 213 74 [l0, l1] st H = rn Ls xs d 213 78 [l0, l1] st H := rn_nx rfl rfl
theorem e_R_joinsAt_77 : rn Ls xs d 213 77 [l0, l1]  st H = rn Ls xs d 213 78 [l0, l1] (.inl 0 :: st) H := rn_nx rfl rfl
theorem e_R_joinsAt_78 : rn Ls xs d 213 78 [l0, l1] [.inl x] H = if h_bo x then some (some (.inl x), H) else none := rn_zret rfl
theorem e_R_joinsAt_79 : rn Ls xs d 213 79 [some (.inr u), l1] st H = rn Ls xs d 213 80 [some (.inr u), l1] (.inr u :: st) H := rn_nx rfl rfl
theorem e_R_joinsAt_80 : rn Ls xs d 213 80 [l0, l1]  st H = rn Ls xs d 213 82 [l0, l1] (.inl 43 :: st) H := rn_nx rfl rfl
theorem e_R_joinsAt_82 : rn Ls xs (d + 1) 213 82 [l0, l1] [v1, (.inr (.inl (some a)))] (S, I, R) = if h_is S a 1 10 then rb Ls xs (d + 1) 213 85 [l0, l1] [] (rn Ls xs d 220 0 [some (.inr (.inl (some a))), some v1] [] (S, I, R)) else none := rn_callO rfl rfl (Nat.le_of_ble_eq_true rfl) rfl rfl
theorem e_R_joinsAt_85 : rn Ls xs d 213 85 [l0, l1] (.inl x :: st) H = if x ≠ 0 then rn Ls xs d 213 97 [l0, l1] st H else rn Ls xs d 213 88 [l0, l1] st H := rn_if (p := fun x => x ≠ 0) rfl
theorem e_R_joinsAt_88 : rn Ls xs d 213 88 [some (.inr u), l1] st H = rn Ls xs d 213 89 [some (.inr u), l1] (.inr u :: st) H := rn_nx rfl rfl
theorem e_R_joinsAt_89 : rn Ls xs d 213 89 [l0, l1]  st H = rn Ls xs d 213 91 [l0, l1] (.inl 45 :: st) H := rn_nx rfl rfl
theorem e_R_joinsAt_91 : rn Ls xs (d + 1) 213 91 [l0, l1] [v1, (.inr (.inl (some a)))] (S, I, R) = if h_is S a 1 10 then rb Ls xs (d + 1) 213 94 [l0, l1] [] (rn Ls xs d 220 0 [some (.inr (.inl (some a))), some v1] [] (S, I, R)) else none := rn_callO rfl rfl (Nat.le_of_ble_eq_true rfl) rfl rfl
theorem e_R_joinsAt_94 : rn Ls xs d 213 94 [l0, l1] (.inl x :: st) H = if x = 0 then rn Ls xs d 213 101 [l0, l1] st H else rn Ls xs d 213 97 [l0, l1] st H := rn_if (p := fun x => x = 0) rfl
theorem e_R_joinsAt_97 : rn Ls xs d 213 97 [l0, l1]  st H = rn Ls xs d 213 98 [l0, l1] (.inl 1 :: st) H := rn_nx rfl rfl
theorem e_R_joinsAt_98 : rn Ls xs d 213 98 [l0, l1] st H = rn Ls xs d 213 102 [l0, l1] st H := rn_nx rfl rfl
theorem e_R_joinsAt_101 : rn Ls xs d 213 101 [l0, l1]  st H = rn Ls xs d 213 102 [l0, l1] (.inl 0 :: st) H := rn_nx rfl rfl
theorem e_R_joinsAt_102 : rn Ls xs d 213 102 [l0, l1] [.inl x] H = if h_bo x then some (some (.inl x), H) else none := rn_zret rfl
theorem e_R_joinsAt_103 : rn Ls xs d 213 103 [some (.inr u), l1] st H = rn Ls xs d 213 104 [some (.inr u), l1] (.inr u :: st) H := rn_nx rfl rfl
theorem e_R_joinsAt_104 : rn Ls xs d 213 104 [l0, l1]  st H = rn Ls xs d 213 106 [l0, l1] (.inl 42 :: st) H := rn_nx rfl rfl
theorem e_R_joinsAt_106 : rn Ls xs (d + 1) 213 106 [l0, l1] [v1, (.inr (.inl (some a)))] (S, I, R) = if h_is S a 1 10 then rb Ls xs (d + 1) 213 109 [l0, l1] [] (rn Ls xs d 220 0 [some (.inr (.inl (some a))), some v1] [] (S, I, R)) else none := rn_callO rfl rfl (Nat.le_of_ble_eq_true rfl) rfl rfl
theorem e_R_joinsAt_109 : rn Ls xs d 213 109 [l0, l1] (.inl x :: st) H = if x ≠ 0 then rn Ls xs d 213 121 [l0, l1] st H else rn Ls xs d 213 112 [l0, l1] st H := rn_if (p := fun x => x ≠ 0) rfl
theorem e_R_joinsAt_112 : rn Ls xs d 213 112 [some (.inr u), l1] st H = rn Ls xs d 213 113 [some (.inr u), l1] (.inr u :: st) H := rn_nx rfl rfl
theorem e_R_joinsAt_113 : rn Ls xs d 213 113 [l0, l1]  st H = rn Ls xs d 213 115 [l0, l1] (.inl 47 :: st) H := rn_nx rfl rfl
theorem e_R_joinsAt_115 : rn Ls xs (d + 1) 213 115 [l0, l1] [v1, (.inr (.inl (some a)))] (S, I, R) = if h_is S a 1 10 then rb Ls xs (d + 1) 213 118 [l0, l1] [] (rn Ls xs d 220 0 [some (.inr (.inl (some a))), some v1] [] (S, I, R)) else none := rn_callO rfl rfl (Nat.le_of_ble_eq_true rfl) rfl rfl
theorem e_R_joinsAt_118 : rn Ls xs d 213 118 [l0, l1] (.inl x :: st) H = if x = 0 then rn Ls xs d 213 125 [l0, l1] st H else rn Ls xs d 213 121 [l0, l1] st H := rn_if (p := fun x => x = 0) rfl
theorem e_R_joinsAt_121 : rn Ls xs d 213 121 [l0, l1]  st H = rn Ls xs d 213 122 [l0, l1] (.inl 1 :: st) H := rn_nx rfl rfl
theorem e_R_joinsAt_122 : rn Ls xs d 213 122 [l0, l1] st H = rn Ls xs d 213 126 [l0, l1] st H := rn_nx rfl rfl
theorem e_R_joinsAt_125 : rn Ls xs d 213 125 [l0, l1]  st H = rn Ls xs d 213 126 [l0, l1] (.inl 0 :: st) H := rn_nx rfl rfl
theorem e_R_joinsAt_126 : rn Ls xs d 213 126 [l0, l1] [.inl x] H = if h_bo x then some (some (.inl x), H) else none := rn_zret rfl
theorem e_R_put_0 : rn Ls xs d 214 0 [some (.inr u), l1] st H = rn Ls xs d 214 1 [some (.inr u), l1] (.inr u :: st) H := rn_nx rfl rfl
theorem e_R_put_1 : rn Ls xs d 214 1 [l0, l1] (.inr (.inl (some a)) :: st) (S, I, R) = if h_is S a 1 10 then rn Ls xs d 214 4 [l0, l1] (.inl (I a 2) :: st) (S, I, R) else none := rn_bc rfl rfl
theorem e_R_put_4 : rn Ls xs d 214 4 [l0, l1]  st H = rn Ls xs d 214 6 [l0, l1] (.inl 96 :: st) H := rn_nx rfl rfl
theorem e_R_put_6 : rn Ls xs d 214 6 [l0, l1] (.inl y :: .inl x :: st) H = if y ≤ x then rn Ls xs d 214 29 [l0, l1] st H else rn Ls xs d 214 9 [l0, l1] st H := rn_cmp (p := fun x y => y ≤ x) rfl
theorem e_R_put_9 : rn Ls xs d 214 9 [some (.inr u), l1] st H = rn Ls xs d 214 10 [some (.inr u), l1] (.inr u :: st) H := rn_nx rfl rfl
theorem e_R_put_10 : rn Ls xs d 214 10 [l0, l1] (.inr (.inl (some a)) :: st) (S, I, R) = if h_is S a 1 10 then rn Ls xs d 214 13 [l0, l1] (.inr (R a 1) :: st) (S, I, R) else none := rn_bc rfl rfl
theorem e_R_put_13 : rn Ls xs d 214 13 [some (.inr u), l1] st H = rn Ls xs d 214 14 [some (.inr u), l1] (.inr u :: st) H := rn_nx rfl rfl
theorem e_R_put_14 : rn Ls xs d 214 14 [l0, l1] (.inr (.inl (some a)) :: st) (S, I, R) = if h_is S a 1 10 then rn Ls xs d 214 17 [l0, l1] (.inl (I a 2) :: st) (S, I, R) else none := rn_bc rfl rfl
theorem e_R_put_17 : rn Ls xs d 214 17 [l0, some (.inl x)] st H = rn Ls xs d 214 18 [l0, some (.inl x)] (.inl x :: st) H := rn_nx rfl rfl
theorem e_R_put_18 : rn Ls xs d 214 18 [l0, l1] (.inl x :: .inl i :: .inr (.inl (some a)) :: st) (S, I, R) = if h_ia S a 0 i then rn Ls xs d 214 19 [l0, l1] st (S, va_up I a (upd (I a) i.toNatClampNeg x), R) else none := rn_bc rfl rfl
theorem e_R_put_19 : rn Ls xs d 214 19 [some (.inr u), l1] st H = rn Ls xs d 214 20 [some (.inr u), l1] (.inr u :: st) H := rn_nx rfl rfl
theorem e_R_put_20 : rn Ls xs d 214 20 [l0, l1] (v :: st) H = rn Ls xs d 214 21 [l0, l1] (v :: v :: st) H := rn_nx rfl rfl
theorem e_R_put_21 : rn Ls xs d 214 21 [l0, l1] (.inr (.inl (some a)) :: st) (S, I, R) = if h_is S a 1 10 then rn Ls xs d 214 24 [l0, l1] (.inl (I a 2) :: st) (S, I, R) else none := rn_bc rfl rfl
theorem e_R_put_24 : rn Ls xs d 214 24 [l0, l1]  st H = rn Ls xs d 214 25 [l0, l1] (.inl 1 :: st) H := rn_nx rfl rfl
theorem e_R_put_25 : rn Ls xs d 214 25 [l0, l1] (.inl y :: .inl x :: st) H = rn Ls xs d 214 26 [l0, l1] (.inl (x + y) :: st) H := rn_nx rfl rfl
theorem e_R_put_26 : rn Ls xs d 214 26 [l0, l1] (.inl x :: .inr (.inl (some a)) :: st) (S, I, R) = if h_is S a 1 10 then rn Ls xs d 214 29 [l0, l1] st (S, va_up I a (upd (I a) 2 x), R) else none := rn_bc rfl rfl
theorem e_R_put_29 : rn Ls xs d 214 29 [l0, l1] [] H = some (none, H) := rn_done rfl rfl
theorem e_M_nameOf_0 : rn Ls xs d 215 0 [some (.inr u), l1] st H = rn Ls xs d 215 1 [some (.inr u), l1] (.inr u :: st) H := rn_nx rfl rfl
theorem e_M_nameOf_1 : rn Ls xs d 215 1 [l0, l1] (.inr (.inl (some a)) :: st) (S, I, R) = if h_is S a 9 36 then rn Ls xs d 215 4 [l0, l1] (.inl (I a 15) :: st) (S, I, R) else none := rn_bc rfl rfl
theorem e_M_nameOf_4 : rn Ls xs d 215 4 [l0, l1] (.inl x :: st) H = if x = 0 then rn Ls xs d 215 32 [l0, l1] st H else if x = 1 then rn Ls xs d 215 64 [l0, l1] st H else rn Ls xs d 215 86 [l0, l1] st H := (rn_nx rfl rfl).trans (rn_lc rfl rfl (rn_lc rfl rfl (rn_ln)))
theorem e_M_nameOf_32 : rn Ls xs d 215 32 [l0, some (.inl x)] st H = rn Ls xs d 215 33 [l0, some (.inl x)] (.inl x :: st) H := rn_nx rfl rfl
theorem e_M_nameOf_33 : rn Ls xs d 215 33 [l0, l1]  st H = rn Ls xs d 215 35 [l0, l1] (.inl 109 :: st) H := rn_nx rfl rfl
theorem e_M_nameOf_35 : rn Ls xs d 215 35 [l0, l1] (.inl y :: .inl x :: st) H = if x ≠ y then rn Ls xs d 215 42 [l0, l1] st H else rn Ls xs d 215 38 [l0, l1] st H := rn_cmp (p := fun x y => x ≠ y) rfl
theorem e_M_nameOf_38 : rn Ls xs d 215 38 [l0, l1]  st H = rn Ls xs d 215 39 [l0, l1] (.inl 0 :: st) H := rn_nx rfl rfl
theorem e_M_nameOf_39 : rn Ls xs d 215 39 [l0, l1] st H = rn Ls xs d 215 63 [l0, l1] st H := rn_nx rfl rfl
theorem e_M_nameOf_42 : rn Ls xs d 215 42 [l0, some (.inl x)] st H = rn Ls xs d 215 43 [l0, some (.inl x)] (.inl x :: st) H := rn_nx rfl rfl
theorem e_M_nameOf_43 : rn Ls xs d 215 43 [l0, l1]  st H = rn Ls xs d 215 45 [l0, l1] (.inl 104 :: st) H := rn_nx rfl rfl
theorem e_M_nameOf_45 : rn Ls xs d 215 45 [l0, l1] (.inl y :: .inl x :: st) H = if x ≠ y then rn Ls xs d 215 52 [l0, l1] st H else rn Ls xs d 215 48 [l0, l1] st H := rn_cmp (p := fun x y => x ≠ y) rfl
theorem e_M_nameOf_48 : rn Ls xs d 215 48 [l0, l1]  st H = rn Ls xs d 215 49 [l0, l1] (.inl 1 :: st) H := rn_nx rfl rfl
theorem e_M_nameOf_49 : rn Ls xs d 215 49 [l0, l1] st H = rn Ls xs d 215 63 [l0, l1] st H := rn_nx rfl rfl
theorem e_M_nameOf_52 : rn Ls xs d 215 52 [l0, some (.inl x)] st H = rn Ls xs d 215 53 [l0, some (.inl x)] (.inl x :: st) H := rn_nx rfl rfl
theorem e_M_nameOf_53 : rn Ls xs d 215 53 [l0, l1]  st H = rn Ls xs d 215 55 [l0, l1] (.inl 112 :: st) H := rn_nx rfl rfl
theorem e_M_nameOf_55 : rn Ls xs d 215 55 [l0, l1] (.inl y :: .inl x :: st) H = if x ≠ y then rn Ls xs d 215 62 [l0, l1] st H else rn Ls xs d 215 58 [l0, l1] st H := rn_cmp (p := fun x y => x ≠ y) rfl
theorem e_M_nameOf_58 : rn Ls xs d 215 58 [l0, l1]  st H = rn Ls xs d 215 59 [l0, l1] (.inl 2 :: st) H := rn_nx rfl rfl
theorem e_M_nameOf_59 : rn Ls xs d 215 59 [l0, l1] st H = rn Ls xs d 215 63 [l0, l1] st H := rn_nx rfl rfl
theorem e_M_nameOf_62 : rn Ls xs d 215 62 [l0, l1]  st H = rn Ls xs d 215 63 [l0, l1] (.inl (-1) :: st) H := rn_nx rfl rfl
theorem e_M_nameOf_63 : rn Ls xs d 215 63 [l0, l1] [.inl x] H = some (some (.inl x), H) := rn_done rfl rfl
theorem e_M_nameOf_64 : rn Ls xs d 215 64 [l0, some (.inl x)] st H = rn Ls xs d 215 65 [l0, some (.inl x)] (.inl x :: st) H := rn_nx rfl rfl
theorem e_M_nameOf_65 : rn Ls xs d 215 65 [l0, l1]  st H = rn Ls xs d 215 67 [l0, l1] (.inl 98 :: st) H := rn_nx rfl rfl
theorem e_M_nameOf_67 : rn Ls xs d 215 67 [l0, l1] (.inl y :: .inl x :: st) H = if x ≠ y then rn Ls xs d 215 74 [l0, l1] st H else rn Ls xs d 215 70 [l0, l1] st H := rn_cmp (p := fun x y => x ≠ y) rfl
theorem e_M_nameOf_70 : rn Ls xs d 215 70 [l0, l1]  st H = rn Ls xs d 215 71 [l0, l1] (.inl 0 :: st) H := rn_nx rfl rfl
theorem e_M_nameOf_71 : rn Ls xs d 215 71 [l0, l1] st H = rn Ls xs d 215 85 [l0, l1] st H := rn_nx rfl rfl
theorem e_M_nameOf_74 : rn Ls xs d 215 74 [l0, some (.inl x)] st H = rn Ls xs d 215 75 [l0, some (.inl x)] (.inl x :: st) H := rn_nx rfl rfl
theorem e_M_nameOf_75 : rn Ls xs d 215 75 [l0, l1]  st H = rn Ls xs d 215 77 [l0, l1] (.inl 117 :: st) H := rn_nx rfl rfl
theorem e_M_nameOf_77 : rn Ls xs d 215 77 [l0, l1] (.inl y :: .inl x :: st) H = if x ≠ y then rn Ls xs d 215 84 [l0, l1] st H else rn Ls xs d 215 80 [l0, l1] st H := rn_cmp (p := fun x y => x ≠ y) rfl
theorem e_M_nameOf_80 : rn Ls xs d 215 80 [l0, l1]  st H = rn Ls xs d 215 81 [l0, l1] (.inl 1 :: st) H := rn_nx rfl rfl
theorem e_M_nameOf_81 : rn Ls xs d 215 81 [l0, l1] st H = rn Ls xs d 215 85 [l0, l1] st H := rn_nx rfl rfl
theorem e_M_nameOf_84 : rn Ls xs d 215 84 [l0, l1]  st H = rn Ls xs d 215 85 [l0, l1] (.inl (-1) :: st) H := rn_nx rfl rfl
theorem e_M_nameOf_85 : rn Ls xs d 215 85 [l0, l1] [.inl x] H = some (some (.inl x), H) := rn_done rfl rfl
theorem e_M_nameOf_86 : rn Ls xs d 215 86 [l0, some (.inl x)] st H = rn Ls xs d 215 87 [l0, some (.inl x)] (.inl x :: st) H := rn_nx rfl rfl
theorem e_M_nameOf_87 : rn Ls xs d 215 87 [l0, l1]  st H = rn Ls xs d 215 89 [l0, l1] (.inl 109 :: st) H := rn_nx rfl rfl
theorem e_M_nameOf_89 : rn Ls xs d 215 89 [l0, l1] (.inl y :: .inl x :: st) H = if x ≠ y then rn Ls xs d 215 96 [l0, l1] st H else rn Ls xs d 215 92 [l0, l1] st H := rn_cmp (p := fun x y => x ≠ y) rfl
theorem e_M_nameOf_92 : rn Ls xs d 215 92 [l0, l1]  st H = rn Ls xs d 215 93 [l0, l1] (.inl 0 :: st) H := rn_nx rfl rfl
theorem e_M_nameOf_93 : rn Ls xs d 215 93 [l0, l1] st H = rn Ls xs d 215 107 [l0, l1] st H := rn_nx rfl rfl
theorem e_M_nameOf_96 : rn Ls xs d 215 96 [l0, some (.inl x)] st H = rn Ls xs d 215 97 [l0, some (.inl x)] (.inl x :: st) H := rn_nx rfl rfl
theorem e_M_nameOf_97 : rn Ls xs d 215 97 [l0, l1]  st H = rn Ls xs d 215 99 [l0, l1] (.inl 112 :: st) H := rn_nx rfl rfl
theorem e_M_nameOf_99 : rn Ls xs d 215 99 [l0, l1] (.inl y :: .inl x :: st) H = if x ≠ y then rn Ls xs d 215 106 [l0, l1] st H else rn Ls xs d 215 102 [l0, l1] st H := rn_cmp (p := fun x y => x ≠ y) rfl
theorem e_M_nameOf_102 : rn Ls xs d 215 102 [l0, l1]  st H = rn Ls xs d 215 103 [l0, l1] (.inl 1 :: st) H := rn_nx rfl rfl
theorem e_M_nameOf_103 : rn Ls xs d 215 103 [l0, l1] st H = rn Ls xs d 215 107 [l0, l1] st H := rn_nx rfl rfl
theorem e_M_nameOf_106 : rn Ls xs d 215 106 [l0, l1]  st H = rn Ls xs d 215 107 [l0, l1] (.inl (-1) :: st) H := rn_nx rfl rfl
theorem e_M_nameOf_107 : rn Ls xs d 215 107 [l0, l1] [.inl x] H = some (some (.inl x), H) := rn_done rfl rfl
theorem e_JSt_length_0 : rn Ls xs d 216 0 [some (.inr u)] st H = rn Ls xs d 216 1 [some (.inr u)] (.inr u :: st) H := rn_nx rfl rfl
theorem e_JSt_length_1 : rn Ls xs d 216 1 [l0] (.inr (.inr k) :: st) H = if 10 ≤ k ∧ k < 17 then rn Ls xs d 216 4 [l0] (.inr (.inr (k + 10)) :: st) H else none := rn_pc rfl rfl
theorem e_JSt_length_4 : rn Ls xs d 216 4 [l0] (.inr (.inr k) :: st) H = if 20 ≤ k ∧ k < 27 then rn Ls xs d 216 5 [l0] (.inl (Int32.ofNat (c_len.getD (k - 20) 0)) :: st) H else none := rn_pc rfl rfl
theorem e_JSt_length_5 : rn Ls xs d 216 5 [some (.inr u)] st H = rn Ls xs d 216 6 [some (.inr u)] (.inr u :: st) H := rn_nx rfl rfl
theorem e_JSt_length_6 : rn Ls xs (d + 1) 216 6 [l0] [(.inr (.inr k)), v1] H = if 10 ≤ k ∧ k < 17 then rb Ls xs (d + 1) 216 9 [l0] [v1] (rn Ls xs d 221 0 [some (.inr (.inr k))] [] H) else none := rn_callT rfl rfl (Nat.le_of_ble_eq_true rfl) rfl rfl
theorem e_JSt_length_9 : rn Ls xs d 216 9 [l0] (.inl y :: .inl x :: st) H = rn Ls xs d 216 10 [l0] (.inl (x >>> (y &&& 31)) :: st) H := rn_nx rfl rfl
theorem e_JSt_length_10 : rn Ls xs d 216 10 [l0] [.inl x] H = some (some (.inl x), H) := rn_done rfl rfl
theorem e_JSt_charAt_0 : rn Ls xs d 217 0 [some (.inr u), l1] st H = rn Ls xs d 217 1 [some (.inr u), l1] (.inr u :: st) H := rn_nx rfl rfl
theorem e_JSt_charAt_1 : rn Ls xs (d + 1) 217 1 [l0, l1] [(.inr (.inr k))] H = if 10 ≤ k ∧ k < 17 then rb Ls xs (d + 1) 217 4 [l0, l1] [] (rn Ls xs d 222 0 [some (.inr (.inr k))] [] H) else none := rn_callT rfl rfl (Nat.le_of_ble_eq_true rfl) rfl rfl
theorem e_JSt_charAt_4 : rn Ls xs d 217 4 [l0, l1] (.inl x :: st) H = if x = 0 then rn Ls xs d 217 16 [l0, l1] st H else rn Ls xs d 217 7 [l0, l1] st H := rn_if (p := fun x => x = 0) rfl
theorem e_JSt_charAt_7 : rn Ls xs d 217 7 [some (.inr u), l1] st H = rn Ls xs d 217 8 [some (.inr u), l1] (.inr u :: st) H := rn_nx rfl rfl
theorem e_JSt_charAt_8 : rn Ls xs d 217 8 [l0, l1] (.inr (.inr k) :: st) H = if 10 ≤ k ∧ k < 17 then rn Ls xs d 217 11 [l0, l1] (.inr (.inr (k + 10)) :: st) H else none := rn_pc rfl rfl
theorem e_JSt_charAt_11 : rn Ls xs d 217 11 [l0, some (.inl x)] st H = rn Ls xs d 217 12 [l0, some (.inl x)] (.inl x :: st) H := rn_nx rfl rfl
theorem e_JSt_charAt_12 : rn Ls xs (d + 1) 217 12 [l0, l1] [v1, v0] H = rb Ls xs (d + 1) 217 15 [l0, l1] [] (rn Ls xs d 223 0 [some v0, some v1] [] H) := rn_call rfl (Nat.le_of_ble_eq_true rfl) (Nat.le_of_ble_eq_true rfl) rfl rfl
theorem e_JSt_charAt_15 : rn Ls xs d 217 15 [l0, l1] [.inl x] H = if 0 ≤ x.toInt ∧ x.toInt < 65536 then some (some (.inl x), H) else none := rn_cret rfl
theorem e_JSt_charAt_16 : rn Ls xs d 217 16 [some (.inr u), l1] st H = rn Ls xs d 217 17 [some (.inr u), l1] (.inr u :: st) H := rn_nx rfl rfl
theorem e_JSt_charAt_17 : rn Ls xs d 217 17 [l0, l1] (.inr (.inr k) :: st) H = if 10 ≤ k ∧ k < 17 then rn Ls xs d 217 20 [l0, l1] (.inr (.inr (k + 10)) :: st) H else none := rn_pc rfl rfl
theorem e_JSt_charAt_20 : rn Ls xs d 217 20 [l0, some (.inl x)] st H = rn Ls xs d 217 21 [l0, some (.inl x)] (.inl x :: st) H := rn_nx rfl rfl
theorem e_JSt_charAt_24 : rn Ls xs d 217 24 [l0, l1] [.inl x] H = if 0 ≤ x.toInt ∧ x.toInt < 65536 then some (some (.inl x), H) else none := rn_cret rfl
theorem e_R_readNumber_0 : rn Ls xs d 218 0 [some (.inr u), l1, l2] st H = rn Ls xs d 218 1 [some (.inr u), l1, l2] (.inr u :: st) H := rn_nx rfl rfl
theorem e_R_readNumber_1 : rn Ls xs d 218 1 [l0, l1, l2] (.inr (.inl (some a)) :: st) (S, I, R) = if h_is S a 1 10 then rn Ls xs d 218 4 [l0, l1, l2] (.inl (I a 7) :: st) (S, I, R) else none := rn_bc rfl rfl
theorem e_R_readNumber_4 : rn Ls xs d 218 4 [some (.inr u), l1, l2] st H = rn Ls xs d 218 5 [some (.inr u), l1, l2] (.inr u :: st) H := rn_nx rfl rfl
theorem e_R_readNumber_5 : rn Ls xs d 218 5 [l0, l1, l2] (.inr (.inl (some a)) :: st) (S, I, R) = if h_is S a 1 10 then rn Ls xs d 218 8 [l0, l1, l2] (.inl (I a 6) :: st) (S, I, R) else none := rn_bc rfl rfl
theorem e_R_readNumber_8 : rn Ls xs d 218 8 [l0, l1, l2] (.inl y :: .inl x :: st) H = rn Ls xs d 218 9 [l0, l1, l2] (.inl (x - y) :: st) H := rn_nx rfl rfl
theorem e_R_readNumber_9 : rn Ls xs d 218 9 [l0, l1, l2]  st H = rn Ls xs d 218 10 [l0, l1, l2] (.inl 4 :: st) H := rn_nx rfl rfl
theorem e_R_readNumber_10 : rn Ls xs d 218 10 [l0, l1, l2] (.inl y :: .inl x :: st) H = if x ≤ y then rn Ls xs d 218 18 [l0, l1, l2] st H else rn Ls xs d 218 13 [l0, l1, l2] st H := rn_cmp (p := fun x y => x ≤ y) rfl
theorem e_R_readNumber_13 : rn Ls xs d 218 13 [some (.inr u), l1, l2] st H = rn Ls xs d 218 14 [some (.inr u), l1, l2] (.inr u :: st) H := rn_nx rfl rfl
theorem e_R_readNumber_14 : rn Ls xs (d + 1) 218 14 [l0, l1, l2] [(.inr (.inl (some a)))] (S, I, R) = if h_is S a 1 10 then rb Ls xs (d + 1) 218 17 [l0, l1, l2] [] (rn Ls xs d 196 0 [some (.inr (.inl (some a)))] [] (S, I, R)) else none := rn_callO rfl rfl (Nat.le_of_ble_eq_true rfl) rfl rfl
theorem e_R_readNumber_17 : rn Ls xs d 218 17 [l0, l1, l2] [] H = some (none, H) := rn_done rfl rfl
theorem e_R_readNumber_18 : rn Ls xs d 218 18 [l0, l1, l2]  st H = rn Ls xs d 218 19 [l0, l1, l2] (.inl 0 :: st) H := rn_nx rfl rfl
theorem e_R_readNumber_19 : rn Ls xs d 218 19 [l0, l1, l2] (.inl x :: st) H = rn Ls xs d 218 20 [l0, some (.inl x), l2] st H := rn_nx rfl rfl
theorem e_R_readNumber_20 : rn Ls xs d 218 20 [some (.inr u), l1, l2] st H = rn Ls xs d 218 21 [some (.inr u), l1, l2] (.inr u :: st) H := rn_nx rfl rfl
theorem e_R_readNumber_21 : rn Ls xs d 218 21 [l0, l1, l2] (.inr (.inl (some a)) :: st) (S, I, R) = if h_is S a 1 10 then rn Ls xs d 218 24 [l0, l1, l2] (.inl (I a 6) :: st) (S, I, R) else none := rn_bc rfl rfl
theorem e_R_readNumber_24 : rn Ls xs d 218 24 [l0, l1, l2] (.inl x :: st) H = rn Ls xs d 218 25 [l0, l1, some (.inl x)] st H := rn_nx rfl rfl
theorem e_R_readNumber_25 : rn Ls xs d 218 25 [l0, l1, some (.inl x)] st H = rn Ls xs d 218 26 [l0, l1, some (.inl x)] (.inl x :: st) H := rn_nx rfl rfl
theorem e_R_readNumber_26 : rn Ls xs d 218 26 [some (.inr u), l1, l2] st H = rn Ls xs d 218 27 [some (.inr u), l1, l2] (.inr u :: st) H := rn_nx rfl rfl
theorem e_R_readNumber_27 : rn Ls xs d 218 27 [l0, l1, l2] (.inr (.inl (some a)) :: st) (S, I, R) = if h_is S a 1 10 then rn Ls xs d 218 30 [l0, l1, l2] (.inl (I a 7) :: st) (S, I, R) else none := rn_bc rfl rfl
theorem e_R_readNumber_30 : rn Ls xs d 218 30 [l0, l1, l2] (.inl y :: .inl x :: st) H = if y ≤ x then rn Ls xs d 218 57 [l0, l1, l2] st H else rn Ls xs d 218 33 [l0, l1, l2] st H := rn_cmp (p := fun x y => y ≤ x) rfl
theorem e_R_readNumber_33 : rn Ls xs d 218 33 [l0, l1, l2]  st H = rn Ls xs d 218 35 [l0, l1, l2] (.inl 10 :: st) H := rn_nx rfl rfl
theorem e_R_readNumber_35 : rn Ls xs d 218 35 [l0, some (.inl x), l2] st H = rn Ls xs d 218 36 [l0, some (.inl x), l2] (.inl x :: st) H := rn_nx rfl rfl
theorem e_R_readNumber_36 : rn Ls xs d 218 36 [l0, l1, l2] (.inl y :: .inl x :: st) H = rn Ls xs d 218 37 [l0, l1, l2] (.inl (x * y) :: st) H := rn_nx rfl rfl
theorem e_R_readNumber_37 : rn Ls xs d 218 37 [some (.inr u), l1, l2] st H = rn Ls xs d 218 38 [some (.inr u), l1, l2] (.inr u :: st) H := rn_nx rfl rfl
theorem e_R_readNumber_38 : rn Ls xs d 218 38 [l0, l1, l2] (.inr (.inl (some a)) :: st) (S, I, R) = if h_is S a 1 10 then rn Ls xs d 218 41 [l0, l1, l2] (.inr (R a 0) :: st) (S, I, R) else none := rn_bc rfl rfl
theorem e_R_readNumber_41 : rn Ls xs d 218 41 [l0, l1, l2] (.inr (.inl (some a)) :: st) (S, I, R) = if h_is S a 5 2 then rn Ls xs d 218 44 [l0, l1, l2] (.inr (R a 0) :: st) (S, I, R) else none := rn_bc rfl rfl
theorem e_R_readNumber_44 : rn Ls xs d 218 44 [l0, l1, some (.inl x)] st H = rn Ls xs d 218 45 [l0, l1, some (.inl x)] (.inl x :: st) H := rn_nx rfl rfl
theorem e_R_readNumber_45 : rn Ls xs d 218 45 [l0, l1, l2] (.inl i :: .inr (.inl (some a)) :: st) (S, I, R) = if h_ia S a 0 i then rn Ls xs d 218 46 [l0, l1, l2] (.inl (I a i.toNatClampNeg) :: st) (S, I, R) else none := rn_bc rfl rfl
theorem e_R_readNumber_46 : rn Ls xs d 218 46 [l0, l1, l2] (.inl y :: .inl x :: st) H = rn Ls xs d 218 47 [l0, l1, l2] (.inl (x + y) :: st) H := rn_nx rfl rfl
theorem e_R_readNumber_47 : rn Ls xs d 218 47 [l0, l1, l2]  st H = rn Ls xs d 218 49 [l0, l1, l2] (.inl 48 :: st) H := rn_nx rfl rfl
theorem e_R_readNumber_49 : rn Ls xs d 218 49 [l0, l1, l2] (.inl y :: .inl x :: st) H = rn Ls xs d 218 50 [l0, l1, l2] (.inl (x - y) :: st) H := rn_nx rfl rfl
theorem e_R_readNumber_50 : rn Ls xs d 218 50 [l0, l1, l2] (.inl x :: st) H = rn Ls xs d 218 51 [l0, some (.inl x), l2] st H := rn_nx rfl rfl
theorem e_R_readNumber_51 : rn Ls xs d 218 51 [l0, l1, some (.inl x)] st H = rn Ls xs d 218 54 [l0, l1, some (.inl (x + 1))] st H := rn_nx rfl rfl
theorem e_R_readNumber_54 : rn Ls xs d 218 54 [l0, l1, l2] st H = rn Ls xs d 218 25 [l0, l1, l2] st H := rn_nx rfl rfl
theorem e_R_readNumber_57 : rn Ls xs d 218 57 [some (.inr u), l1, l2] st H = rn Ls xs d 218 58 [some (.inr u), l1, l2] (.inr u :: st) H := rn_nx rfl rfl
theorem e_R_readNumber_58 : rn Ls xs d 218 58 [l0, l1, l2] (v :: st) H = rn Ls xs d 218 59 [l0, l1, l2] (v :: v :: st) H := rn_nx rfl rfl
theorem e_R_readNumber_59 : rn Ls xs d 218 59 [l0, l1, l2] (.inr (.inl (some a)) :: st) (S, I, R) = if h_is S a 1 10 then rn Ls xs d 218 62 [l0, l1, l2] (.inl (I a 3) :: st) (S, I, R) else none := rn_bc rfl rfl
theorem e_R_readNumber_62 : rn Ls xs d 218 62 [l0, l1, l2]  st H = rn Ls xs d 218 63 [l0, l1, l2] (.inl 1 :: st) H := rn_nx rfl rfl
theorem e_R_readNumber_63 : rn Ls xs d 218 63 [l0, l1, l2] (.inl y :: .inl x :: st) H = rn Ls xs d 218 64 [l0, l1, l2] (.inl (x + y) :: st) H := rn_nx rfl rfl
theorem e_R_readNumber_64 : rn Ls xs d 218 64 [l0, l1, l2] (.inl x :: .inr (.inl (some a)) :: st) (S, I, R) = if h_is S a 1 10 then rn Ls xs d 218 67 [l0, l1, l2] st (S, va_up I a (upd (I a) 3 x), R) else none := rn_bc rfl rfl
theorem e_R_readNumber_67 : rn Ls xs d 218 67 [some (.inr u), l1, l2] st H = rn Ls xs d 218 68 [some (.inr u), l1, l2] (.inr u :: st) H := rn_nx rfl rfl
theorem e_R_readNumber_68 : rn Ls xs d 218 68 [l0, some (.inl x), l2] st H = rn Ls xs d 218 69 [l0, some (.inl x), l2] (.inl x :: st) H := rn_nx rfl rfl
theorem e_R_readNumber_69 : rn Ls xs (d + 1) 218 69 [l0, l1, l2] [v1, (.inr (.inl (some a)))] (S, I, R) = if h_is S a 1 10 then rb Ls xs (d + 1) 218 72 [l0, l1, l2] [] (rn Ls xs d 214 0 [some (.inr (.inl (some a))), some v1] [] (S, I, R)) else none := rn_callO rfl rfl (Nat.le_of_ble_eq_true rfl) rfl rfl
theorem e_R_readNumber_72 : rn Ls xs d 218 72 [some (.inr u), l1, l2] st H = rn Ls xs d 218 73 [some (.inr u), l1, l2] (.inr u :: st) H := rn_nx rfl rfl
theorem e_R_readNumber_73 : rn Ls xs (d + 1) 218 73 [l0, l1, l2] [(.inr (.inl (some a)))] (S, I, R) = if h_is S a 1 10 then rb Ls xs (d + 1) 218 76 [l0, l1, l2] [] (rn Ls xs d 193 0 [some (.inr (.inl (some a))), none, none] [] (S, I, R)) else none := rn_callO rfl rfl (Nat.le_of_ble_eq_true rfl) rfl rfl
theorem e_R_readNumber_76 : rn Ls xs d 218 76 [l0, l1, l2] [] H = some (none, H) := rn_done rfl rfl
theorem e_R_readName_0 : rn Ls xs d 219 0 [some (.inr u), l1] st H = rn Ls xs d 219 1 [some (.inr u), l1] (.inr u :: st) H := rn_nx rfl rfl
theorem e_R_readName_1 : rn Ls xs d 219 1 [l0, l1] (.inr (.inl (some a)) :: st) (S, I, R) = if h_is S a 1 10 then rn Ls xs d 219 4 [l0, l1] (.inl (I a 7) :: st) (S, I, R) else none := rn_bc rfl rfl
theorem e_R_readName_4 : rn Ls xs d 219 4 [some (.inr u), l1] st H = rn Ls xs d 219 5 [some (.inr u), l1] (.inr u :: st) H := rn_nx rfl rfl
theorem e_R_readName_5 : rn Ls xs d 219 5 [l0, l1] (.inr (.inl (some a)) :: st) (S, I, R) = if h_is S a 1 10 then rn Ls xs d 219 8 [l0, l1] (.inl (I a 6) :: st) (S, I, R) else none := rn_bc rfl rfl
theorem e_R_readName_8 : rn Ls xs d 219 8 [l0, l1] (.inl y :: .inl x :: st) H = rn Ls xs d 219 9 [l0, l1] (.inl (x - y) :: st) H := rn_nx rfl rfl
theorem e_R_readName_9 : rn Ls xs d 219 9 [l0, l1]  st H = rn Ls xs d 219 10 [l0, l1] (.inl 1 :: st) H := rn_nx rfl rfl
theorem e_R_readName_10 : rn Ls xs d 219 10 [l0, l1] (.inl y :: .inl x :: st) H = if x ≠ y then rn Ls xs d 219 36 [l0, l1] st H else rn Ls xs d 219 13 [l0, l1] st H := rn_cmp (p := fun x y => x ≠ y) rfl
theorem e_R_readName_13 : rn Ls xs d 219 13 [some (.inr u), l1] st H = rn Ls xs d 219 14 [some (.inr u), l1] (.inr u :: st) H := rn_nx rfl rfl
theorem e_R_readName_14 : rn Ls xs d 219 14 [l0, l1] (.inr (.inl (some a)) :: st) (S, I, R) = if h_is S a 1 10 then rn Ls xs d 219 17 [l0, l1] (.inr (R a 4) :: st) (S, I, R) else none := rn_bc rfl rfl
theorem e_R_readName_17 : rn Ls xs d 219 17 [some (.inr u), l1] st H = rn Ls xs d 219 18 [some (.inr u), l1] (.inr u :: st) H := rn_nx rfl rfl
theorem e_R_readName_18 : rn Ls xs d 219 18 [l0, l1] (.inr (.inl (some a)) :: st) (S, I, R) = if h_is S a 1 10 then rn Ls xs d 219 21 [l0, l1] (.inr (R a 0) :: st) (S, I, R) else none := rn_bc rfl rfl
theorem e_R_readName_21 : rn Ls xs d 219 21 [l0, l1] (.inr (.inl (some a)) :: st) (S, I, R) = if h_is S a 5 2 then rn Ls xs d 219 24 [l0, l1] (.inr (R a 0) :: st) (S, I, R) else none := rn_bc rfl rfl
theorem e_R_readName_24 : rn Ls xs d 219 24 [some (.inr u), l1] st H = rn Ls xs d 219 25 [some (.inr u), l1] (.inr u :: st) H := rn_nx rfl rfl
theorem e_R_readName_25 : rn Ls xs d 219 25 [l0, l1] (.inr (.inl (some a)) :: st) (S, I, R) = if h_is S a 1 10 then rn Ls xs d 219 28 [l0, l1] (.inl (I a 6) :: st) (S, I, R) else none := rn_bc rfl rfl
theorem e_R_readName_28 : rn Ls xs d 219 28 [l0, l1] (.inl i :: .inr (.inl (some a)) :: st) (S, I, R) = if h_ia S a 0 i then rn Ls xs d 219 29 [l0, l1] (.inl (I a i.toNatClampNeg) :: st) (S, I, R) else none := rn_bc rfl rfl
theorem e_R_readName_29 : rn Ls xs d 219 29 [l0, l1] (.inl x :: st) H = rn Ls xs d 219 30 [l0, l1] (.inl ((x.toUInt32 % 65536).toInt32) :: st) H := rn_nx rfl rfl
theorem e_R_readName_30 : rn Ls xs (d + 1) 219 30 [l0, l1] [v1, (.inr (.inr k))] H = if 10 ≤ k ∧ k < 17 then rb Ls xs (d + 1) 219 33 [l0, l1] [] (rn Ls xs d 224 0 [some (.inr (.inr k)), some v1] [] H) else none := rn_callT rfl rfl (Nat.le_of_ble_eq_true rfl) rfl rfl
theorem e_R_readName_33 : rn Ls xs d 219 33 [l0, l1] st H = rn Ls xs d 219 37 [l0, l1] st H := rn_nx rfl rfl
theorem e_R_readName_36 : rn Ls xs d 219 36 [l0, l1]  st H = rn Ls xs d 219 37 [l0, l1] (.inl (-1) :: st) H := rn_nx rfl rfl
theorem e_R_readName_37 : rn Ls xs d 219 37 [l0, l1] (.inl x :: st) H = rn Ls xs d 219 38 [l0, some (.inl x)] st H := rn_nx rfl rfl
theorem e_R_readName_38 : rn Ls xs d 219 38 [l0, some (.inl x)] st H = rn Ls xs d 219 39 [l0, some (.inl x)] (.inl x :: st) H := rn_nx rfl rfl
theorem e_R_readName_39 : rn Ls xs d 219 39 [l0, l1] (.inl x :: st) H = if 0 ≤ x then rn Ls xs d 219 47 [l0, l1] st H else rn Ls xs d 219 42 [l0, l1] st H := rn_if (p := fun x => 0 ≤ x) rfl
theorem e_R_readName_42 : rn Ls xs d 219 42 [some (.inr u), l1] st H = rn Ls xs d 219 43 [some (.inr u), l1] (.inr u :: st) H := rn_nx rfl rfl
theorem e_R_readName_43 : rn Ls xs (d + 1) 219 43 [l0, l1] [(.inr (.inl (some a)))] (S, I, R) = if h_is S a 1 10 then rb Ls xs (d + 1) 219 46 [l0, l1] [] (rn Ls xs d 196 0 [some (.inr (.inl (some a)))] [] (S, I, R)) else none := rn_callO rfl rfl (Nat.le_of_ble_eq_true rfl) rfl rfl
theorem e_R_readName_46 : rn Ls xs d 219 46 [l0, l1] [] H = some (none, H) := rn_done rfl rfl
theorem e_R_readName_47 : rn Ls xs d 219 47 [some (.inr u), l1] st H = rn Ls xs d 219 48 [some (.inr u), l1] (.inr u :: st) H := rn_nx rfl rfl
theorem e_R_readName_48 : rn Ls xs d 219 48 [l0, l1] (v :: st) H = rn Ls xs d 219 49 [l0, l1] (v :: v :: st) H := rn_nx rfl rfl
theorem e_R_readName_49 : rn Ls xs d 219 49 [l0, l1] (.inr (.inl (some a)) :: st) (S, I, R) = if h_is S a 1 10 then rn Ls xs d 219 52 [l0, l1] (.inl (I a 3) :: st) (S, I, R) else none := rn_bc rfl rfl
theorem e_R_readName_52 : rn Ls xs d 219 52 [l0, l1]  st H = rn Ls xs d 219 53 [l0, l1] (.inl 1 :: st) H := rn_nx rfl rfl
theorem e_R_readName_53 : rn Ls xs d 219 53 [l0, l1] (.inl y :: .inl x :: st) H = rn Ls xs d 219 54 [l0, l1] (.inl (x + y) :: st) H := rn_nx rfl rfl
theorem e_R_readName_54 : rn Ls xs d 219 54 [l0, l1] (.inl x :: .inr (.inl (some a)) :: st) (S, I, R) = if h_is S a 1 10 then rn Ls xs d 219 57 [l0, l1] st (S, va_up I a (upd (I a) 3 x), R) else none := rn_bc rfl rfl
theorem e_R_readName_57 : rn Ls xs d 219 57 [some (.inr u), l1] st H = rn Ls xs d 219 58 [some (.inr u), l1] (.inr u :: st) H := rn_nx rfl rfl
theorem e_R_readName_58 : rn Ls xs d 219 58 [l0, l1]  st H = rn Ls xs d 219 59 [l0, l1] (.inl (-1) :: st) H := rn_nx rfl rfl
theorem e_R_readName_59 : rn Ls xs d 219 59 [l0, some (.inl x)] st H = rn Ls xs d 219 60 [l0, some (.inl x)] (.inl x :: st) H := rn_nx rfl rfl
theorem e_R_readName_60 : rn Ls xs d 219 60 [l0, l1] (.inl y :: .inl x :: st) H = rn Ls xs d 219 61 [l0, l1] (.inl (x - y) :: st) H := rn_nx rfl rfl
theorem e_R_readName_61 : rn Ls xs (d + 1) 219 61 [l0, l1] [v1, (.inr (.inl (some a)))] (S, I, R) = if h_is S a 1 10 then rb Ls xs (d + 1) 219 64 [l0, l1] [] (rn Ls xs d 214 0 [some (.inr (.inl (some a))), some v1] [] (S, I, R)) else none := rn_callO rfl rfl (Nat.le_of_ble_eq_true rfl) rfl rfl
theorem e_R_readName_64 : rn Ls xs d 219 64 [some (.inr u), l1] st H = rn Ls xs d 219 65 [some (.inr u), l1] (.inr u :: st) H := rn_nx rfl rfl
theorem e_R_readName_65 : rn Ls xs (d + 1) 219 65 [l0, l1] [(.inr (.inl (some a)))] (S, I, R) = if h_is S a 1 10 then rb Ls xs (d + 1) 219 68 [l0, l1] [] (rn Ls xs d 193 0 [some (.inr (.inl (some a))), none, none] [] (S, I, R)) else none := rn_callO rfl rfl (Nat.le_of_ble_eq_true rfl) rfl rfl
theorem e_R_readName_68 : rn Ls xs d 219 68 [l0, l1] [] H = some (none, H) := rn_done rfl rfl
theorem e_R_isSign_0 : rn Ls xs d 220 0 [some (.inr u), l1] st H = rn Ls xs d 220 1 [some (.inr u), l1] (.inr u :: st) H := rn_nx rfl rfl
theorem e_R_isSign_1 : rn Ls xs d 220 1 [l0, l1] (.inr (.inl (some a)) :: st) (S, I, R) = if h_is S a 1 10 then rn Ls xs d 220 4 [l0, l1] (.inl (I a 5) :: st) (S, I, R) else none := rn_bc rfl rfl
theorem e_R_isSign_4 : rn Ls xs d 220 4 [l0, l1] (.inl x :: st) H = if x ≠ 0 then rn Ls xs d 220 27 [l0, l1] st H else rn Ls xs d 220 7 [l0, l1] st H := rn_if (p := fun x => x ≠ 0) rfl
theorem e_R_isSign_7 : rn Ls xs d 220 7 [some (.inr u), l1] st H = rn Ls xs d 220 8 [some (.inr u), l1] (.inr u :: st) H := rn_nx rfl rfl
theorem e_R_isSign_8 : rn Ls xs d 220 8 [l0, l1] (.inr (.inl (some a)) :: st) (S, I, R) = if h_is S a 1 10 then rn Ls xs d 220 11 [l0, l1] (.inr (R a 0) :: st) (S, I, R) else none := rn_bc rfl rfl
theorem e_R_isSign_11 : rn Ls xs d 220 11 [l0, l1] (.inr (.inl (some a)) :: st) (S, I, R) = if h_is S a 5 2 then rn Ls xs d 220 14 [l0, l1] (.inr (R a 0) :: st) (S, I, R) else none := rn_bc rfl rfl
theorem e_R_isSign_14 : rn Ls xs d 220 14 [some (.inr u), l1] st H = rn Ls xs d 220 15 [some (.inr u), l1] (.inr u :: st) H := rn_nx rfl rfl
theorem e_R_isSign_15 : rn Ls xs d 220 15 [l0, l1] (.inr (.inl (some a)) :: st) (S, I, R) = if h_is S a 1 10 then rn Ls xs d 220 18 [l0, l1] (.inl (I a 6) :: st) (S, I, R) else none := rn_bc rfl rfl
theorem e_R_isSign_18 : rn Ls xs d 220 18 [l0, l1] (.inl i :: .inr (.inl (some a)) :: st) (S, I, R) = if h_ia S a 0 i then rn Ls xs d 220 19 [l0, l1] (.inl (I a i.toNatClampNeg) :: st) (S, I, R) else none := rn_bc rfl rfl
theorem e_R_isSign_19 : rn Ls xs d 220 19 [l0, some (.inl x)] st H = rn Ls xs d 220 20 [l0, some (.inl x)] (.inl x :: st) H := rn_nx rfl rfl
theorem e_R_isSign_20 : rn Ls xs d 220 20 [l0, l1] (.inl y :: .inl x :: st) H = if x ≠ y then rn Ls xs d 220 27 [l0, l1] st H else rn Ls xs d 220 23 [l0, l1] st H := rn_cmp (p := fun x y => x ≠ y) rfl
theorem e_R_isSign_23 : rn Ls xs d 220 23 [l0, l1]  st H = rn Ls xs d 220 24 [l0, l1] (.inl 1 :: st) H := rn_nx rfl rfl
theorem e_R_isSign_24 : rn Ls xs d 220 24 [l0, l1] st H = rn Ls xs d 220 28 [l0, l1] st H := rn_nx rfl rfl
theorem e_R_isSign_27 : rn Ls xs d 220 27 [l0, l1]  st H = rn Ls xs d 220 28 [l0, l1] (.inl 0 :: st) H := rn_nx rfl rfl
theorem e_R_isSign_28 : rn Ls xs d 220 28 [l0, l1] [.inl x] H = if h_bo x then some (some (.inl x), H) else none := rn_zret rfl
theorem e_JSt_coder_0 : rn Ls xs d 221 0 [l0]  st H = rn Ls xs d 221 3 [l0] (.inl 1 :: st) H := rn_nx rfl rfl
theorem e_JSt_coder_3 : rn Ls xs d 221 3 [l0] (.inl x :: st) H = if x = 0 then rn Ls xs d 221 13 [l0] st H else rn Ls xs d 221 6 [l0] st H := rn_if (p := fun x => x = 0) rfl
theorem e_JSt_coder_6 : rn Ls xs d 221 6 [some (.inr u)] st H = rn Ls xs d 221 7 [some (.inr u)] (.inr u :: st) H := rn_nx rfl rfl
theorem e_JSt_coder_7 : rn Ls xs d 221 7 [l0] (.inr (.inr k) :: st) H = if 10 ≤ k ∧ k < 17 then rn Ls xs d 221 10 [l0] (.inl 0 :: st) H else none := rn_pc rfl rfl
theorem e_JSt_coder_10 : rn Ls xs d 221 10 [l0] st H = rn Ls xs d 221 14 [l0] st H := rn_nx rfl rfl
theorem e_JSt_coder_13 : rn Ls xs d 221 13 [l0]  st H = rn Ls xs d 221 14 [l0] (.inl 1 :: st) H := rn_nx rfl rfl
theorem e_JSt_coder_14 : rn Ls xs d 221 14 [l0] [.inl x] H = if h_bo x then some (some (.inl x), H) else none := rn_zret rfl
theorem e_JSt_isLatin1_0 : rn Ls xs d 222 0 [l0]  st H = rn Ls xs d 222 3 [l0] (.inl 1 :: st) H := rn_nx rfl rfl
theorem e_JSt_isLatin1_3 : rn Ls xs d 222 3 [l0] (.inl x :: st) H = if x = 0 then rn Ls xs d 222 17 [l0] st H else rn Ls xs d 222 6 [l0] st H := rn_if (p := fun x => x = 0) rfl
theorem e_JSt_isLatin1_6 : rn Ls xs d 222 6 [some (.inr u)] st H = rn Ls xs d 222 7 [some (.inr u)] (.inr u :: st) H := rn_nx rfl rfl
theorem e_JSt_isLatin1_7 : rn Ls xs d 222 7 [l0] (.inr (.inr k) :: st) H = if 10 ≤ k ∧ k < 17 then rn Ls xs d 222 10 [l0] (.inl 0 :: st) H else none := rn_pc rfl rfl
theorem e_JSt_isLatin1_10 : rn Ls xs d 222 10 [l0] (.inl x :: st) H = if x ≠ 0 then rn Ls xs d 222 17 [l0] st H else rn Ls xs d 222 13 [l0] st H := rn_if (p := fun x => x ≠ 0) rfl
theorem e_JSt_isLatin1_13 : rn Ls xs d 222 13 [l0]  st H = rn Ls xs d 222 14 [l0] (.inl 1 :: st) H := rn_nx rfl rfl
theorem e_JSt_isLatin1_14 : rn Ls xs d 222 14 [l0] st H = rn Ls xs d 222 18 [l0] st H := rn_nx rfl rfl
theorem e_JSt_isLatin1_17 : rn Ls xs d 222 17 [l0]  st H = rn Ls xs d 222 18 [l0] (.inl 0 :: st) H := rn_nx rfl rfl
theorem e_JSt_isLatin1_18 : rn Ls xs d 222 18 [l0] [.inl x] H = if h_bo x then some (some (.inl x), H) else none := rn_zret rfl
theorem e_JStL_charAt_0 : rn Ls xs d 223 0 [l0, some (.inl x)] st H = rn Ls xs d 223 1 [l0, some (.inl x)] (.inl x :: st) H := rn_nx rfl rfl
theorem e_JStL_charAt_1 : rn Ls xs d 223 1 [some (.inr u), l1] st H = rn Ls xs d 223 2 [some (.inr u), l1] (.inr u :: st) H := rn_nx rfl rfl
theorem e_JStL_charAt_2 : rn Ls xs d 223 2 [l0, l1] (.inr (.inr k) :: st) H = if 20 ≤ k ∧ k < 27 then rn Ls xs d 223 3 [l0, l1] (.inl (Int32.ofNat (c_len.getD (k - 20) 0)) :: st) H else none := rn_pc rfl rfl
theorem e_JStL_charAt_3 : rn Ls xs (d + 1) 223 3 [l0, l1] [v1, v0] H = rb Ls xs (d + 1) 223 6 [l0, l1] [] (rn Ls xs d 225 0 [some v0, some v1] [] H) := rn_call rfl (Nat.le_of_ble_eq_true rfl) (Nat.le_of_ble_eq_true rfl) rfl rfl
theorem e_JStL_charAt_6 : rn Ls xs d 223 6 [some (.inr u), l1] st H = rn Ls xs d 223 7 [some (.inr u), l1] (.inr u :: st) H := rn_nx rfl rfl
theorem e_JStL_charAt_7 : rn Ls xs d 223 7 [l0, some (.inl x)] st H = rn Ls xs d 223 8 [l0, some (.inl x)] (.inl x :: st) H := rn_nx rfl rfl
theorem e_JStL_charAt_8 : rn Ls xs d 223 8 [l0, l1] (.inl i :: .inr (.inr k) :: st) H = if (20 ≤ k ∧ k < 27) ∧ 0 ≤ i.toInt ∧ i.toInt < (c_len.getD (k - 20) 0 : Int) then rn Ls xs d 223 9 [l0, l1] (.inl ((c_byt.getD (k - 20) []).getD i.toNatClampNeg 0) :: st) H else none := rn_pc rfl rfl
theorem e_JStL_charAt_9 : rn Ls xs d 223 9 [l0, l1]  st H = rn Ls xs d 223 12 [l0, l1] (.inl 255 :: st) H := rn_nx rfl rfl
theorem e_JStL_charAt_12 : rn Ls xs d 223 12 [l0, l1] (.inl y :: .inl x :: st) H = rn Ls xs d 223 13 [l0, l1] (.inl (x &&& y) :: st) H := rn_nx rfl rfl
theorem e_JStL_charAt_13 : rn Ls xs d 223 13 [l0, l1] (.inl x :: st) H = rn Ls xs d 223 14 [l0, l1] (.inl ((x.toUInt32 % 65536).toInt32) :: st) H := rn_nx rfl rfl
theorem e_JStL_charAt_14 : rn Ls xs d 223 14 [l0, l1] [.inl x] H = if 0 ≤ x.toInt ∧ x.toInt < 65536 then some (some (.inl x), H) else none := rn_cret rfl
theorem e_JSt_indexOf_0 : rn Ls xs d 224 0 [some (.inr u), l1] st H = rn Ls xs d 224 1 [some (.inr u), l1] (.inr u :: st) H := rn_nx rfl rfl
theorem e_JSt_indexOf_1 : rn Ls xs d 224 1 [l0, some (.inl x)] st H = rn Ls xs d 224 2 [l0, some (.inl x)] (.inl x :: st) H := rn_nx rfl rfl
theorem e_JSt_indexOf_2 : rn Ls xs d 224 2 [l0, l1]  st H = rn Ls xs d 224 3 [l0, l1] (.inl 0 :: st) H := rn_nx rfl rfl
theorem e_JSt_indexOf_3 : rn Ls xs (d + 1) 224 3 [l0, l1] [v2, v1, (.inr (.inr k))] H = if 10 ≤ k ∧ k < 17 then rb Ls xs (d + 1) 224 6 [l0, l1] [] (rn Ls xs d 226 0 [some (.inr (.inr k)), some v1, some v2] [] H) else none := rn_callT rfl rfl (Nat.le_of_ble_eq_true rfl) rfl rfl
theorem e_JSt_indexOf_6 : rn Ls xs d 224 6 [l0, l1] [.inl x] H = some (some (.inl x), H) := rn_done rfl rfl
theorem e_JSt_checkIndex_0 : rn Ls xs d 225 0 [some (.inl x), l1] st H = rn Ls xs d 225 1 [some (.inl x), l1] (.inl x :: st) H := rn_nx rfl rfl
theorem e_JSt_checkIndex_1 : rn Ls xs d 225 1 [l0, some (.inl x)] st H = rn Ls xs d 225 2 [l0, some (.inl x)] (.inl x :: st) H := rn_nx rfl rfl
theorem e_JSt_checkIndex_2 : rn Ls xs d 225 2 [l0, l1] st H = rn Ls xs d 225 5 [l0, l1] (.inr (.inr 2) :: st) H := rn_nx rfl rfl
theorem e_JSt_checkIndex_5 : rn Ls xs (d + 1) 225 5 [l0, l1] [v2, v1, v0] H = rb Ls xs (d + 1) 225 8 [l0, l1] [] (rn Ls xs d 227 0 [some v0, some v1, some v2] [] H) := rn_call rfl (Nat.le_of_ble_eq_true rfl) (Nat.le_of_ble_eq_true rfl) rfl rfl
theorem e_JSt_checkIndex_8 : rn Ls xs d 225 8 [l0, l1] (v :: st) H = rn Ls xs d 225 9 [l0, l1] st H := rn_nx rfl rfl
theorem e_JSt_checkIndex_9 : rn Ls xs d 225 9 [l0, l1] [] H = some (none, H) := rn_done rfl rfl
theorem e_JSt_indexOf2_0 : rn Ls xs d 226 0 [some (.inr u), l1, l2] st H = rn Ls xs d 226 1 [some (.inr u), l1, l2] (.inr u :: st) H := rn_nx rfl rfl
theorem e_JSt_indexOf2_1 : rn Ls xs (d + 1) 226 1 [l0, l1, l2] [(.inr (.inr k))] H = if 10 ≤ k ∧ k < 17 then rb Ls xs (d + 1) 226 4 [l0, l1, l2] [] (rn Ls xs d 222 0 [some (.inr (.inr k))] [] H) else none := rn_callT rfl rfl (Nat.le_of_ble_eq_true rfl) rfl rfl
theorem e_JSt_indexOf2_4 : rn Ls xs d 226 4 [l0, l1, l2] (.inl x :: st) H = if x = 0 then rn Ls xs d 226 23 [l0, l1, l2] st H else rn Ls xs d 226 7 [l0, l1, l2] st H := rn_if (p := fun x => x = 0) rfl
theorem e_JSt_indexOf2_7 : rn Ls xs d 226 7 [some (.inr u), l1, l2] st H = rn Ls xs d 226 8 [some (.inr u), l1, l2] (.inr u :: st) H := rn_nx rfl rfl
theorem e_JSt_indexOf2_8 : rn Ls xs d 226 8 [l0, l1, l2] (.inr (.inr k) :: st) H = if 10 ≤ k ∧ k < 17 then rn Ls xs d 226 11 [l0, l1, l2] (.inr (.inr (k + 10)) :: st) H else none := rn_pc rfl rfl
theorem e_JSt_indexOf2_11 : rn Ls xs d 226 11 [l0, some (.inl x), l2] st H = rn Ls xs d 226 12 [l0, some (.inl x), l2] (.inl x :: st) H := rn_nx rfl rfl
theorem e_JSt_indexOf2_12 : rn Ls xs d 226 12 [l0, l1, some (.inl x)] st H = rn Ls xs d 226 13 [l0, l1, some (.inl x)] (.inl x :: st) H := rn_nx rfl rfl
theorem e_JSt_indexOf2_13 : rn Ls xs d 226 13 [some (.inr u), l1, l2] st H = rn Ls xs d 226 14 [some (.inr u), l1, l2] (.inr u :: st) H := rn_nx rfl rfl
theorem e_JSt_indexOf2_14 : rn Ls xs (d + 1) 226 14 [l0, l1, l2] [(.inr (.inr k)), v1, v2, v3] H = if 10 ≤ k ∧ k < 17 then rb Ls xs (d + 1) 226 17 [l0, l1, l2] [v1, v2, v3] (rn Ls xs d 216 0 [some (.inr (.inr k))] [] H) else none := rn_callT rfl rfl (Nat.le_of_ble_eq_true rfl) rfl rfl
theorem e_JSt_indexOf2_17 : rn Ls xs (d + 1) 226 17 [l0, l1, l2] [v3, v2, v1, v0] H = rb Ls xs (d + 1) 226 20 [l0, l1, l2] [] (rn Ls xs d 228 0 [some v0, some v1, some v2, some v3] [] H) := rn_call rfl (Nat.le_of_ble_eq_true rfl) (Nat.le_of_ble_eq_true rfl) rfl rfl
theorem e_JSt_indexOf2_20 : rn Ls xs d 226 20 [l0, l1, l2] st H = rn Ls xs d 226 36 [l0, l1, l2] st H := rn_nx rfl rfl
theorem e_JSt_indexOf2_23 : rn Ls xs d 226 23 [some (.inr u), l1, l2] st H = rn Ls xs d 226 24 [some (.inr u), l1, l2] (.inr u :: st) H := rn_nx rfl rfl
theorem e_JSt_indexOf2_24 : rn Ls xs d 226 24 [l0, l1, l2] (.inr (.inr k) :: st) H = if 10 ≤ k ∧ k < 17 then rn Ls xs d 226 27 [l0, l1, l2] (.inr (.inr (k + 10)) :: st) H else none := rn_pc rfl rfl
theorem e_JSt_indexOf2_27 : rn Ls xs d 226 27 [l0, some (.inl x), l2] st H = rn Ls xs d 226 28 [l0, some (.inl x), l2] (.inl x :: st) H := rn_nx rfl rfl
theorem e_JSt_indexOf2_28 : rn Ls xs d 226 28 [l0, l1, some (.inl x)] st H = rn Ls xs d 226 29 [l0, l1, some (.inl x)] (.inl x :: st) H := rn_nx rfl rfl
theorem e_JSt_indexOf2_29 : rn Ls xs d 226 29 [some (.inr u), l1, l2] st H = rn Ls xs d 226 30 [some (.inr u), l1, l2] (.inr u :: st) H := rn_nx rfl rfl
theorem e_JSt_indexOf2_30 : rn Ls xs (d + 1) 226 30 [l0, l1, l2] [(.inr (.inr k)), v1, v2, v3] H = if 10 ≤ k ∧ k < 17 then rb Ls xs (d + 1) 226 33 [l0, l1, l2] [v1, v2, v3] (rn Ls xs d 216 0 [some (.inr (.inr k))] [] H) else none := rn_callT rfl rfl (Nat.le_of_ble_eq_true rfl) rfl rfl
theorem e_JSt_indexOf2_36 : rn Ls xs d 226 36 [l0, l1, l2] [.inl x] H = some (some (.inl x), H) := rn_done rfl rfl
theorem e_JPreconditions_checkIndex_0 : rn Ls xs d 227 0 [some (.inl x), l1, l2] st H = rn Ls xs d 227 1 [some (.inl x), l1, l2] (.inl x :: st) H := rn_nx rfl rfl
theorem e_JPreconditions_checkIndex_1 : rn Ls xs d 227 1 [l0, l1, l2] (.inl x :: st) H = if x < 0 then rn Ls xs d 227 9 [l0, l1, l2] st H else rn Ls xs d 227 4 [l0, l1, l2] st H := rn_if (p := fun x => x < 0) rfl
theorem e_JPreconditions_checkIndex_4 : rn Ls xs d 227 4 [some (.inl x), l1, l2] st H = rn Ls xs d 227 5 [some (.inl x), l1, l2] (.inl x :: st) H := rn_nx rfl rfl
theorem e_JPreconditions_checkIndex_5 : rn Ls xs d 227 5 [l0, some (.inl x), l2] st H = rn Ls xs d 227 6 [l0, some (.inl x), l2] (.inl x :: st) H := rn_nx rfl rfl
theorem e_JPreconditions_checkIndex_6 : rn Ls xs d 227 6 [l0, l1, l2] (.inl y :: .inl x :: st) H = if x < y then rn Ls xs d 227 16 [l0, l1, l2] st H else rn Ls xs d 227 9 [l0, l1, l2] st H := rn_cmp (p := fun x y => x < y) rfl
theorem e_JPreconditions_checkIndex_9 : rn Ls xs d 227 9 [l0, l1, some (.inr u)] st H = rn Ls xs d 227 10 [l0, l1, some (.inr u)] (.inr u :: st) H := rn_nx rfl rfl
theorem e_JPreconditions_checkIndex_10 : rn Ls xs d 227 10 [some (.inl x), l1, l2] st H = rn Ls xs d 227 11 [some (.inl x), l1, l2] (.inl x :: st) H := rn_nx rfl rfl
theorem e_JPreconditions_checkIndex_11 : rn Ls xs d 227 11 [l0, some (.inl x), l2] st H = rn Ls xs d 227 12 [l0, some (.inl x), l2] (.inl x :: st) H := rn_nx rfl rfl
theorem e_JPreconditions_checkIndex_16 : rn Ls xs d 227 16 [some (.inl x), l1, l2] st H = rn Ls xs d 227 17 [some (.inl x), l1, l2] (.inl x :: st) H := rn_nx rfl rfl
theorem e_JPreconditions_checkIndex_17 : rn Ls xs d 227 17 [l0, l1, l2] [.inl x] H = some (some (.inl x), H) := rn_done rfl rfl
theorem e_JStL_indexOf_0 : rn Ls xs d 228 0 [l0, some (.inl x), l2, l3] st H = rn Ls xs d 228 1 [l0, some (.inl x), l2, l3] (.inl x :: st) H := rn_nx rfl rfl
theorem e_JStL_indexOf_1 : rn Ls xs (d + 1) 228 1 [l0, l1, l2, l3] [v0] H = rb Ls xs (d + 1) 228 4 [l0, l1, l2, l3] [] (rn Ls xs d 229 0 [some v0] [] H) := rn_call rfl (Nat.le_of_ble_eq_true rfl) (Nat.le_of_ble_eq_true rfl) rfl rfl
theorem e_JStL_indexOf_4 : rn Ls xs d 228 4 [l0, l1, l2, l3] (.inl x :: st) H = if x ≠ 0 then rn Ls xs d 228 9 [l0, l1, l2, l3] st H else rn Ls xs d 228 7 [l0, l1, l2, l3] st H := rn_if (p := fun x => x ≠ 0) rfl
theorem e_JStL_indexOf_7 : rn Ls xs d 228 7 [l0, l1, l2, l3]  st H = rn Ls xs d 228 8 [l0, l1, l2, l3] (.inl (-1) :: st) H := rn_nx rfl rfl
theorem e_JStL_indexOf_8 : rn Ls xs d 228 8 [l0, l1, l2, l3] [.inl x] H = some (some (.inl x), H) := rn_done rfl rfl
theorem e_JStL_indexOf_9 : rn Ls xs d 228 9 [l0, l1, some (.inl x), l3] st H = rn Ls xs d 228 10 [l0, l1, some (.inl x), l3] (.inl x :: st) H := rn_nx rfl rfl
theorem e_JStL_indexOf_10 : rn Ls xs d 228 10 [l0, l1, l2, l3]  st H = rn Ls xs d 228 11 [l0, l1, l2, l3] (.inl 0 :: st) H := rn_nx rfl rfl
theorem e_JStL_indexOf_11 : rn Ls xs (d + 1) 228 11 [l0, l1, l2, l3] [v1, v0] H = rb Ls xs (d + 1) 228 14 [l0, l1, l2, l3] [] (rn Ls xs d 206 0 [some v0, some v1] [] H) := rn_call rfl (Nat.le_of_ble_eq_true rfl) (Nat.le_of_ble_eq_true rfl) rfl rfl
theorem e_JStL_indexOf_14 : rn Ls xs d 228 14 [l0, l1, l2, l3] (.inl x :: st) H = rn Ls xs d 228 15 [l0, l1, some (.inl x), l3] st H := rn_nx rfl rfl
theorem e_JStL_indexOf_15 : rn Ls xs d 228 15 [l0, l1, l2, some (.inl x)] st H = rn Ls xs d 228 16 [l0, l1, l2, some (.inl x)] (.inl x :: st) H := rn_nx rfl rfl
theorem e_JStL_indexOf_16 : rn Ls xs d 228 16 [some (.inr u), l1, l2, l3] st H = rn Ls xs d 228 17 [some (.inr u), l1, l2, l3] (.inr u :: st) H := rn_nx rfl rfl
theorem e_JStL_indexOf_17 : rn Ls xs d 228 17 [l0, l1, l2, l3] (.inr (.inr k) :: st) H = if 20 ≤ k ∧ k < 27 then rn Ls xs d 228 18 [l0, l1, l2, l3] (.inl (Int32.ofNat (c_len.getD (k - 20) 0)) :: st) H else none := rn_pc rfl rfl
theorem e_JStL_indexOf_18 : rn Ls xs (d + 1) 228 18 [l0, l1, l2, l3] [v1, v0] H = rb Ls xs (d + 1) 228 21 [l0, l1, l2, l3] [] (rn Ls xs d 116 0 [some v0, some v1] [] H) := rn_call rfl (Nat.le_of_ble_eq_true rfl) (Nat.le_of_ble_eq_true rfl) rfl rfl
theorem e_JStL_indexOf_21 : rn Ls xs d 228 21 [l0, l1, l2, l3] (.inl x :: st) H = rn Ls xs d 228 22 [l0, l1, l2, some (.inl x)] st H := rn_nx rfl rfl
theorem e_JStL_indexOf_22 : rn Ls xs d 228 22 [l0, l1, some (.inl x), l3] st H = rn Ls xs d 228 23 [l0, l1, some (.inl x), l3] (.inl x :: st) H := rn_nx rfl rfl
theorem e_JStL_indexOf_23 : rn Ls xs d 228 23 [l0, l1, l2, some (.inl x)] st H = rn Ls xs d 228 24 [l0, l1, l2, some (.inl x)] (.inl x :: st) H := rn_nx rfl rfl
theorem e_JStL_indexOf_24 : rn Ls xs d 228 24 [l0, l1, l2, l3] (.inl y :: .inl x :: st) H = if x < y then rn Ls xs d 228 29 [l0, l1, l2, l3] st H else rn Ls xs d 228 27 [l0, l1, l2, l3] st H := rn_cmp (p := fun x y => x < y) rfl
theorem e_JStL_indexOf_27 : rn Ls xs d 228 27 [l0, l1, l2, l3]  st H = rn Ls xs d 228 28 [l0, l1, l2, l3] (.inl (-1) :: st) H := rn_nx rfl rfl
theorem e_JStL_indexOf_28 : rn Ls xs d 228 28 [l0, l1, l2, l3] [.inl x] H = some (some (.inl x), H) := rn_done rfl rfl
theorem e_JStL_indexOf_29 : rn Ls xs d 228 29 [some (.inr u), l1, l2, l3] st H = rn Ls xs d 228 30 [some (.inr u), l1, l2, l3] (.inr u :: st) H := rn_nx rfl rfl
theorem e_JStL_indexOf_30 : rn Ls xs d 228 30 [l0, some (.inl x), l2, l3] st H = rn Ls xs d 228 31 [l0, some (.inl x), l2, l3] (.inl x :: st) H := rn_nx rfl rfl
theorem e_JStL_indexOf_31 : rn Ls xs d 228 31 [l0, l1, some (.inl x), l3] st H = rn Ls xs d 228 32 [l0, l1, some (.inl x), l3] (.inl x :: st) H := rn_nx rfl rfl
theorem e_JStL_indexOf_32 : rn Ls xs d 228 32 [l0, l1, l2, some (.inl x)] st H = rn Ls xs d 228 33 [l0, l1, l2, some (.inl x)] (.inl x :: st) H := rn_nx rfl rfl
theorem e_JStL_indexOf_33 : rn Ls xs (d + 1) 228 33 [l0, l1, l2, l3] [v3, v2, v1, v0] H = rb Ls xs (d + 1) 228 36 [l0, l1, l2, l3] [] (rn Ls xs d 230 0 [some v0, some v1, some v2, some v3, none, none] [] H) := rn_call rfl (Nat.le_of_ble_eq_true rfl) (Nat.le_of_ble_eq_true rfl) rfl rfl
theorem e_JStL_indexOf_36 : rn Ls xs d 228 36 [l0, l1, l2, l3] [.inl x] H = some (some (.inl x), H) := rn_done rfl rfl
theorem e_JStL_canEncode_0 : rn Ls xs d 229 0 [some (.inl x)] st H = rn Ls xs d 229 1 [some (.inl x)] (.inl x :: st) H := rn_nx rfl rfl
theorem e_JStL_canEncode_1 : rn Ls xs d 229 1 [l0] (.inl x :: st) H = if x < 0 then rn Ls xs d 229 15 [l0] st H else rn Ls xs d 229 4 [l0] st H := rn_if (p := fun x => x < 0) rfl
theorem e_JStL_canEncode_4 : rn Ls xs d 229 4 [some (.inl x)] st H = rn Ls xs d 229 5 [some (.inl x)] (.inl x :: st) H := rn_nx rfl rfl
theorem e_JStL_canEncode_5 : rn Ls xs d 229 5 [l0]  st H = rn Ls xs d 229 8 [l0] (.inl 255 :: st) H := rn_nx rfl rfl
theorem e_JStL_canEncode_8 : rn Ls xs d 229 8 [l0] (.inl y :: .inl x :: st) H = if y < x then rn Ls xs d 229 15 [l0] st H else rn Ls xs d 229 11 [l0] st H := rn_cmp (p := fun x y => y < x) rfl
theorem e_JStL_canEncode_11 : rn Ls xs d 229 11 [l0]  st H = rn Ls xs d 229 12 [l0] (.inl 1 :: st) H := rn_nx rfl rfl
theorem e_JStL_canEncode_12 : rn Ls xs d 229 12 [l0] st H = rn Ls xs d 229 16 [l0] st H := rn_nx rfl rfl
theorem e_JStL_canEncode_15 : rn Ls xs d 229 15 [l0]  st H = rn Ls xs d 229 16 [l0] (.inl 0 :: st) H := rn_nx rfl rfl
theorem e_JStL_canEncode_16 : rn Ls xs d 229 16 [l0] [.inl x] H = if h_bo x then some (some (.inl x), H) else none := rn_zret rfl
theorem e_JStL_indexOfChar_0 : rn Ls xs d 230 0 [l0, some (.inl x), l2, l3, l4, l5] st H = rn Ls xs d 230 1 [l0, some (.inl x), l2, l3, l4, l5] (.inl x :: st) H := rn_nx rfl rfl
theorem e_JStL_indexOfChar_1 : rn Ls xs d 230 1 [l0, l1, l2, l3, l4, l5] (.inl x :: st) H = rn Ls xs d 230 2 [l0, l1, l2, l3, l4, l5] (.inl (x.toInt8.toInt32) :: st) H := rn_nx rfl rfl
theorem e_JStL_indexOfChar_2 : rn Ls xs d 230 2 [l0, l1, l2, l3, l4, l5] (.inl x :: st) H = rn Ls xs d 230 4 [l0, l1, l2, l3, some (.inl x), l5] st H := rn_nx rfl rfl
theorem e_JStL_indexOfChar_4 : rn Ls xs d 230 4 [l0, l1, some (.inl x), l3, l4, l5] st H = rn Ls xs d 230 5 [l0, l1, some (.inl x), l3, l4, l5] (.inl x :: st) H := rn_nx rfl rfl
theorem e_JStL_indexOfChar_5 : rn Ls xs d 230 5 [l0, l1, l2, l3, l4, l5] (.inl x :: st) H = rn Ls xs d 230 7 [l0, l1, l2, l3, l4, some (.inl x)] st H := rn_nx rfl rfl
theorem e_JStL_indexOfChar_7 : rn Ls xs d 230 7 [l0, l1, l2, l3, l4, some (.inl x)] st H = rn Ls xs d 230 9 [l0, l1, l2, l3, l4, some (.inl x)] (.inl x :: st) H := rn_nx rfl rfl
theorem e_JStL_indexOfChar_9 : rn Ls xs d 230 9 [l0, l1, l2, some (.inl x), l4, l5] st H = rn Ls xs d 230 10 [l0, l1, l2, some (.inl x), l4, l5] (.inl x :: st) H := rn_nx rfl rfl
theorem e_JStL_indexOfChar_10 : rn Ls xs d 230 10 [l0, l1, l2, l3, l4, l5] (.inl y :: .inl x :: st) H = if y ≤ x then rn Ls xs d 230 31 [l0, l1, l2, l3, l4, l5] st H else rn Ls xs d 230 13 [l0, l1, l2, l3, l4, l5] st H := rn_cmp (p := fun x y => y ≤ x) rfl
theorem e_JStL_indexOfChar_13 : rn Ls xs d 230 13 [some (.inr u), l1, l2, l3, l4, l5] st H = rn Ls xs d 230 14 [some (.inr u), l1, l2, l3, l4, l5] (.inr u :: st) H := rn_nx rfl rfl
theorem e_JStL_indexOfChar_14 : rn Ls xs d 230 14 [l0, l1, l2, l3, l4, some (.inl x)] st H = rn Ls xs d 230 16 [l0, l1, l2, l3, l4, some (.inl x)] (.inl x :: st) H := rn_nx rfl rfl
theorem e_JStL_indexOfChar_16 : rn Ls xs d 230 16 [l0, l1, l2, l3, l4, l5] (.inl i :: .inr (.inr k) :: st) H = if (20 ≤ k ∧ k < 27) ∧ 0 ≤ i.toInt ∧ i.toInt < (c_len.getD (k - 20) 0 : Int) then rn Ls xs d 230 17 [l0, l1, l2, l3, l4, l5] (.inl ((c_byt.getD (k - 20) []).getD i.toNatClampNeg 0) :: st) H else none := rn_pc rfl rfl
theorem e_JStL_indexOfChar_17 : rn Ls xs d 230 17 [l0, l1, l2, l3, some (.inl x), l5] st H = rn Ls xs d 230 19 [l0, l1, l2, l3, some (.inl x), l5] (.inl x :: st) H := rn_nx rfl rfl
theorem e_JStL_indexOfChar_19 : rn Ls xs d 230 19 [l0, l1, l2, l3, l4, l5] (.inl y :: .inl x :: st) H = if x ≠ y then rn Ls xs d 230 25 [l0, l1, l2, l3, l4, l5] st H else rn Ls xs d 230 22 [l0, l1, l2, l3, l4, l5] st H := rn_cmp (p := fun x y => x ≠ y) rfl
theorem e_JStL_indexOfChar_22 : rn Ls xs d 230 22 [l0, l1, l2, l3, l4, some (.inl x)] st H = rn Ls xs d 230 24 [l0, l1, l2, l3, l4, some (.inl x)] (.inl x :: st) H := rn_nx rfl rfl
theorem e_JStL_indexOfChar_24 : rn Ls xs d 230 24 [l0, l1, l2, l3, l4, l5] [.inl x] H = some (some (.inl x), H) := rn_done rfl rfl
theorem e_JStL_indexOfChar_25 : rn Ls xs d 230 25 [l0, l1, l2, l3, l4, some (.inl x)] st H = rn Ls xs d 230 28 [l0, l1, l2, l3, l4, some (.inl (x + 1))] st H := rn_nx rfl rfl
theorem e_JStL_indexOfChar_28 : rn Ls xs d 230 28 [l0, l1, l2, l3, l4, l5] st H = rn Ls xs d 230 7 [l0, l1, l2, l3, l4, l5] st H := rn_nx rfl rfl
theorem e_JStL_indexOfChar_31 : rn Ls xs d 230 31 [l0, l1, l2, l3, l4, l5]  st H = rn Ls xs d 230 32 [l0, l1, l2, l3, l4, l5] (.inl (-1) :: st) H := rn_nx rfl rfl
theorem e_JStL_indexOfChar_32 : rn Ls xs d 230 32 [l0, l1, l2, l3, l4, l5] [.inl x] H = some (some (.inl x), H) := rn_done rfl rfl
set_option maxRecDepth 20000 in
theorem e_L_law_0 : rn Ls xs d 0 0 [l0, l1, l2, l3] st (S, I, R) = rn Ls xs d 0 3 [l0, l1, l2, l3] (.inr (.inl (some S.2.1)) :: st) (h_mk (S, I, R) 8 10) := rn_nx rfl rfl
set_option maxRecDepth 20000 in
theorem e_L_law_3 : rn Ls xs d 0 3 [l0, l1, l2, l3] (v :: st) H = rn Ls xs d 0 4 [l0, l1, l2, l3] (v :: v :: st) H := rn_nx rfl rfl
set_option maxRecDepth 20000 in
theorem e_L_law_4 : rn Ls xs (d + 1) 0 4 [l0, l1, l2, l3] [(.inr (.inl (some a))), v1] (S, I, R) = if h_is S a 8 10 then rb Ls xs (d + 1) 0 7 [l0, l1, l2, l3] [v1] (rn Ls xs d 1 0 [some (.inr (.inl (some a))), none] [] (S, I, R)) else none := rn_callO rfl rfl (Nat.le_of_ble_eq_true rfl) rfl rfl
set_option maxRecDepth 20000 in
theorem e_L_law_7 : rn Ls xs d 0 7 [l0, l1, l2, l3] (.inr u :: st) H = rn Ls xs d 0 8 [l0, some (.inr u), l2, l3] st H := rn_nx rfl rfl
set_option maxRecDepth 20000 in
theorem e_L_law_8 : rn Ls xs d 0 8 [l0, l1, l2, l3] st (S, I, R) = rn Ls xs d 0 11 [l0, l1, l2, l3] (.inr (.inl (some S.2.1)) :: st) (h_mk (S, I, R) 9 36) := rn_nx rfl rfl
set_option maxRecDepth 20000 in
theorem e_L_law_11 : rn Ls xs d 0 11 [l0, l1, l2, l3] (v :: st) H = rn Ls xs d 0 12 [l0, l1, l2, l3] (v :: v :: st) H := rn_nx rfl rfl
set_option maxRecDepth 20000 in
theorem e_L_law_12 : rn Ls xs (d + 1) 0 12 [l0, l1, l2, l3] [(.inr (.inl (some a))), v1] (S, I, R) = if h_is S a 9 36 then rb Ls xs (d + 1) 0 15 [l0, l1, l2, l3] [v1] (rn Ls xs d 2 0 [some (.inr (.inl (some a)))] [] (S, I, R)) else none := rn_callO rfl rfl (Nat.le_of_ble_eq_true rfl) rfl rfl
set_option maxRecDepth 20000 in
theorem e_L_law_15 : rn Ls xs d 0 15 [l0, l1, l2, l3] (.inr u :: st) H = rn Ls xs d 0 16 [l0, l1, some (.inr u), l3] st H := rn_nx rfl rfl
set_option maxRecDepth 20000 in
theorem e_L_law_16 : rn Ls xs d 0 16 [l0, l1, l2, l3]  st H = rn Ls xs d 0 17 [l0, l1, l2, l3] (.inl 0 :: st) H := rn_nx rfl rfl
set_option maxRecDepth 20000 in
theorem e_L_law_17 : rn Ls xs d 0 17 [l0, l1, l2, l3] (.inl x :: st) H = rn Ls xs d 0 18 [l0, l1, l2, some (.inl x)] st H := rn_nx rfl rfl
set_option maxRecDepth 20000 in
theorem e_L_law_18 : rn Ls xs d 0 18 [l0, l1, l2, some (.inl x)] st H = rn Ls xs d 0 19 [l0, l1, l2, some (.inl x)] (.inl x :: st) H := rn_nx rfl rfl
set_option maxRecDepth 20000 in
theorem e_L_law_19 : rn Ls xs d 0 19 [some (.inr u), l1, l2, l3] st H = rn Ls xs d 0 20 [some (.inr u), l1, l2, l3] (.inr u :: st) H := rn_nx rfl rfl
set_option maxRecDepth 20000 in
theorem e_L_law_20 : rn Ls xs d 0 20 [l0, l1, l2, l3] (.inr (.inr 0) :: st) H = rn Ls xs d 0 21 [l0, l1, l2, l3] (.inl (Int32.ofNat Ls) :: st) H := rn_nx rfl rfl
set_option maxRecDepth 20000 in
theorem e_L_law_21 : rn Ls xs d 0 21 [l0, l1, l2, l3]  st H = rn Ls xs d 0 23 [l0, l1, l2, l3] (.inl 6 :: st) H := rn_nx rfl rfl
set_option maxRecDepth 20000 in
theorem e_L_law_23 : rn Ls xs d 0 23 [l0, l1, l2, l3] (.inl y :: .inl x :: st) H = rn Ls xs d 0 24 [l0, l1, l2, l3] (.inl (x - y) :: st) H := rn_nx rfl rfl
set_option maxRecDepth 20000 in
theorem e_L_law_24 : rn Ls xs d 0 24 [l0, l1, l2, l3] (.inl y :: .inl x :: st) H = if y < x then rn Ls xs d 0 1468 [l0, l1, l2, l3] st H else rn Ls xs d 0 27 [l0, l1, l2, l3] st H := rn_cmp (p := fun x y => y < x) rfl
set_option maxRecDepth 20000 in
theorem e_L_law_27 : rn Ls xs d 0 27 [some (.inr u), l1, l2, l3] st H = rn Ls xs d 0 28 [some (.inr u), l1, l2, l3] (.inr u :: st) H := rn_nx rfl rfl
set_option maxRecDepth 20000 in
theorem e_L_law_28 : rn Ls xs d 0 28 [l0, l1, l2, some (.inl x)] st H = rn Ls xs d 0 29 [l0, l1, l2, some (.inl x)] (.inl x :: st) H := rn_nx rfl rfl
set_option maxRecDepth 20000 in
theorem e_L_law_29 : rn Ls xs d 0 29 [l0, l1, l2, l3] (.inl i :: .inr (.inr 0) :: st) H = if 0 ≤ i.toInt ∧ i.toInt < (Ls : Int) then rn Ls xs d 0 30 [l0, l1, l2, l3] (.inl (xs i.toNatClampNeg) :: st) H else none := rn_pc rfl rfl
set_option maxRecDepth 20000 in
theorem e_L_law_30 : rn Ls xs d 0 30 [l0, l1, l2, l3]  st H = rn Ls xs d 0 32 [l0, l1, l2, l3] (.inl 63 :: st) H := rn_nx rfl rfl
set_option maxRecDepth 20000 in
theorem e_L_law_32 : rn Ls xs d 0 32 [l0, l1, l2, l3] (.inl y :: .inl x :: st) H = rn Ls xs d 0 33 [l0, l1, l2, l3] (.inl (x &&& y) :: st) H := rn_nx rfl rfl
set_option maxRecDepth 20000 in
theorem e_L_law_33 : rn Ls xs d 0 33 [l0, l1, l2, l3] (.inl x :: st) H = if x = 0 then rn Ls xs d 0 216 [l0, l1, l2, l3] st H else if x = 1 then rn Ls xs d 0 279 [l0, l1, l2, l3] st H else if x = 2 then rn Ls xs d 0 312 [l0, l1, l2, l3] st H else if x = 3 then rn Ls xs d 0 345 [l0, l1, l2, l3] st H else if x = 4 then rn Ls xs d 0 378 [l0, l1, l2, l3] st H else if x = 5 then rn Ls xs d 0 421 [l0, l1, l2, l3] st H else if x = 6 then rn Ls xs d 0 444 [l0, l1, l2, l3] st H else if x = 7 then rn Ls xs d 0 467 [l0, l1, l2, l3] st H else if x = 8 then rn Ls xs d 0 500 [l0, l1, l2, l3] st H else if x = 9 then rn Ls xs d 0 523 [l0, l1, l2, l3] st H else if x = 10 then rn Ls xs d 0 546 [l0, l1, l2, l3] st H else if x = 11 then rn Ls xs d 0 569 [l0, l1, l2, l3] st H else if x = 12 then rn Ls xs d 0 592 [l0, l1, l2, l3] st H else if x = 13 then rn Ls xs d 0 625 [l0, l1, l2, l3] st H else if x = 14 then rn Ls xs d 0 638 [l0, l1, l2, l3] st H else if x = 15 then rn Ls xs d 0 661 [l0, l1, l2, l3] st H else if x = 16 then rn Ls xs d 0 684 [l0, l1, l2, l3] st H else if x = 17 then rn Ls xs d 0 717 [l0, l1, l2, l3] st H else if x = 18 then rn Ls xs d 0 760 [l0, l1, l2, l3] st H else if x = 19 then rn Ls xs d 0 793 [l0, l1, l2, l3] st H else if x = 20 then rn Ls xs d 0 826 [l0, l1, l2, l3] st H else if x = 21 then rn Ls xs d 0 859 [l0, l1, l2, l3] st H else if x = 22 then rn Ls xs d 0 872 [l0, l1, l2, l3] st H else if x = 23 then rn Ls xs d 0 895 [l0, l1, l2, l3] st H else if x = 24 then rn Ls xs d 0 938 [l0, l1, l2, l3] st H else if x = 25 then rn Ls xs d 0 961 [l0, l1, l2, l3] st H else if x = 26 then rn Ls xs d 0 974 [l0, l1, l2, l3] st H else if x = 27 then rn Ls xs d 0 1007 [l0, l1, l2, l3] st H else if x = 28 then rn Ls xs d 0 1030 [l0, l1, l2, l3] st H else if x = 29 then rn Ls xs d 0 1073 [l0, l1, l2, l3] st H else if x = 30 then rn Ls xs d 0 1116 [l0, l1, l2, l3] st H else if x = 31 then rn Ls xs d 0 1139 [l0, l1, l2, l3] st H else if x = 32 then rn Ls xs d 0 1162 [l0, l1, l2, l3] st H else if x = 33 then rn Ls xs d 0 1225 [l0, l1, l2, l3] st H else if x = 34 then rn Ls xs d 0 1268 [l0, l1, l2, l3] st H else if x = 35 then rn Ls xs d 0 1301 [l0, l1, l2, l3] st H else if x = 36 then rn Ls xs d 0 1334 [l0, l1, l2, l3] st H else if x = 37 then rn Ls xs d 0 1367 [l0, l1, l2, l3] st H else if x = 38 then rn Ls xs d 0 1390 [l0, l1, l2, l3] st H else if x = 39 then rn Ls xs d 0 1413 [l0, l1, l2, l3] st H else if x = 40 then rn Ls xs d 0 1426 [l0, l1, l2, l3] st H else if x = 41 then rn Ls xs d 0 1439 [l0, l1, l2, l3] st H else rn Ls xs d 0 1462 [l0, l1, l2, l3] st H := (rn_nx rfl rfl).trans (rn_tc rfl rfl (rn_tc rfl rfl (rn_tc rfl rfl (rn_tc rfl rfl (rn_tc rfl rfl (rn_tc rfl rfl (rn_tc rfl rfl (rn_tc rfl rfl (rn_tc rfl rfl (rn_tc rfl rfl (rn_tc rfl rfl (rn_tc rfl rfl (rn_tc rfl rfl (rn_tc rfl rfl (rn_tc rfl rfl (rn_tc rfl rfl (rn_tc rfl rfl (rn_tc rfl rfl (rn_tc rfl rfl (rn_tc rfl rfl (rn_tc rfl rfl (rn_tc rfl rfl (rn_tc rfl rfl (rn_tc rfl rfl (rn_tc rfl rfl (rn_tc rfl rfl (rn_tc rfl rfl (rn_tc rfl rfl (rn_tc rfl rfl (rn_tc rfl rfl (rn_tc rfl rfl (rn_tc rfl rfl (rn_tc rfl rfl (rn_tc rfl rfl (rn_tc rfl rfl (rn_tc rfl rfl (rn_tc rfl rfl (rn_tc rfl rfl (rn_tc rfl rfl (rn_tc rfl rfl (rn_tc rfl rfl (rn_tc rfl rfl (rn_tn)))))))))))))))))))))))))))))))))))))))))))
set_option maxRecDepth 20000 in
theorem e_L_law_216 : rn Ls xs d 0 216 [l0, some (.inr u), l2, l3] st H = rn Ls xs d 0 217 [l0, some (.inr u), l2, l3] (.inr u :: st) H := rn_nx rfl rfl
set_option maxRecDepth 20000 in
theorem e_L_law_217 : rn Ls xs d 0 217 [some (.inr u), l1, l2, l3] st H = rn Ls xs d 0 218 [some (.inr u), l1, l2, l3] (.inr u :: st) H := rn_nx rfl rfl
set_option maxRecDepth 20000 in
theorem e_L_law_218 : rn Ls xs d 0 218 [l0, l1, l2, some (.inl x)] st H = rn Ls xs d 0 219 [l0, l1, l2, some (.inl x)] (.inl x :: st) H := rn_nx rfl rfl
set_option maxRecDepth 20000 in
theorem e_L_law_219 : rn Ls xs d 0 219 [l0, l1, l2, l3]  st H = rn Ls xs d 0 220 [l0, l1, l2, l3] (.inl 1 :: st) H := rn_nx rfl rfl
set_option maxRecDepth 20000 in
theorem e_L_law_220 : rn Ls xs d 0 220 [l0, l1, l2, l3] (.inl y :: .inl x :: st) H = rn Ls xs d 0 221 [l0, l1, l2, l3] (.inl (x + y) :: st) H := rn_nx rfl rfl
set_option maxRecDepth 20000 in
theorem e_L_law_221 : rn Ls xs d 0 221 [l0, l1, l2, l3] (.inl i :: .inr (.inr 0) :: st) H = if 0 ≤ i.toInt ∧ i.toInt < (Ls : Int) then rn Ls xs d 0 222 [l0, l1, l2, l3] (.inl (xs i.toNatClampNeg) :: st) H else none := rn_pc rfl rfl
set_option maxRecDepth 20000 in
theorem e_L_law_222 : rn Ls xs d 0 222 [some (.inr u), l1, l2, l3] st H = rn Ls xs d 0 223 [some (.inr u), l1, l2, l3] (.inr u :: st) H := rn_nx rfl rfl
set_option maxRecDepth 20000 in
theorem e_L_law_223 : rn Ls xs d 0 223 [l0, l1, l2, some (.inl x)] st H = rn Ls xs d 0 224 [l0, l1, l2, some (.inl x)] (.inl x :: st) H := rn_nx rfl rfl
set_option maxRecDepth 20000 in
theorem e_L_law_224 : rn Ls xs d 0 224 [l0, l1, l2, l3]  st H = rn Ls xs d 0 225 [l0, l1, l2, l3] (.inl 2 :: st) H := rn_nx rfl rfl
set_option maxRecDepth 20000 in
theorem e_L_law_225 : rn Ls xs d 0 225 [l0, l1, l2, l3] (.inl y :: .inl x :: st) H = rn Ls xs d 0 226 [l0, l1, l2, l3] (.inl (x + y) :: st) H := rn_nx rfl rfl
set_option maxRecDepth 20000 in
theorem e_L_law_226 : rn Ls xs d 0 226 [l0, l1, l2, l3] (.inl i :: .inr (.inr 0) :: st) H = if 0 ≤ i.toInt ∧ i.toInt < (Ls : Int) then rn Ls xs d 0 227 [l0, l1, l2, l3] (.inl (xs i.toNatClampNeg) :: st) H else none := rn_pc rfl rfl
set_option maxRecDepth 20000 in
theorem e_L_law_227 : rn Ls xs d 0 227 [some (.inr u), l1, l2, l3] st H = rn Ls xs d 0 228 [some (.inr u), l1, l2, l3] (.inr u :: st) H := rn_nx rfl rfl
set_option maxRecDepth 20000 in
theorem e_L_law_228 : rn Ls xs d 0 228 [l0, l1, l2, some (.inl x)] st H = rn Ls xs d 0 229 [l0, l1, l2, some (.inl x)] (.inl x :: st) H := rn_nx rfl rfl
set_option maxRecDepth 20000 in
theorem e_L_law_229 : rn Ls xs d 0 229 [l0, l1, l2, l3]  st H = rn Ls xs d 0 230 [l0, l1, l2, l3] (.inl 3 :: st) H := rn_nx rfl rfl
set_option maxRecDepth 20000 in
theorem e_L_law_230 : rn Ls xs d 0 230 [l0, l1, l2, l3] (.inl y :: .inl x :: st) H = rn Ls xs d 0 231 [l0, l1, l2, l3] (.inl (x + y) :: st) H := rn_nx rfl rfl
set_option maxRecDepth 20000 in
theorem e_L_law_231 : rn Ls xs d 0 231 [l0, l1, l2, l3] (.inl i :: .inr (.inr 0) :: st) H = if 0 ≤ i.toInt ∧ i.toInt < (Ls : Int) then rn Ls xs d 0 232 [l0, l1, l2, l3] (.inl (xs i.toNatClampNeg) :: st) H else none := rn_pc rfl rfl
set_option maxRecDepth 20000 in
theorem e_L_law_232 : rn Ls xs d 0 232 [some (.inr u), l1, l2, l3] st H = rn Ls xs d 0 233 [some (.inr u), l1, l2, l3] (.inr u :: st) H := rn_nx rfl rfl
set_option maxRecDepth 20000 in
theorem e_L_law_233 : rn Ls xs d 0 233 [l0, l1, l2, some (.inl x)] st H = rn Ls xs d 0 234 [l0, l1, l2, some (.inl x)] (.inl x :: st) H := rn_nx rfl rfl
set_option maxRecDepth 20000 in
theorem e_L_law_234 : rn Ls xs d 0 234 [l0, l1, l2, l3]  st H = rn Ls xs d 0 235 [l0, l1, l2, l3] (.inl 4 :: st) H := rn_nx rfl rfl
set_option maxRecDepth 20000 in
theorem e_L_law_235 : rn Ls xs d 0 235 [l0, l1, l2, l3] (.inl y :: .inl x :: st) H = rn Ls xs d 0 236 [l0, l1, l2, l3] (.inl (x + y) :: st) H := rn_nx rfl rfl
set_option maxRecDepth 20000 in
theorem e_L_law_236 : rn Ls xs d 0 236 [l0, l1, l2, l3] (.inl i :: .inr (.inr 0) :: st) H = if 0 ≤ i.toInt ∧ i.toInt < (Ls : Int) then rn Ls xs d 0 237 [l0, l1, l2, l3] (.inl (xs i.toNatClampNeg) :: st) H else none := rn_pc rfl rfl
set_option maxRecDepth 20000 in
theorem e_L_law_237 : rn Ls xs d 0 237 [some (.inr u), l1, l2, l3] st H = rn Ls xs d 0 238 [some (.inr u), l1, l2, l3] (.inr u :: st) H := rn_nx rfl rfl
set_option maxRecDepth 20000 in
theorem e_L_law_238 : rn Ls xs d 0 238 [l0, l1, l2, some (.inl x)] st H = rn Ls xs d 0 239 [l0, l1, l2, some (.inl x)] (.inl x :: st) H := rn_nx rfl rfl
set_option maxRecDepth 20000 in
theorem e_L_law_239 : rn Ls xs d 0 239 [l0, l1, l2, l3]  st H = rn Ls xs d 0 240 [l0, l1, l2, l3] (.inl 5 :: st) H := rn_nx rfl rfl
set_option maxRecDepth 20000 in
theorem e_L_law_240 : rn Ls xs d 0 240 [l0, l1, l2, l3] (.inl y :: .inl x :: st) H = rn Ls xs d 0 241 [l0, l1, l2, l3] (.inl (x + y) :: st) H := rn_nx rfl rfl
set_option maxRecDepth 20000 in
theorem e_L_law_241 : rn Ls xs d 0 241 [l0, l1, l2, l3] (.inl i :: .inr (.inr 0) :: st) H = if 0 ≤ i.toInt ∧ i.toInt < (Ls : Int) then rn Ls xs d 0 242 [l0, l1, l2, l3] (.inl (xs i.toNatClampNeg) :: st) H else none := rn_pc rfl rfl
set_option maxRecDepth 20000 in
theorem e_L_law_242 : rn Ls xs (d + 1) 0 242 [l0, l1, l2, l3] [v5, v4, v3, v2, v1, (.inr (.inl (some a)))] (S, I, R) = if h_is S a 8 10 then rb Ls xs (d + 1) 0 245 [l0, l1, l2, l3] [] (rn Ls xs d 3 0 [some (.inr (.inl (some a))), some v1, some v2, some v3, some v4, some v5] [] (S, I, R)) else none := rn_callO rfl rfl (Nat.le_of_ble_eq_true rfl) rfl rfl
set_option maxRecDepth 20000 in
theorem e_L_law_245 : rn Ls xs d 0 245 [l0, l1, some (.inr u), l3] st H = rn Ls xs d 0 246 [l0, l1, some (.inr u), l3] (.inr u :: st) H := rn_nx rfl rfl
set_option maxRecDepth 20000 in
theorem e_L_law_246 : rn Ls xs d 0 246 [some (.inr u), l1, l2, l3] st H = rn Ls xs d 0 247 [some (.inr u), l1, l2, l3] (.inr u :: st) H := rn_nx rfl rfl
set_option maxRecDepth 20000 in
theorem e_L_law_247 : rn Ls xs d 0 247 [l0, l1, l2, some (.inl x)] st H = rn Ls xs d 0 248 [l0, l1, l2, some (.inl x)] (.inl x :: st) H := rn_nx rfl rfl
set_option maxRecDepth 20000 in
theorem e_L_law_248 : rn Ls xs d 0 248 [l0, l1, l2, l3]  st H = rn Ls xs d 0 249 [l0, l1, l2, l3] (.inl 1 :: st) H := rn_nx rfl rfl
set_option maxRecDepth 20000 in
theorem e_L_law_249 : rn Ls xs d 0 249 [l0, l1, l2, l3] (.inl y :: .inl x :: st) H = rn Ls xs d 0 250 [l0, l1, l2, l3] (.inl (x + y) :: st) H := rn_nx rfl rfl
set_option maxRecDepth 20000 in
theorem e_L_law_250 : rn Ls xs d 0 250 [l0, l1, l2, l3] (.inl i :: .inr (.inr 0) :: st) H = if 0 ≤ i.toInt ∧ i.toInt < (Ls : Int) then rn Ls xs d 0 251 [l0, l1, l2, l3] (.inl (xs i.toNatClampNeg) :: st) H else none := rn_pc rfl rfl
set_option maxRecDepth 20000 in
theorem e_L_law_251 : rn Ls xs d 0 251 [some (.inr u), l1, l2, l3] st H = rn Ls xs d 0 252 [some (.inr u), l1, l2, l3] (.inr u :: st) H := rn_nx rfl rfl
set_option maxRecDepth 20000 in
theorem e_L_law_252 : rn Ls xs d 0 252 [l0, l1, l2, some (.inl x)] st H = rn Ls xs d 0 253 [l0, l1, l2, some (.inl x)] (.inl x :: st) H := rn_nx rfl rfl
set_option maxRecDepth 20000 in
theorem e_L_law_253 : rn Ls xs d 0 253 [l0, l1, l2, l3]  st H = rn Ls xs d 0 254 [l0, l1, l2, l3] (.inl 2 :: st) H := rn_nx rfl rfl
set_option maxRecDepth 20000 in
theorem e_L_law_254 : rn Ls xs d 0 254 [l0, l1, l2, l3] (.inl y :: .inl x :: st) H = rn Ls xs d 0 255 [l0, l1, l2, l3] (.inl (x + y) :: st) H := rn_nx rfl rfl
set_option maxRecDepth 20000 in
theorem e_L_law_255 : rn Ls xs d 0 255 [l0, l1, l2, l3] (.inl i :: .inr (.inr 0) :: st) H = if 0 ≤ i.toInt ∧ i.toInt < (Ls : Int) then rn Ls xs d 0 256 [l0, l1, l2, l3] (.inl (xs i.toNatClampNeg) :: st) H else none := rn_pc rfl rfl
set_option maxRecDepth 20000 in
theorem e_L_law_256 : rn Ls xs d 0 256 [some (.inr u), l1, l2, l3] st H = rn Ls xs d 0 257 [some (.inr u), l1, l2, l3] (.inr u :: st) H := rn_nx rfl rfl
set_option maxRecDepth 20000 in
theorem e_L_law_257 : rn Ls xs d 0 257 [l0, l1, l2, some (.inl x)] st H = rn Ls xs d 0 258 [l0, l1, l2, some (.inl x)] (.inl x :: st) H := rn_nx rfl rfl
set_option maxRecDepth 20000 in
theorem e_L_law_258 : rn Ls xs d 0 258 [l0, l1, l2, l3]  st H = rn Ls xs d 0 259 [l0, l1, l2, l3] (.inl 3 :: st) H := rn_nx rfl rfl
set_option maxRecDepth 20000 in
theorem e_L_law_259 : rn Ls xs d 0 259 [l0, l1, l2, l3] (.inl y :: .inl x :: st) H = rn Ls xs d 0 260 [l0, l1, l2, l3] (.inl (x + y) :: st) H := rn_nx rfl rfl
set_option maxRecDepth 20000 in
theorem e_L_law_260 : rn Ls xs d 0 260 [l0, l1, l2, l3] (.inl i :: .inr (.inr 0) :: st) H = if 0 ≤ i.toInt ∧ i.toInt < (Ls : Int) then rn Ls xs d 0 261 [l0, l1, l2, l3] (.inl (xs i.toNatClampNeg) :: st) H else none := rn_pc rfl rfl
set_option maxRecDepth 20000 in
theorem e_L_law_261 : rn Ls xs d 0 261 [some (.inr u), l1, l2, l3] st H = rn Ls xs d 0 262 [some (.inr u), l1, l2, l3] (.inr u :: st) H := rn_nx rfl rfl
set_option maxRecDepth 20000 in
theorem e_L_law_262 : rn Ls xs d 0 262 [l0, l1, l2, some (.inl x)] st H = rn Ls xs d 0 263 [l0, l1, l2, some (.inl x)] (.inl x :: st) H := rn_nx rfl rfl
set_option maxRecDepth 20000 in
theorem e_L_law_263 : rn Ls xs d 0 263 [l0, l1, l2, l3]  st H = rn Ls xs d 0 264 [l0, l1, l2, l3] (.inl 4 :: st) H := rn_nx rfl rfl
set_option maxRecDepth 20000 in
theorem e_L_law_264 : rn Ls xs d 0 264 [l0, l1, l2, l3] (.inl y :: .inl x :: st) H = rn Ls xs d 0 265 [l0, l1, l2, l3] (.inl (x + y) :: st) H := rn_nx rfl rfl
set_option maxRecDepth 20000 in
theorem e_L_law_265 : rn Ls xs d 0 265 [l0, l1, l2, l3] (.inl i :: .inr (.inr 0) :: st) H = if 0 ≤ i.toInt ∧ i.toInt < (Ls : Int) then rn Ls xs d 0 266 [l0, l1, l2, l3] (.inl (xs i.toNatClampNeg) :: st) H else none := rn_pc rfl rfl
set_option maxRecDepth 20000 in
theorem e_L_law_266 : rn Ls xs d 0 266 [some (.inr u), l1, l2, l3] st H = rn Ls xs d 0 267 [some (.inr u), l1, l2, l3] (.inr u :: st) H := rn_nx rfl rfl
set_option maxRecDepth 20000 in
theorem e_L_law_267 : rn Ls xs d 0 267 [l0, l1, l2, some (.inl x)] st H = rn Ls xs d 0 268 [l0, l1, l2, some (.inl x)] (.inl x :: st) H := rn_nx rfl rfl
set_option maxRecDepth 20000 in
theorem e_L_law_268 : rn Ls xs d 0 268 [l0, l1, l2, l3]  st H = rn Ls xs d 0 269 [l0, l1, l2, l3] (.inl 5 :: st) H := rn_nx rfl rfl
set_option maxRecDepth 20000 in
theorem e_L_law_269 : rn Ls xs d 0 269 [l0, l1, l2, l3] (.inl y :: .inl x :: st) H = rn Ls xs d 0 270 [l0, l1, l2, l3] (.inl (x + y) :: st) H := rn_nx rfl rfl
set_option maxRecDepth 20000 in
theorem e_L_law_270 : rn Ls xs d 0 270 [l0, l1, l2, l3] (.inl i :: .inr (.inr 0) :: st) H = if 0 ≤ i.toInt ∧ i.toInt < (Ls : Int) then rn Ls xs d 0 271 [l0, l1, l2, l3] (.inl (xs i.toNatClampNeg) :: st) H else none := rn_pc rfl rfl
set_option maxRecDepth 20000 in
theorem e_L_law_271 : rn Ls xs (d + 1) 0 271 [l0, l1, l2, l3] [v5, v4, v3, v2, v1, (.inr (.inl (some a))), v6] (S, I, R) = if h_is S a 9 36 then rb Ls xs (d + 1) 0 274 [l0, l1, l2, l3] [v6] (rn Ls xs d 4 0 [some (.inr (.inl (some a))), some v1, some v2, some v3, some v4, some v5] [] (S, I, R)) else none := rn_callO rfl rfl (Nat.le_of_ble_eq_true rfl) rfl rfl
set_option maxRecDepth 20000 in
theorem e_L_law_274 : rn Ls xs d 0 274 [l0, l1, l2, l3] (.inl y :: .inl x :: st) H = if x = y then rn Ls xs d 0 1462 [l0, l1, l2, l3] st H else rn Ls xs d 0 277 [l0, l1, l2, l3] st H := rn_cmp (p := fun x y => x = y) rfl
set_option maxRecDepth 20000 in
theorem e_L_law_277 : rn Ls xs d 0 277 [l0, l1, l2, l3]  st H = rn Ls xs d 0 278 [l0, l1, l2, l3] (.inl 0 :: st) H := rn_nx rfl rfl
set_option maxRecDepth 20000 in
theorem e_L_law_278 : rn Ls xs d 0 278 [l0, l1, l2, l3] [.inl x] H = if h_bo x then some (some (.inl x), H) else none := rn_zret rfl
set_option maxRecDepth 20000 in
theorem e_L_law_279 : rn Ls xs d 0 279 [l0, some (.inr u), l2, l3] st H = rn Ls xs d 0 280 [l0, some (.inr u), l2, l3] (.inr u :: st) H := rn_nx rfl rfl
set_option maxRecDepth 20000 in
theorem e_L_law_280 : rn Ls xs d 0 280 [some (.inr u), l1, l2, l3] st H = rn Ls xs d 0 281 [some (.inr u), l1, l2, l3] (.inr u :: st) H := rn_nx rfl rfl
set_option maxRecDepth 20000 in
theorem e_L_law_281 : rn Ls xs d 0 281 [l0, l1, l2, some (.inl x)] st H = rn Ls xs d 0 282 [l0, l1, l2, some (.inl x)] (.inl x :: st) H := rn_nx rfl rfl
set_option maxRecDepth 20000 in
theorem e_L_law_282 : rn Ls xs d 0 282 [l0, l1, l2, l3]  st H = rn Ls xs d 0 283 [l0, l1, l2, l3] (.inl 1 :: st) H := rn_nx rfl rfl
set_option maxRecDepth 20000 in
theorem e_L_law_283 : rn Ls xs d 0 283 [l0, l1, l2, l3] (.inl y :: .inl x :: st) H = rn Ls xs d 0 284 [l0, l1, l2, l3] (.inl (x + y) :: st) H := rn_nx rfl rfl
set_option maxRecDepth 20000 in
theorem e_L_law_284 : rn Ls xs d 0 284 [l0, l1, l2, l3] (.inl i :: .inr (.inr 0) :: st) H = if 0 ≤ i.toInt ∧ i.toInt < (Ls : Int) then rn Ls xs d 0 285 [l0, l1, l2, l3] (.inl (xs i.toNatClampNeg) :: st) H else none := rn_pc rfl rfl
set_option maxRecDepth 20000 in
theorem e_L_law_285 : rn Ls xs d 0 285 [some (.inr u), l1, l2, l3] st H = rn Ls xs d 0 286 [some (.inr u), l1, l2, l3] (.inr u :: st) H := rn_nx rfl rfl
set_option maxRecDepth 20000 in
theorem e_L_law_286 : rn Ls xs d 0 286 [l0, l1, l2, some (.inl x)] st H = rn Ls xs d 0 287 [l0, l1, l2, some (.inl x)] (.inl x :: st) H := rn_nx rfl rfl
set_option maxRecDepth 20000 in
theorem e_L_law_287 : rn Ls xs d 0 287 [l0, l1, l2, l3]  st H = rn Ls xs d 0 288 [l0, l1, l2, l3] (.inl 2 :: st) H := rn_nx rfl rfl
set_option maxRecDepth 20000 in
theorem e_L_law_288 : rn Ls xs d 0 288 [l0, l1, l2, l3] (.inl y :: .inl x :: st) H = rn Ls xs d 0 289 [l0, l1, l2, l3] (.inl (x + y) :: st) H := rn_nx rfl rfl
set_option maxRecDepth 20000 in
theorem e_L_law_289 : rn Ls xs d 0 289 [l0, l1, l2, l3] (.inl i :: .inr (.inr 0) :: st) H = if 0 ≤ i.toInt ∧ i.toInt < (Ls : Int) then rn Ls xs d 0 290 [l0, l1, l2, l3] (.inl (xs i.toNatClampNeg) :: st) H else none := rn_pc rfl rfl
set_option maxRecDepth 20000 in
theorem e_L_law_290 : rn Ls xs (d + 1) 0 290 [l0, l1, l2, l3] [v2, v1, (.inr (.inl (some a)))] (S, I, R) = if h_is S a 8 10 then rb Ls xs (d + 1) 0 293 [l0, l1, l2, l3] [] (rn Ls xs d 5 0 [some (.inr (.inl (some a))), some v1, some v2, none] [] (S, I, R)) else none := rn_callO rfl rfl (Nat.le_of_ble_eq_true rfl) rfl rfl
set_option maxRecDepth 20000 in
theorem e_L_law_293 : rn Ls xs d 0 293 [l0, l1, some (.inr u), l3] st H = rn Ls xs d 0 294 [l0, l1, some (.inr u), l3] (.inr u :: st) H := rn_nx rfl rfl
set_option maxRecDepth 20000 in
theorem e_L_law_294 : rn Ls xs d 0 294 [some (.inr u), l1, l2, l3] st H = rn Ls xs d 0 295 [some (.inr u), l1, l2, l3] (.inr u :: st) H := rn_nx rfl rfl
set_option maxRecDepth 20000 in
theorem e_L_law_295 : rn Ls xs d 0 295 [l0, l1, l2, some (.inl x)] st H = rn Ls xs d 0 296 [l0, l1, l2, some (.inl x)] (.inl x :: st) H := rn_nx rfl rfl
set_option maxRecDepth 20000 in
theorem e_L_law_296 : rn Ls xs d 0 296 [l0, l1, l2, l3]  st H = rn Ls xs d 0 297 [l0, l1, l2, l3] (.inl 1 :: st) H := rn_nx rfl rfl
set_option maxRecDepth 20000 in
theorem e_L_law_297 : rn Ls xs d 0 297 [l0, l1, l2, l3] (.inl y :: .inl x :: st) H = rn Ls xs d 0 298 [l0, l1, l2, l3] (.inl (x + y) :: st) H := rn_nx rfl rfl
set_option maxRecDepth 20000 in
theorem e_L_law_298 : rn Ls xs d 0 298 [l0, l1, l2, l3] (.inl i :: .inr (.inr 0) :: st) H = if 0 ≤ i.toInt ∧ i.toInt < (Ls : Int) then rn Ls xs d 0 299 [l0, l1, l2, l3] (.inl (xs i.toNatClampNeg) :: st) H else none := rn_pc rfl rfl
set_option maxRecDepth 20000 in
theorem e_L_law_299 : rn Ls xs d 0 299 [some (.inr u), l1, l2, l3] st H = rn Ls xs d 0 300 [some (.inr u), l1, l2, l3] (.inr u :: st) H := rn_nx rfl rfl
set_option maxRecDepth 20000 in
theorem e_L_law_300 : rn Ls xs d 0 300 [l0, l1, l2, some (.inl x)] st H = rn Ls xs d 0 301 [l0, l1, l2, some (.inl x)] (.inl x :: st) H := rn_nx rfl rfl
set_option maxRecDepth 20000 in
theorem e_L_law_301 : rn Ls xs d 0 301 [l0, l1, l2, l3]  st H = rn Ls xs d 0 302 [l0, l1, l2, l3] (.inl 2 :: st) H := rn_nx rfl rfl
set_option maxRecDepth 20000 in
theorem e_L_law_302 : rn Ls xs d 0 302 [l0, l1, l2, l3] (.inl y :: .inl x :: st) H = rn Ls xs d 0 303 [l0, l1, l2, l3] (.inl (x + y) :: st) H := rn_nx rfl rfl
set_option maxRecDepth 20000 in
theorem e_L_law_303 : rn Ls xs d 0 303 [l0, l1, l2, l3] (.inl i :: .inr (.inr 0) :: st) H = if 0 ≤ i.toInt ∧ i.toInt < (Ls : Int) then rn Ls xs d 0 304 [l0, l1, l2, l3] (.inl (xs i.toNatClampNeg) :: st) H else none := rn_pc rfl rfl
set_option maxRecDepth 20000 in
theorem e_L_law_304 : rn Ls xs (d + 1) 0 304 [l0, l1, l2, l3] [v2, v1, (.inr (.inl (some a))), v3] (S, I, R) = if h_is S a 9 36 then rb Ls xs (d + 1) 0 307 [l0, l1, l2, l3] [v3] (rn Ls xs d 6 0 [some (.inr (.inl (some a))), some v1, some v2] [] (S, I, R)) else none := rn_callO rfl rfl (Nat.le_of_ble_eq_true rfl) rfl rfl
set_option maxRecDepth 20000 in
theorem e_L_law_307 : rn Ls xs d 0 307 [l0, l1, l2, l3] (.inl y :: .inl x :: st) H = if x = y then rn Ls xs d 0 1462 [l0, l1, l2, l3] st H else rn Ls xs d 0 310 [l0, l1, l2, l3] st H := rn_cmp (p := fun x y => x = y) rfl
set_option maxRecDepth 20000 in
theorem e_L_law_310 : rn Ls xs d 0 310 [l0, l1, l2, l3]  st H = rn Ls xs d 0 311 [l0, l1, l2, l3] (.inl 0 :: st) H := rn_nx rfl rfl
set_option maxRecDepth 20000 in
theorem e_L_law_311 : rn Ls xs d 0 311 [l0, l1, l2, l3] [.inl x] H = if h_bo x then some (some (.inl x), H) else none := rn_zret rfl
set_option maxRecDepth 20000 in
theorem e_L_law_312 : rn Ls xs d 0 312 [l0, some (.inr u), l2, l3] st H = rn Ls xs d 0 313 [l0, some (.inr u), l2, l3] (.inr u :: st) H := rn_nx rfl rfl
set_option maxRecDepth 20000 in
theorem e_L_law_313 : rn Ls xs d 0 313 [some (.inr u), l1, l2, l3] st H = rn Ls xs d 0 314 [some (.inr u), l1, l2, l3] (.inr u :: st) H := rn_nx rfl rfl
set_option maxRecDepth 20000 in
theorem e_L_law_314 : rn Ls xs d 0 314 [l0, l1, l2, some (.inl x)] st H = rn Ls xs d 0 315 [l0, l1, l2, some (.inl x)] (.inl x :: st) H := rn_nx rfl rfl
set_option maxRecDepth 20000 in
theorem e_L_law_315 : rn Ls xs d 0 315 [l0, l1, l2, l3]  st H = rn Ls xs d 0 316 [l0, l1, l2, l3] (.inl 1 :: st) H := rn_nx rfl rfl
set_option maxRecDepth 20000 in
theorem e_L_law_316 : rn Ls xs d 0 316 [l0, l1, l2, l3] (.inl y :: .inl x :: st) H = rn Ls xs d 0 317 [l0, l1, l2, l3] (.inl (x + y) :: st) H := rn_nx rfl rfl
set_option maxRecDepth 20000 in
theorem e_L_law_317 : rn Ls xs d 0 317 [l0, l1, l2, l3] (.inl i :: .inr (.inr 0) :: st) H = if 0 ≤ i.toInt ∧ i.toInt < (Ls : Int) then rn Ls xs d 0 318 [l0, l1, l2, l3] (.inl (xs i.toNatClampNeg) :: st) H else none := rn_pc rfl rfl
set_option maxRecDepth 20000 in
theorem e_L_law_318 : rn Ls xs d 0 318 [some (.inr u), l1, l2, l3] st H = rn Ls xs d 0 319 [some (.inr u), l1, l2, l3] (.inr u :: st) H := rn_nx rfl rfl
set_option maxRecDepth 20000 in
theorem e_L_law_319 : rn Ls xs d 0 319 [l0, l1, l2, some (.inl x)] st H = rn Ls xs d 0 320 [l0, l1, l2, some (.inl x)] (.inl x :: st) H := rn_nx rfl rfl
set_option maxRecDepth 20000 in
theorem e_L_law_320 : rn Ls xs d 0 320 [l0, l1, l2, l3]  st H = rn Ls xs d 0 321 [l0, l1, l2, l3] (.inl 2 :: st) H := rn_nx rfl rfl
set_option maxRecDepth 20000 in
theorem e_L_law_321 : rn Ls xs d 0 321 [l0, l1, l2, l3] (.inl y :: .inl x :: st) H = rn Ls xs d 0 322 [l0, l1, l2, l3] (.inl (x + y) :: st) H := rn_nx rfl rfl
set_option maxRecDepth 20000 in
theorem e_L_law_322 : rn Ls xs d 0 322 [l0, l1, l2, l3] (.inl i :: .inr (.inr 0) :: st) H = if 0 ≤ i.toInt ∧ i.toInt < (Ls : Int) then rn Ls xs d 0 323 [l0, l1, l2, l3] (.inl (xs i.toNatClampNeg) :: st) H else none := rn_pc rfl rfl
set_option maxRecDepth 20000 in
theorem e_L_law_323 : rn Ls xs (d + 1) 0 323 [l0, l1, l2, l3] [v2, v1, (.inr (.inl (some a)))] (S, I, R) = if h_is S a 8 10 then rb Ls xs (d + 1) 0 326 [l0, l1, l2, l3] [] (rn Ls xs d 7 0 [some (.inr (.inl (some a))), some v1, some v2, none] [] (S, I, R)) else none := rn_callO rfl rfl (Nat.le_of_ble_eq_true rfl) rfl rfl
set_option maxRecDepth 20000 in
theorem e_L_law_326 : rn Ls xs d 0 326 [l0, l1, some (.inr u), l3] st H = rn Ls xs d 0 327 [l0, l1, some (.inr u), l3] (.inr u :: st) H := rn_nx rfl rfl
set_option maxRecDepth 20000 in
theorem e_L_law_327 : rn Ls xs d 0 327 [some (.inr u), l1, l2, l3] st H = rn Ls xs d 0 328 [some (.inr u), l1, l2, l3] (.inr u :: st) H := rn_nx rfl rfl
set_option maxRecDepth 20000 in
theorem e_L_law_328 : rn Ls xs d 0 328 [l0, l1, l2, some (.inl x)] st H = rn Ls xs d 0 329 [l0, l1, l2, some (.inl x)] (.inl x :: st) H := rn_nx rfl rfl
set_option maxRecDepth 20000 in
theorem e_L_law_329 : rn Ls xs d 0 329 [l0, l1, l2, l3]  st H = rn Ls xs d 0 330 [l0, l1, l2, l3] (.inl 1 :: st) H := rn_nx rfl rfl
set_option maxRecDepth 20000 in
theorem e_L_law_330 : rn Ls xs d 0 330 [l0, l1, l2, l3] (.inl y :: .inl x :: st) H = rn Ls xs d 0 331 [l0, l1, l2, l3] (.inl (x + y) :: st) H := rn_nx rfl rfl
set_option maxRecDepth 20000 in
theorem e_L_law_331 : rn Ls xs d 0 331 [l0, l1, l2, l3] (.inl i :: .inr (.inr 0) :: st) H = if 0 ≤ i.toInt ∧ i.toInt < (Ls : Int) then rn Ls xs d 0 332 [l0, l1, l2, l3] (.inl (xs i.toNatClampNeg) :: st) H else none := rn_pc rfl rfl
set_option maxRecDepth 20000 in
theorem e_L_law_332 : rn Ls xs d 0 332 [some (.inr u), l1, l2, l3] st H = rn Ls xs d 0 333 [some (.inr u), l1, l2, l3] (.inr u :: st) H := rn_nx rfl rfl
set_option maxRecDepth 20000 in
theorem e_L_law_333 : rn Ls xs d 0 333 [l0, l1, l2, some (.inl x)] st H = rn Ls xs d 0 334 [l0, l1, l2, some (.inl x)] (.inl x :: st) H := rn_nx rfl rfl
set_option maxRecDepth 20000 in
theorem e_L_law_334 : rn Ls xs d 0 334 [l0, l1, l2, l3]  st H = rn Ls xs d 0 335 [l0, l1, l2, l3] (.inl 2 :: st) H := rn_nx rfl rfl
set_option maxRecDepth 20000 in
theorem e_L_law_335 : rn Ls xs d 0 335 [l0, l1, l2, l3] (.inl y :: .inl x :: st) H = rn Ls xs d 0 336 [l0, l1, l2, l3] (.inl (x + y) :: st) H := rn_nx rfl rfl
set_option maxRecDepth 20000 in
theorem e_L_law_336 : rn Ls xs d 0 336 [l0, l1, l2, l3] (.inl i :: .inr (.inr 0) :: st) H = if 0 ≤ i.toInt ∧ i.toInt < (Ls : Int) then rn Ls xs d 0 337 [l0, l1, l2, l3] (.inl (xs i.toNatClampNeg) :: st) H else none := rn_pc rfl rfl
set_option maxRecDepth 20000 in
theorem e_L_law_337 : rn Ls xs (d + 1) 0 337 [l0, l1, l2, l3] [v2, v1, (.inr (.inl (some a))), v3] (S, I, R) = if h_is S a 9 36 then rb Ls xs (d + 1) 0 340 [l0, l1, l2, l3] [v3] (rn Ls xs d 8 0 [some (.inr (.inl (some a))), some v1, some v2] [] (S, I, R)) else none := rn_callO rfl rfl (Nat.le_of_ble_eq_true rfl) rfl rfl
set_option maxRecDepth 20000 in
theorem e_L_law_340 : rn Ls xs d 0 340 [l0, l1, l2, l3] (.inl y :: .inl x :: st) H = if x = y then rn Ls xs d 0 1462 [l0, l1, l2, l3] st H else rn Ls xs d 0 343 [l0, l1, l2, l3] st H := rn_cmp (p := fun x y => x = y) rfl
set_option maxRecDepth 20000 in
theorem e_L_law_343 : rn Ls xs d 0 343 [l0, l1, l2, l3]  st H = rn Ls xs d 0 344 [l0, l1, l2, l3] (.inl 0 :: st) H := rn_nx rfl rfl
set_option maxRecDepth 20000 in
theorem e_L_law_344 : rn Ls xs d 0 344 [l0, l1, l2, l3] [.inl x] H = if h_bo x then some (some (.inl x), H) else none := rn_zret rfl
set_option maxRecDepth 20000 in
theorem e_L_law_345 : rn Ls xs d 0 345 [l0, some (.inr u), l2, l3] st H = rn Ls xs d 0 346 [l0, some (.inr u), l2, l3] (.inr u :: st) H := rn_nx rfl rfl
set_option maxRecDepth 20000 in
theorem e_L_law_346 : rn Ls xs d 0 346 [some (.inr u), l1, l2, l3] st H = rn Ls xs d 0 347 [some (.inr u), l1, l2, l3] (.inr u :: st) H := rn_nx rfl rfl
set_option maxRecDepth 20000 in
theorem e_L_law_347 : rn Ls xs d 0 347 [l0, l1, l2, some (.inl x)] st H = rn Ls xs d 0 348 [l0, l1, l2, some (.inl x)] (.inl x :: st) H := rn_nx rfl rfl
set_option maxRecDepth 20000 in
theorem e_L_law_348 : rn Ls xs d 0 348 [l0, l1, l2, l3]  st H = rn Ls xs d 0 349 [l0, l1, l2, l3] (.inl 1 :: st) H := rn_nx rfl rfl
set_option maxRecDepth 20000 in
theorem e_L_law_349 : rn Ls xs d 0 349 [l0, l1, l2, l3] (.inl y :: .inl x :: st) H = rn Ls xs d 0 350 [l0, l1, l2, l3] (.inl (x + y) :: st) H := rn_nx rfl rfl
set_option maxRecDepth 20000 in
theorem e_L_law_350 : rn Ls xs d 0 350 [l0, l1, l2, l3] (.inl i :: .inr (.inr 0) :: st) H = if 0 ≤ i.toInt ∧ i.toInt < (Ls : Int) then rn Ls xs d 0 351 [l0, l1, l2, l3] (.inl (xs i.toNatClampNeg) :: st) H else none := rn_pc rfl rfl
set_option maxRecDepth 20000 in
theorem e_L_law_351 : rn Ls xs d 0 351 [some (.inr u), l1, l2, l3] st H = rn Ls xs d 0 352 [some (.inr u), l1, l2, l3] (.inr u :: st) H := rn_nx rfl rfl
set_option maxRecDepth 20000 in
theorem e_L_law_352 : rn Ls xs d 0 352 [l0, l1, l2, some (.inl x)] st H = rn Ls xs d 0 353 [l0, l1, l2, some (.inl x)] (.inl x :: st) H := rn_nx rfl rfl
set_option maxRecDepth 20000 in
theorem e_L_law_353 : rn Ls xs d 0 353 [l0, l1, l2, l3]  st H = rn Ls xs d 0 354 [l0, l1, l2, l3] (.inl 2 :: st) H := rn_nx rfl rfl
set_option maxRecDepth 20000 in
theorem e_L_law_354 : rn Ls xs d 0 354 [l0, l1, l2, l3] (.inl y :: .inl x :: st) H = rn Ls xs d 0 355 [l0, l1, l2, l3] (.inl (x + y) :: st) H := rn_nx rfl rfl
set_option maxRecDepth 20000 in
theorem e_L_law_355 : rn Ls xs d 0 355 [l0, l1, l2, l3] (.inl i :: .inr (.inr 0) :: st) H = if 0 ≤ i.toInt ∧ i.toInt < (Ls : Int) then rn Ls xs d 0 356 [l0, l1, l2, l3] (.inl (xs i.toNatClampNeg) :: st) H else none := rn_pc rfl rfl
set_option maxRecDepth 20000 in
theorem e_L_law_356 : rn Ls xs (d + 1) 0 356 [l0, l1, l2, l3] [v2, v1, (.inr (.inl (some a)))] (S, I, R) = if h_is S a 8 10 then rb Ls xs (d + 1) 0 359 [l0, l1, l2, l3] [] (rn Ls xs d 9 0 [some (.inr (.inl (some a))), some v1, some v2, none, none] [] (S, I, R)) else none := rn_callO rfl rfl (Nat.le_of_ble_eq_true rfl) rfl rfl
set_option maxRecDepth 20000 in
theorem e_L_law_359 : rn Ls xs d 0 359 [l0, l1, some (.inr u), l3] st H = rn Ls xs d 0 360 [l0, l1, some (.inr u), l3] (.inr u :: st) H := rn_nx rfl rfl
set_option maxRecDepth 20000 in
theorem e_L_law_360 : rn Ls xs d 0 360 [some (.inr u), l1, l2, l3] st H = rn Ls xs d 0 361 [some (.inr u), l1, l2, l3] (.inr u :: st) H := rn_nx rfl rfl
set_option maxRecDepth 20000 in
theorem e_L_law_361 : rn Ls xs d 0 361 [l0, l1, l2, some (.inl x)] st H = rn Ls xs d 0 362 [l0, l1, l2, some (.inl x)] (.inl x :: st) H := rn_nx rfl rfl
set_option maxRecDepth 20000 in
theorem e_L_law_362 : rn Ls xs d 0 362 [l0, l1, l2, l3]  st H = rn Ls xs d 0 363 [l0, l1, l2, l3] (.inl 1 :: st) H := rn_nx rfl rfl
set_option maxRecDepth 20000 in
theorem e_L_law_363 : rn Ls xs d 0 363 [l0, l1, l2, l3] (.inl y :: .inl x :: st) H = rn Ls xs d 0 364 [l0, l1, l2, l3] (.inl (x + y) :: st) H := rn_nx rfl rfl
end EQ

section EQ
variable {Ls : Nat} {xs : Nat → Int32} {d : Nat} {l0 l1 l2 l3 l4 l5 l6 l7 l8 l9 l10 l11 l12 : Option mV} {st : List mV} {H : mH} {S : mS} {I : mI} {R : mR} {x y z i : Int32} {a b : Nat} {k : Nat} {v w : mV} {u : mr} {v0 v1 v2 v3 v4 v5 v6 v7 v8 v9 v10 v11 : mV}
theorem e_F_init_0 : rn Ls xs d 88 0 [some (.inr u)] st H = rn Ls xs d 88 1 [some (.inr u)] (.inr u :: st) H := rn_nx rfl rfl
theorem e_F_init_1 : rn Ls xs (d + 1) 88 1 [l0] (.inr (.inl (some a)) :: []) H = rn Ls xs (d + 1) 88 4 [l0] [] H := rn_nx rfl rfl
theorem e_F_init_4 : rn Ls xs d 88 4 [some (.inr u)] st H = rn Ls xs d 88 5 [some (.inr u)] (.inr u :: st) H := rn_nx rfl rfl
theorem e_F_init_5 : rn Ls xs d 88 5 [l0] st (S, I, R) = rn Ls xs d 88 8 [l0] (.inr (.inl (some S.2.1)) :: st) (h_mk (S, I, R) 3 11) := rn_nx rfl rfl
theorem e_F_init_8 : rn Ls xs d 88 8 [l0] (v :: st) H = rn Ls xs d 88 9 [l0] (v :: v :: st) H := rn_nx rfl rfl
theorem e_F_init_9 : rn Ls xs (d + 1) 88 9 [l0] [(.inr (.inl (some a))), v1, v2] (S, I, R) = if h_is S a 3 11 then rb Ls xs (d + 1) 88 12 [l0] [v1, v2] (rn Ls xs d 87 0 [some (.inr (.inl (some a))), none] [] (S, I, R)) else none := rn_callO rfl rfl (Nat.le_of_ble_eq_true rfl) rfl rfl
theorem e_F_init_12 : rn Ls xs d 88 12 [l0] (.inr u :: .inr (.inl (some a)) :: st) (S, I, R) = if h_is S a 0 5 then rn Ls xs d 88 15 [l0] st (S, I, va_up R a (va_up (R a) 0 u)) else none := rn_bc rfl rfl
theorem e_F_init_15 : rn Ls xs d 88 15 [some (.inr u)] st H = rn Ls xs d 88 16 [some (.inr u)] (.inr u :: st) H := rn_nx rfl rfl
theorem e_F_init_16 : rn Ls xs d 88 16 [l0]  st H = rn Ls xs d 88 18 [l0] (.inl 61 :: st) H := rn_nx rfl rfl
theorem e_F_init_18 : rn Ls xs d 88 18 [l0] (.inl x :: st) (S, I, R) = if 0 ≤ x.toInt ∧ x.toInt ≤ 100000 then rn Ls xs d 88 20 [l0] (.inr (.inl (some S.2.1)) :: st) (h_mk (S, I, R) (100 + 0) x.toNatClampNeg) else none := rn_pc rfl rfl
theorem e_F_init_20 : rn Ls xs d 88 20 [l0] (.inr u :: .inr (.inl (some a)) :: st) (S, I, R) = if h_is S a 0 5 then rn Ls xs d 88 23 [l0] st (S, I, va_up R a (va_up (R a) 1 u)) else none := rn_bc rfl rfl
theorem e_F_init_23 : rn Ls xs d 88 23 [some (.inr u)] st H = rn Ls xs d 88 24 [some (.inr u)] (.inr u :: st) H := rn_nx rfl rfl
theorem e_F_init_24 : rn Ls xs d 88 24 [l0]  st H = rn Ls xs d 88 26 [l0] (.inl 30 :: st) H := rn_nx rfl rfl
theorem e_F_init_26 : rn Ls xs d 88 26 [l0] (.inl x :: st) (S, I, R) = if 0 ≤ x.toInt ∧ x.toInt ≤ 100000 then rn Ls xs d 88 28 [l0] (.inr (.inl (some S.2.1)) :: st) (h_mk (S, I, R) (100 + 0) x.toNatClampNeg) else none := rn_pc rfl rfl
theorem e_F_init_28 : rn Ls xs d 88 28 [l0] (.inr u :: .inr (.inl (some a)) :: st) (S, I, R) = if h_is S a 0 5 then rn Ls xs d 88 31 [l0] st (S, I, va_up R a (va_up (R a) 2 u)) else none := rn_bc rfl rfl
theorem e_F_init_31 : rn Ls xs d 88 31 [some (.inr u)] st H = rn Ls xs d 88 32 [some (.inr u)] (.inr u :: st) H := rn_nx rfl rfl
theorem e_F_init_32 : rn Ls xs d 88 32 [l0]  st H = rn Ls xs d 88 34 [l0] (.inl (-1000000005) :: st) H := rn_nx rfl rfl
theorem e_F_init_34 : rn Ls xs d 88 34 [l0] (.inl x :: .inr (.inl (some a)) :: st) (S, I, R) = if h_is S a 0 5 then rn Ls xs d 88 37 [l0] st (S, va_up I a (upd (I a) 3 x), R) else none := rn_bc rfl rfl
theorem e_F_init_37 : rn Ls xs d 88 37 [some (.inr u)] st H = rn Ls xs d 88 38 [some (.inr u)] (.inr u :: st) H := rn_nx rfl rfl
theorem e_F_init_38 : rn Ls xs d 88 38 [l0]  st H = rn Ls xs d 88 40 [l0] (.inl (-1000000005) :: st) H := rn_nx rfl rfl
theorem e_F_init_40 : rn Ls xs d 88 40 [l0] (.inl x :: .inr (.inl (some a)) :: st) (S, I, R) = if h_is S a 0 5 then rn Ls xs d 88 43 [l0] st (S, va_up I a (upd (I a) 4 x), R) else none := rn_bc rfl rfl
theorem e_F_init_43 : rn Ls xs d 88 43 [l0] [] H = some (none, H) := rn_done rfl rfl
theorem e_T_init_0 : rn Ls xs d 89 0 [some (.inr u)] st H = rn Ls xs d 89 1 [some (.inr u)] (.inr u :: st) H := rn_nx rfl rfl
theorem e_T_init_1 : rn Ls xs (d + 1) 89 1 [l0] (.inr (.inl (some a)) :: []) H = rn Ls xs (d + 1) 89 4 [l0] [] H := rn_nx rfl rfl
theorem e_T_init_4 : rn Ls xs d 89 4 [some (.inr u)] st H = rn Ls xs d 89 5 [some (.inr u)] (.inr u :: st) H := rn_nx rfl rfl
theorem e_T_init_5 : rn Ls xs d 89 5 [l0]  st H = rn Ls xs d 89 7 [l0] (.inl 96 :: st) H := rn_nx rfl rfl
theorem e_T_init_7 : rn Ls xs d 89 7 [l0] (.inl x :: st) (S, I, R) = if 0 ≤ x.toInt ∧ x.toInt ≤ 100000 then rn Ls xs d 89 9 [l0] (.inr (.inl (some S.2.1)) :: st) (h_mk (S, I, R) (100 + 0) x.toNatClampNeg) else none := rn_pc rfl rfl
theorem e_T_init_9 : rn Ls xs d 89 9 [l0] (.inr u :: .inr (.inl (some a)) :: st) (S, I, R) = if h_is S a 5 2 then rn Ls xs d 89 12 [l0] st (S, I, va_up R a (va_up (R a) 0 u)) else none := rn_bc rfl rfl
theorem e_T_init_12 : rn Ls xs d 89 12 [some (.inr u)] st H = rn Ls xs d 89 13 [some (.inr u)] (.inr u :: st) H := rn_nx rfl rfl
theorem e_T_init_13 : rn Ls xs d 89 13 [l0]  st H = rn Ls xs d 89 14 [l0] (.inl 0 :: st) H := rn_nx rfl rfl
theorem e_T_init_14 : rn Ls xs d 89 14 [l0] (.inl x :: .inr (.inl (some a)) :: st) (S, I, R) = if h_is S a 5 2 then rn Ls xs d 89 17 [l0] st (S, va_up I a (upd (I a) 1 x), R) else none := rn_bc rfl rfl
theorem e_T_init_17 : rn Ls xs d 89 17 [l0] [] H = some (none, H) := rn_done rfl rfl
theorem e_R_init_0 : rn Ls xs d 90 0 [some (.inr u), l1] st H = rn Ls xs d 90 1 [some (.inr u), l1] (.inr u :: st) H := rn_nx rfl rfl
theorem e_R_init_1 : rn Ls xs (d + 1) 90 1 [l0, l1] (.inr (.inl (some a)) :: []) H = rn Ls xs (d + 1) 90 4 [l0, l1] [] H := rn_nx rfl rfl
theorem e_R_init_4 : rn Ls xs d 90 4 [some (.inr u), l1] st H = rn Ls xs d 90 5 [some (.inr u), l1] (.inr u :: st) H := rn_nx rfl rfl
theorem e_R_init_5 : rn Ls xs d 90 5 [l0, l1]  st H = rn Ls xs d 90 7 [l0, l1] (.inl 96 :: st) H := rn_nx rfl rfl
theorem e_R_init_7 : rn Ls xs d 90 7 [l0, l1] (.inl x :: st) (S, I, R) = if 0 ≤ x.toInt ∧ x.toInt ≤ 100000 then rn Ls xs d 90 9 [l0, l1] (.inr (.inl (some S.2.1)) :: st) (h_mk (S, I, R) (100 + 0) x.toNatClampNeg) else none := rn_pc rfl rfl
theorem e_R_init_9 : rn Ls xs d 90 9 [l0, l1] (.inr u :: .inr (.inl (some a)) :: st) (S, I, R) = if h_is S a 1 10 then rn Ls xs d 90 12 [l0, l1] st (S, I, va_up R a (va_up (R a) 1 u)) else none := rn_bc rfl rfl
theorem e_R_init_12 : rn Ls xs d 90 12 [some (.inr u), l1] st H = rn Ls xs d 90 13 [some (.inr u), l1] (.inr u :: st) H := rn_nx rfl rfl
theorem e_R_init_13 : rn Ls xs d 90 13 [l0, l1] st H = rn Ls xs d 90 15 [l0, l1] (.inr (.inr 10) :: st) H := rn_nx rfl rfl
theorem e_R_init_15 : rn Ls xs d 90 15 [l0, l1] (.inr u :: .inr (.inl (some a)) :: st) (S, I, R) = if h_is S a 1 10 then rn Ls xs d 90 18 [l0, l1] st (S, I, va_up R a (va_up (R a) 4 u)) else none := rn_bc rfl rfl
theorem e_R_init_18 : rn Ls xs d 90 18 [some (.inr u), l1] st H = rn Ls xs d 90 19 [some (.inr u), l1] (.inr u :: st) H := rn_nx rfl rfl
theorem e_R_init_19 : rn Ls xs d 90 19 [l0, some (.inr u)] st H = rn Ls xs d 90 20 [l0, some (.inr u)] (.inr u :: st) H := rn_nx rfl rfl
theorem e_R_init_20 : rn Ls xs d 90 20 [l0, l1] (.inr u :: .inr (.inl (some a)) :: st) (S, I, R) = if h_is S a 1 10 then rn Ls xs d 90 23 [l0, l1] st (S, I, va_up R a (va_up (R a) 0 u)) else none := rn_bc rfl rfl
theorem e_R_init_23 : rn Ls xs d 90 23 [l0, l1] [] H = some (none, H) := rn_done rfl rfl
theorem e_H_init_0 : rn Ls xs d 91 0 [some (.inr u)] st H = rn Ls xs d 91 1 [some (.inr u)] (.inr u :: st) H := rn_nx rfl rfl
theorem e_H_init_1 : rn Ls xs (d + 1) 91 1 [l0] (.inr (.inl (some a)) :: []) H = rn Ls xs (d + 1) 91 4 [l0] [] H := rn_nx rfl rfl
theorem e_H_init_4 : rn Ls xs d 91 4 [some (.inr u)] st H = rn Ls xs d 91 5 [some (.inr u)] (.inr u :: st) H := rn_nx rfl rfl
theorem e_H_init_5 : rn Ls xs d 91 5 [l0]  st H = rn Ls xs d 91 7 [l0] (.inl 24 :: st) H := rn_nx rfl rfl
theorem e_H_init_7 : rn Ls xs d 91 7 [l0] (.inl x :: st) (S, I, R) = if 0 ≤ x.toInt ∧ x.toInt ≤ 100000 then rn Ls xs d 91 9 [l0] (.inr (.inl (some S.2.1)) :: st) (h_mk (S, I, R) (100 + 0) x.toNatClampNeg) else none := rn_pc rfl rfl
theorem e_H_init_9 : rn Ls xs d 91 9 [l0] (.inr u :: .inr (.inl (some a)) :: st) (S, I, R) = if h_is S a 2 3 then rn Ls xs d 91 12 [l0] st (S, I, va_up R a (va_up (R a) 0 u)) else none := rn_bc rfl rfl
theorem e_H_init_12 : rn Ls xs d 91 12 [some (.inr u)] st H = rn Ls xs d 91 13 [some (.inr u)] (.inr u :: st) H := rn_nx rfl rfl
theorem e_H_init_13 : rn Ls xs d 91 13 [l0]  st H = rn Ls xs d 91 14 [l0] (.inl (-1) :: st) H := rn_nx rfl rfl
theorem e_H_init_14 : rn Ls xs d 91 14 [l0] (.inl x :: .inr (.inl (some a)) :: st) (S, I, R) = if h_is S a 2 3 then rn Ls xs d 91 17 [l0] st (S, va_up I a (upd (I a) 1 x), R) else none := rn_bc rfl rfl
theorem e_H_init_17 : rn Ls xs d 91 17 [some (.inr u)] st H = rn Ls xs d 91 18 [some (.inr u)] (.inr u :: st) H := rn_nx rfl rfl
theorem e_H_init_18 : rn Ls xs d 91 18 [l0]  st H = rn Ls xs d 91 19 [l0] (.inl 0 :: st) H := rn_nx rfl rfl
theorem e_H_init_19 : rn Ls xs d 91 19 [l0] (.inl x :: .inr (.inl (some a)) :: st) (S, I, R) = if h_is S a 2 3 then rn Ls xs d 91 22 [l0] st (S, va_up I a (upd (I a) 2 x), R) else none := rn_bc rfl rfl
theorem e_H_init_22 : rn Ls xs d 91 22 [l0] [] H = some (none, H) := rn_done rfl rfl
theorem e_O_init_0 : rn Ls xs d 92 0 [some (.inr u)] st H = rn Ls xs d 92 1 [some (.inr u)] (.inr u :: st) H := rn_nx rfl rfl
theorem e_O_init_1 : rn Ls xs (d + 1) 92 1 [l0] (.inr (.inl (some a)) :: []) H = rn Ls xs (d + 1) 92 4 [l0] [] H := rn_nx rfl rfl
theorem e_O_init_4 : rn Ls xs d 92 4 [some (.inr u)] st H = rn Ls xs d 92 5 [some (.inr u)] (.inr u :: st) H := rn_nx rfl rfl
theorem e_O_init_5 : rn Ls xs d 92 5 [l0] st (S, I, R) = rn Ls xs d 92 8 [l0] (.inr (.inl (some S.2.1)) :: st) (h_mk (S, I, R) 7 6) := rn_nx rfl rfl
theorem e_O_init_8 : rn Ls xs d 92 8 [l0] (v :: st) H = rn Ls xs d 92 9 [l0] (v :: v :: st) H := rn_nx rfl rfl
theorem e_O_init_9 : rn Ls xs (d + 1) 92 9 [l0] [(.inr (.inl (some a))), v1, v2] (S, I, R) = if h_is S a 7 6 then rb Ls xs (d + 1) 92 12 [l0] [v1, v2] (rn Ls xs d 173 0 [some (.inr (.inl (some a)))] [] (S, I, R)) else none := rn_callO rfl rfl (Nat.le_of_ble_eq_true rfl) rfl rfl
theorem e_O_init_12 : rn Ls xs d 92 12 [l0] (.inr u :: .inr (.inl (some a)) :: st) (S, I, R) = if h_is S a 4 4 then rn Ls xs d 92 15 [l0] st (S, I, va_up R a (va_up (R a) 0 u)) else none := rn_bc rfl rfl
theorem e_O_init_15 : rn Ls xs d 92 15 [some (.inr u)] st H = rn Ls xs d 92 16 [some (.inr u)] (.inr u :: st) H := rn_nx rfl rfl
theorem e_O_init_16 : rn Ls xs d 92 16 [l0] st (S, I, R) = rn Ls xs d 92 19 [l0] (.inr (.inl (some S.2.1)) :: st) (h_mk (S, I, R) 2 3) := rn_nx rfl rfl
theorem e_O_init_19 : rn Ls xs d 92 19 [l0] (v :: st) H = rn Ls xs d 92 20 [l0] (v :: v :: st) H := rn_nx rfl rfl
theorem e_O_init_20 : rn Ls xs (d + 1) 92 20 [l0] [(.inr (.inl (some a))), v1, v2] (S, I, R) = if h_is S a 2 3 then rb Ls xs (d + 1) 92 23 [l0] [v1, v2] (rn Ls xs d 91 0 [some (.inr (.inl (some a)))] [] (S, I, R)) else none := rn_callO rfl rfl (Nat.le_of_ble_eq_true rfl) rfl rfl
theorem e_O_init_23 : rn Ls xs d 92 23 [l0] (.inr u :: .inr (.inl (some a)) :: st) (S, I, R) = if h_is S a 4 4 then rn Ls xs d 92 26 [l0] st (S, I, va_up R a (va_up (R a) 1 u)) else none := rn_bc rfl rfl
theorem e_O_init_26 : rn Ls xs d 92 26 [some (.inr u)] st H = rn Ls xs d 92 27 [some (.inr u)] (.inr u :: st) H := rn_nx rfl rfl
theorem e_O_init_27 : rn Ls xs d 92 27 [l0]  st H = rn Ls xs d 92 28 [l0] (.inl 0 :: st) H := rn_nx rfl rfl
theorem e_O_init_28 : rn Ls xs d 92 28 [l0] (.inl x :: .inr (.inl (some a)) :: st) (S, I, R) = if h_is S a 4 4 then rn Ls xs d 92 31 [l0] st (S, va_up I a (upd (I a) 2 x), R) else none := rn_bc rfl rfl
theorem e_O_init_31 : rn Ls xs d 92 31 [some (.inr u)] st H = rn Ls xs d 92 32 [some (.inr u)] (.inr u :: st) H := rn_nx rfl rfl
theorem e_O_init_32 : rn Ls xs d 92 32 [l0]  st H = rn Ls xs d 92 33 [l0] (.inl 0 :: st) H := rn_nx rfl rfl
theorem e_O_init_33 : rn Ls xs d 92 33 [l0] (.inl x :: .inr (.inl (some a)) :: st) (S, I, R) = if h_is S a 4 4 then rn Ls xs d 92 36 [l0] st (S, va_up I a (upd (I a) 3 x), R) else none := rn_bc rfl rfl
theorem e_O_init_36 : rn Ls xs d 92 36 [l0] [] H = some (none, H) := rn_done rfl rfl
theorem e_W_isKind_0 : rn Ls xs d 93 0 [some (.inl x)] st H = rn Ls xs d 93 1 [some (.inl x)] (.inl x :: st) H := rn_nx rfl rfl
theorem e_W_isKind_1 : rn Ls xs d 93 1 [l0]  st H = rn Ls xs d 93 2 [l0] (.inl 0 :: st) H := rn_nx rfl rfl
theorem e_W_isKind_2 : rn Ls xs d 93 2 [l0]  st H = rn Ls xs d 93 3 [l0] (.inl 5 :: st) H := rn_nx rfl rfl
theorem e_W_isKind_3 : rn Ls xs (d + 1) 93 3 [l0] [v2, v1, v0] H = rb Ls xs (d + 1) 93 6 [l0] [] (rn Ls xs d 94 0 [some v0, some v1, some v2] [] H) := rn_call rfl (Nat.le_of_ble_eq_true rfl) (Nat.le_of_ble_eq_true rfl) rfl rfl
theorem e_W_isKind_6 : rn Ls xs d 93 6 [l0] [.inl x] H = if h_bo x then some (some (.inl x), H) else none := rn_zret rfl
theorem e_W_within_0 : rn Ls xs d 94 0 [some (.inl x), l1, l2] st H = rn Ls xs d 94 1 [some (.inl x), l1, l2] (.inl x :: st) H := rn_nx rfl rfl
theorem e_W_within_1 : rn Ls xs d 94 1 [l0, some (.inl x), l2] st H = rn Ls xs d 94 2 [l0, some (.inl x), l2] (.inl x :: st) H := rn_nx rfl rfl
theorem e_W_within_2 : rn Ls xs d 94 2 [l0, l1, l2] (.inl y :: .inl x :: st) H = if x < y then rn Ls xs d 94 14 [l0, l1, l2] st H else rn Ls xs d 94 5 [l0, l1, l2] st H := rn_cmp (p := fun x y => x < y) rfl
theorem e_W_within_5 : rn Ls xs d 94 5 [some (.inl x), l1, l2] st H = rn Ls xs d 94 6 [some (.inl x), l1, l2] (.inl x :: st) H := rn_nx rfl rfl
theorem e_W_within_6 : rn Ls xs d 94 6 [l0, l1, some (.inl x)] st H = rn Ls xs d 94 7 [l0, l1, some (.inl x)] (.inl x :: st) H := rn_nx rfl rfl
theorem e_W_within_7 : rn Ls xs d 94 7 [l0, l1, l2] (.inl y :: .inl x :: st) H = if y < x then rn Ls xs d 94 14 [l0, l1, l2] st H else rn Ls xs d 94 10 [l0, l1, l2] st H := rn_cmp (p := fun x y => y < x) rfl
theorem e_W_within_10 : rn Ls xs d 94 10 [l0, l1, l2]  st H = rn Ls xs d 94 11 [l0, l1, l2] (.inl 1 :: st) H := rn_nx rfl rfl
theorem e_W_within_11 : rn Ls xs d 94 11 [l0, l1, l2] st H = rn Ls xs d 94 15 [l0, l1, l2] st H := rn_nx rfl rfl
theorem e_W_within_14 : rn Ls xs d 94 14 [l0, l1, l2]  st H = rn Ls xs d 94 15 [l0, l1, l2] (.inl 0 :: st) H := rn_nx rfl rfl
theorem e_W_within_15 : rn Ls xs d 94 15 [l0, l1, l2] [.inl x] H = if h_bo x then some (some (.inl x), H) else none := rn_zret rfl
theorem e_W_isPlace_0 : rn Ls xs d 95 0 [some (.inl x)] st H = rn Ls xs d 95 1 [some (.inl x)] (.inl x :: st) H := rn_nx rfl rfl
theorem e_W_isPlace_1 : rn Ls xs d 95 1 [l0]  st H = rn Ls xs d 95 2 [l0] (.inl 0 :: st) H := rn_nx rfl rfl
theorem e_W_isPlace_2 : rn Ls xs d 95 2 [l0]  st H = rn Ls xs d 95 4 [l0] (.inl 29 :: st) H := rn_nx rfl rfl
theorem e_W_isPlace_4 : rn Ls xs (d + 1) 95 4 [l0] [v2, v1, v0] H = rb Ls xs (d + 1) 95 7 [l0] [] (rn Ls xs d 94 0 [some v0, some v1, some v2] [] H) := rn_call rfl (Nat.le_of_ble_eq_true rfl) (Nat.le_of_ble_eq_true rfl) rfl rfl
theorem e_W_isPlace_7 : rn Ls xs d 95 7 [l0] [.inl x] H = if h_bo x then some (some (.inl x), H) else none := rn_zret rfl
theorem e_S_addWreck_0 : rn Ls xs d 96 0 [some (.inr u), l1, l2, l3, l4, l5, l6] st H = rn Ls xs d 96 1 [some (.inr u), l1, l2, l3, l4, l5, l6] (.inr u :: st) H := rn_nx rfl rfl
theorem e_S_addWreck_1 : rn Ls xs d 96 1 [l0, l1, l2, l3, l4, l5, l6] (.inr (.inl (some a)) :: st) (S, I, R) = if h_is S a 3 11 then rn Ls xs d 96 4 [l0, l1, l2, l3, l4, l5, l6] (.inl (I a 3) :: st) (S, I, R) else none := rn_bc rfl rfl
theorem e_S_addWreck_4 : rn Ls xs d 96 4 [l0, l1, l2, l3, l4, l5, l6]  st H = rn Ls xs d 96 6 [l0, l1, l2, l3, l4, l5, l6] (.inl 14 :: st) H := rn_nx rfl rfl
theorem e_S_addWreck_6 : rn Ls xs d 96 6 [l0, l1, l2, l3, l4, l5, l6] (.inl y :: .inl x :: st) H = if x < y then rn Ls xs d 96 11 [l0, l1, l2, l3, l4, l5, l6] st H else rn Ls xs d 96 9 [l0, l1, l2, l3, l4, l5, l6] st H := rn_cmp (p := fun x y => x < y) rfl
theorem e_S_addWreck_9 : rn Ls xs d 96 9 [l0, l1, l2, l3, l4, l5, l6]  st H = rn Ls xs d 96 10 [l0, l1, l2, l3, l4, l5, l6] (.inl 0 :: st) H := rn_nx rfl rfl
theorem e_S_addWreck_10 : rn Ls xs d 96 10 [l0, l1, l2, l3, l4, l5, l6] [.inl x] H = if h_bo x then some (some (.inl x), H) else none := rn_zret rfl
theorem e_S_addWreck_11 : rn Ls xs d 96 11 [some (.inr u), l1, l2, l3, l4, l5, l6] st H = rn Ls xs d 96 12 [some (.inr u), l1, l2, l3, l4, l5, l6] (.inr u :: st) H := rn_nx rfl rfl
theorem e_S_addWreck_12 : rn Ls xs d 96 12 [l0, l1, l2, l3, l4, l5, l6] (.inr (.inl (some a)) :: st) (S, I, R) = if h_is S a 3 11 then rn Ls xs d 96 15 [l0, l1, l2, l3, l4, l5, l6] (.inr (R a 0) :: st) (S, I, R) else none := rn_bc rfl rfl
theorem e_S_addWreck_15 : rn Ls xs d 96 15 [some (.inr u), l1, l2, l3, l4, l5, l6] st H = rn Ls xs d 96 16 [some (.inr u), l1, l2, l3, l4, l5, l6] (.inr u :: st) H := rn_nx rfl rfl
theorem e_S_addWreck_16 : rn Ls xs d 96 16 [l0, l1, l2, l3, l4, l5, l6] (.inr (.inl (some a)) :: st) (S, I, R) = if h_is S a 3 11 then rn Ls xs d 96 19 [l0, l1, l2, l3, l4, l5, l6] (.inl (I a 3) :: st) (S, I, R) else none := rn_bc rfl rfl
theorem e_S_addWreck_19 : rn Ls xs d 96 19 [l0, l1, l2, l3, l4, l5, l6] (.inl i :: .inr (.inl (some a)) :: st) (S, I, R) = if h_ia S a 4 i then (match R a i.toNatClampNeg with | .inl o => rn Ls xs d 96 20 [l0, l1, l2, l3, l4, l5, l6] (.inr (.inl o) :: st) (S, I, R) | .inr _ => none) else none := rn_aald rfl
theorem e_S_addWreck_20 : rn Ls xs d 96 20 [l0, l1, l2, l3, l4, l5, l6] (.inr u :: st) H = rn Ls xs d 96 22 [l0, l1, l2, l3, l4, l5, some (.inr u)] st H := rn_nx rfl rfl
theorem e_S_addWreck_22 : rn Ls xs d 96 22 [some (.inr u), l1, l2, l3, l4, l5, l6] st H = rn Ls xs d 96 23 [some (.inr u), l1, l2, l3, l4, l5, l6] (.inr u :: st) H := rn_nx rfl rfl
theorem e_S_addWreck_23 : rn Ls xs d 96 23 [l0, l1, l2, l3, l4, l5, l6] (v :: st) H = rn Ls xs d 96 24 [l0, l1, l2, l3, l4, l5, l6] (v :: v :: st) H := rn_nx rfl rfl
theorem e_S_addWreck_24 : rn Ls xs d 96 24 [l0, l1, l2, l3, l4, l5, l6] (.inr (.inl (some a)) :: st) (S, I, R) = if h_is S a 3 11 then rn Ls xs d 96 27 [l0, l1, l2, l3, l4, l5, l6] (.inl (I a 3) :: st) (S, I, R) else none := rn_bc rfl rfl
theorem e_S_addWreck_27 : rn Ls xs d 96 27 [l0, l1, l2, l3, l4, l5, l6]  st H = rn Ls xs d 96 28 [l0, l1, l2, l3, l4, l5, l6] (.inl 1 :: st) H := rn_nx rfl rfl
theorem e_S_addWreck_28 : rn Ls xs d 96 28 [l0, l1, l2, l3, l4, l5, l6] (.inl y :: .inl x :: st) H = rn Ls xs d 96 29 [l0, l1, l2, l3, l4, l5, l6] (.inl (x + y) :: st) H := rn_nx rfl rfl
theorem e_S_addWreck_29 : rn Ls xs d 96 29 [l0, l1, l2, l3, l4, l5, l6] (.inl x :: .inr (.inl (some a)) :: st) (S, I, R) = if h_is S a 3 11 then rn Ls xs d 96 32 [l0, l1, l2, l3, l4, l5, l6] st (S, va_up I a (upd (I a) 3 x), R) else none := rn_bc rfl rfl
theorem e_S_addWreck_32 : rn Ls xs d 96 32 [l0, l1, l2, l3, l4, l5, some (.inr u)] st H = rn Ls xs d 96 34 [l0, l1, l2, l3, l4, l5, some (.inr u)] (.inr u :: st) H := rn_nx rfl rfl
theorem e_S_addWreck_34 : rn Ls xs d 96 34 [l0, some (.inl x), l2, l3, l4, l5, l6] st H = rn Ls xs d 96 35 [l0, some (.inl x), l2, l3, l4, l5, l6] (.inl x :: st) H := rn_nx rfl rfl
theorem e_S_addWreck_35 : rn Ls xs d 96 35 [l0, l1, l2, l3, l4, l5, l6] (.inl x :: .inr (.inl (some a)) :: st) (S, I, R) = if h_is S a 7 6 then rn Ls xs d 96 38 [l0, l1, l2, l3, l4, l5, l6] st (S, va_up I a (upd (I a) 0 x), R) else none := rn_bc rfl rfl
theorem e_S_addWreck_38 : rn Ls xs d 96 38 [l0, l1, l2, l3, l4, l5, some (.inr u)] st H = rn Ls xs d 96 40 [l0, l1, l2, l3, l4, l5, some (.inr u)] (.inr u :: st) H := rn_nx rfl rfl
theorem e_S_addWreck_40 : rn Ls xs d 96 40 [l0, l1, some (.inl x), l3, l4, l5, l6] st H = rn Ls xs d 96 41 [l0, l1, some (.inl x), l3, l4, l5, l6] (.inl x :: st) H := rn_nx rfl rfl
theorem e_S_addWreck_41 : rn Ls xs d 96 41 [l0, l1, l2, l3, l4, l5, l6] (.inl x :: .inr (.inl (some a)) :: st) (S, I, R) = if h_is S a 7 6 then rn Ls xs d 96 44 [l0, l1, l2, l3, l4, l5, l6] st (S, va_up I a (upd (I a) 1 x), R) else none := rn_bc rfl rfl
theorem e_S_addWreck_44 : rn Ls xs d 96 44 [l0, l1, l2, l3, l4, l5, some (.inr u)] st H = rn Ls xs d 96 46 [l0, l1, l2, l3, l4, l5, some (.inr u)] (.inr u :: st) H := rn_nx rfl rfl
theorem e_S_addWreck_46 : rn Ls xs d 96 46 [l0, l1, l2, some (.inl x), l4, l5, l6] st H = rn Ls xs d 96 47 [l0, l1, l2, some (.inl x), l4, l5, l6] (.inl x :: st) H := rn_nx rfl rfl
theorem e_S_addWreck_47 : rn Ls xs d 96 47 [l0, l1, l2, l3, l4, l5, l6] (.inl x :: .inr (.inl (some a)) :: st) (S, I, R) = if h_is S a 7 6 then rn Ls xs d 96 50 [l0, l1, l2, l3, l4, l5, l6] st (S, va_up I a (upd (I a) 2 x), R) else none := rn_bc rfl rfl
theorem e_S_addWreck_50 : rn Ls xs d 96 50 [l0, l1, l2, l3, l4, l5, some (.inr u)] st H = rn Ls xs d 96 52 [l0, l1, l2, l3, l4, l5, some (.inr u)] (.inr u :: st) H := rn_nx rfl rfl
theorem e_S_addWreck_52 : rn Ls xs d 96 52 [l0, l1, l2, l3, some (.inl x), l5, l6] st H = rn Ls xs d 96 54 [l0, l1, l2, l3, some (.inl x), l5, l6] (.inl x :: st) H := rn_nx rfl rfl
theorem e_S_addWreck_54 : rn Ls xs d 96 54 [l0, l1, l2, l3, l4, l5, l6] (.inl x :: .inr (.inl (some a)) :: st) (S, I, R) = if h_is S a 7 6 then rn Ls xs d 96 57 [l0, l1, l2, l3, l4, l5, l6] st (S, va_up I a (upd (I a) 3 x), R) else none := rn_bc rfl rfl
theorem e_S_addWreck_57 : rn Ls xs d 96 57 [l0, l1, l2, l3, l4, l5, some (.inr u)] st H = rn Ls xs d 96 59 [l0, l1, l2, l3, l4, l5, some (.inr u)] (.inr u :: st) H := rn_nx rfl rfl
theorem e_S_addWreck_59 : rn Ls xs d 96 59 [l0, l1, l2, l3, l4, some (.inl x), l6] st H = rn Ls xs d 96 61 [l0, l1, l2, l3, l4, some (.inl x), l6] (.inl x :: st) H := rn_nx rfl rfl
theorem e_S_addWreck_61 : rn Ls xs d 96 61 [l0, l1, l2, l3, l4, l5, l6] (.inl x :: .inr (.inl (some a)) :: st) (S, I, R) = if h_is S a 7 6 then rn Ls xs d 96 64 [l0, l1, l2, l3, l4, l5, l6] st (S, va_up I a (upd (I a) 4 x), R) else none := rn_bc rfl rfl
theorem e_S_addWreck_64 : rn Ls xs d 96 64 [l0, l1, l2, l3, l4, l5, some (.inr u)] st H = rn Ls xs d 96 66 [l0, l1, l2, l3, l4, l5, some (.inr u)] (.inr u :: st) H := rn_nx rfl rfl
theorem e_S_addWreck_66 : rn Ls xs d 96 66 [l0, l1, l2, l3, l4, l5, l6]  st H = rn Ls xs d 96 67 [l0, l1, l2, l3, l4, l5, l6] (.inl 1 :: st) H := rn_nx rfl rfl
theorem e_S_addWreck_67 : rn Ls xs d 96 67 [l0, l1, l2, l3, l4, l5, l6] (.inl x :: .inr (.inl (some a)) :: st) (S, I, R) = if h_is S a 7 6 && h_bo x then rn Ls xs d 96 70 [l0, l1, l2, l3, l4, l5, l6] st (S, va_up I a (upd (I a) 5 x), R) else none := rn_bc rfl rfl
theorem e_S_addWreck_70 : rn Ls xs d 96 70 [l0, l1, l2, l3, l4, l5, l6]  st H = rn Ls xs d 96 71 [l0, l1, l2, l3, l4, l5, l6] (.inl 1 :: st) H := rn_nx rfl rfl
theorem e_S_addWreck_71 : rn Ls xs d 96 71 [l0, l1, l2, l3, l4, l5, l6] [.inl x] H = if h_bo x then some (some (.inl x), H) else none := rn_zret rfl
theorem e_M_in_0 : rn Ls xs d 97 0 [some (.inl x), l1, l2] st H = rn Ls xs d 97 1 [some (.inl x), l1, l2] (.inl x :: st) H := rn_nx rfl rfl
theorem e_M_in_1 : rn Ls xs d 97 1 [l0, some (.inl x), l2] st H = rn Ls xs d 97 2 [l0, some (.inl x), l2] (.inl x :: st) H := rn_nx rfl rfl
theorem e_M_in_2 : rn Ls xs d 97 2 [l0, l1, l2] (.inl y :: .inl x :: st) H = if x < y then rn Ls xs d 97 14 [l0, l1, l2] st H else rn Ls xs d 97 5 [l0, l1, l2] st H := rn_cmp (p := fun x y => x < y) rfl
theorem e_M_in_5 : rn Ls xs d 97 5 [some (.inl x), l1, l2] st H = rn Ls xs d 97 6 [some (.inl x), l1, l2] (.inl x :: st) H := rn_nx rfl rfl
theorem e_M_in_6 : rn Ls xs d 97 6 [l0, l1, some (.inl x)] st H = rn Ls xs d 97 7 [l0, l1, some (.inl x)] (.inl x :: st) H := rn_nx rfl rfl
theorem e_M_in_7 : rn Ls xs d 97 7 [l0, l1, l2] (.inl y :: .inl x :: st) H = if y < x then rn Ls xs d 97 14 [l0, l1, l2] st H else rn Ls xs d 97 10 [l0, l1, l2] st H := rn_cmp (p := fun x y => y < x) rfl
theorem e_M_in_10 : rn Ls xs d 97 10 [l0, l1, l2]  st H = rn Ls xs d 97 11 [l0, l1, l2] (.inl 1 :: st) H := rn_nx rfl rfl
theorem e_M_in_11 : rn Ls xs d 97 11 [l0, l1, l2] st H = rn Ls xs d 97 15 [l0, l1, l2] st H := rn_nx rfl rfl
theorem e_M_in_14 : rn Ls xs d 97 14 [l0, l1, l2]  st H = rn Ls xs d 97 15 [l0, l1, l2] (.inl 0 :: st) H := rn_nx rfl rfl
theorem e_M_in_15 : rn Ls xs d 97 15 [l0, l1, l2] [.inl x] H = if h_bo x then some (some (.inl x), H) else none := rn_zret rfl
theorem e_M_isOf_0 : rn Ls xs d 98 0 [some (.inl x), l1] st H = rn Ls xs d 98 1 [some (.inl x), l1] (.inl x :: st) H := rn_nx rfl rfl
theorem e_M_isOf_1 : rn Ls xs d 98 1 [l0, l1] (.inl x :: st) H = if x = 1 then rn Ls xs d 98 32 [l0, l1] st H else if x = 2 then rn Ls xs d 98 40 [l0, l1] st H else if x = 3 then rn Ls xs d 98 48 [l0, l1] st H else if x = 4 then rn Ls xs d 98 57 [l0, l1] st H else rn Ls xs d 98 65 [l0, l1] st H := (rn_nx rfl rfl).trans (rn_tc rfl rfl (rn_tc rfl rfl (rn_tc rfl rfl (rn_tc rfl rfl (rn_tn)))))
theorem e_M_isOf_32 : rn Ls xs d 98 32 [l0, some (.inl x)] st H = rn Ls xs d 98 33 [l0, some (.inl x)] (.inl x :: st) H := rn_nx rfl rfl
theorem e_M_isOf_33 : rn Ls xs d 98 33 [l0, l1]  st H = rn Ls xs d 98 34 [l0, l1] (.inl 0 :: st) H := rn_nx rfl rfl
theorem e_M_isOf_34 : rn Ls xs d 98 34 [l0, l1]  st H = rn Ls xs d 98 36 [l0, l1] (.inl 7 :: st) H := rn_nx rfl rfl
theorem e_M_isOf_36 : rn Ls xs (d + 1) 98 36 [l0, l1] [v2, v1, v0] H = rb Ls xs (d + 1) 98 39 [l0, l1] [] (rn Ls xs d 97 0 [some v0, some v1, some v2] [] H) := rn_call rfl (Nat.le_of_ble_eq_true rfl) (Nat.le_of_ble_eq_true rfl) rfl rfl
theorem e_M_isOf_39 : rn Ls xs d 98 39 [l0, l1] [.inl x] H = if h_bo x then some (some (.inl x), H) else none := rn_zret rfl
theorem e_M_isOf_40 : rn Ls xs d 98 40 [l0, some (.inl x)] st H = rn Ls xs d 98 41 [l0, some (.inl x)] (.inl x :: st) H := rn_nx rfl rfl
theorem e_M_isOf_41 : rn Ls xs d 98 41 [l0, l1]  st H = rn Ls xs d 98 42 [l0, l1] (.inl 0 :: st) H := rn_nx rfl rfl
theorem e_M_isOf_42 : rn Ls xs d 98 42 [l0, l1]  st H = rn Ls xs d 98 44 [l0, l1] (.inl 29 :: st) H := rn_nx rfl rfl
theorem e_M_isOf_44 : rn Ls xs (d + 1) 98 44 [l0, l1] [v2, v1, v0] H = rb Ls xs (d + 1) 98 47 [l0, l1] [] (rn Ls xs d 97 0 [some v0, some v1, some v2] [] H) := rn_call rfl (Nat.le_of_ble_eq_true rfl) (Nat.le_of_ble_eq_true rfl) rfl rfl
theorem e_M_isOf_47 : rn Ls xs d 98 47 [l0, l1] [.inl x] H = if h_bo x then some (some (.inl x), H) else none := rn_zret rfl
theorem e_M_isOf_48 : rn Ls xs d 98 48 [l0, some (.inl x)] st H = rn Ls xs d 98 49 [l0, some (.inl x)] (.inl x :: st) H := rn_nx rfl rfl
theorem e_M_isOf_49 : rn Ls xs d 98 49 [l0, l1]  st H = rn Ls xs d 98 51 [l0, l1] (.inl (-9) :: st) H := rn_nx rfl rfl
theorem e_M_isOf_51 : rn Ls xs d 98 51 [l0, l1]  st H = rn Ls xs d 98 53 [l0, l1] (.inl 9 :: st) H := rn_nx rfl rfl
theorem e_M_isOf_53 : rn Ls xs (d + 1) 98 53 [l0, l1] [v2, v1, v0] H = rb Ls xs (d + 1) 98 56 [l0, l1] [] (rn Ls xs d 97 0 [some v0, some v1, some v2] [] H) := rn_call rfl (Nat.le_of_ble_eq_true rfl) (Nat.le_of_ble_eq_true rfl) rfl rfl
theorem e_M_isOf_56 : rn Ls xs d 98 56 [l0, l1] [.inl x] H = if h_bo x then some (some (.inl x), H) else none := rn_zret rfl
theorem e_M_isOf_57 : rn Ls xs d 98 57 [l0, some (.inl x)] st H = rn Ls xs d 98 58 [l0, some (.inl x)] (.inl x :: st) H := rn_nx rfl rfl
theorem e_M_isOf_58 : rn Ls xs d 98 58 [l0, l1]  st H = rn Ls xs d 98 59 [l0, l1] (.inl 1 :: st) H := rn_nx rfl rfl
theorem e_M_isOf_59 : rn Ls xs d 98 59 [l0, l1]  st H = rn Ls xs d 98 61 [l0, l1] (.inl 99 :: st) H := rn_nx rfl rfl
theorem e_M_isOf_61 : rn Ls xs (d + 1) 98 61 [l0, l1] [v2, v1, v0] H = rb Ls xs (d + 1) 98 64 [l0, l1] [] (rn Ls xs d 97 0 [some v0, some v1, some v2] [] H) := rn_call rfl (Nat.le_of_ble_eq_true rfl) (Nat.le_of_ble_eq_true rfl) rfl rfl
theorem e_M_isOf_64 : rn Ls xs d 98 64 [l0, l1] [.inl x] H = if h_bo x then some (some (.inl x), H) else none := rn_zret rfl
theorem e_M_isOf_65 : rn Ls xs d 98 65 [l0, some (.inl x)] st H = rn Ls xs d 98 66 [l0, some (.inl x)] (.inl x :: st) H := rn_nx rfl rfl
theorem e_M_isOf_66 : rn Ls xs d 98 66 [l0, l1]  st H = rn Ls xs d 98 67 [l0, l1] (.inl 0 :: st) H := rn_nx rfl rfl
theorem e_M_isOf_67 : rn Ls xs d 98 67 [l0, l1]  st H = rn Ls xs d 98 68 [l0, l1] (.inl 1 :: st) H := rn_nx rfl rfl
theorem e_M_isOf_68 : rn Ls xs (d + 1) 98 68 [l0, l1] [v2, v1, v0] H = rb Ls xs (d + 1) 98 71 [l0, l1] [] (rn Ls xs d 97 0 [some v0, some v1, some v2] [] H) := rn_call rfl (Nat.le_of_ble_eq_true rfl) (Nat.le_of_ble_eq_true rfl) rfl rfl
theorem e_M_isOf_71 : rn Ls xs d 98 71 [l0, l1] [.inl x] H = if h_bo x then some (some (.inl x), H) else none := rn_zret rfl
theorem e_M_comes_0 : rn Ls xs d 99 0 [some (.inr u), l1, l2, l3, l4, l5, l6] st H = rn Ls xs d 99 1 [some (.inr u), l1, l2, l3, l4, l5, l6] (.inr u :: st) H := rn_nx rfl rfl
theorem e_M_comes_1 : rn Ls xs d 99 1 [l0, l1, l2, l3, l4, l5, l6] (.inr (.inl (some a)) :: st) (S, I, R) = if h_is S a 9 36 then rn Ls xs d 99 4 [l0, l1, l2, l3, l4, l5, l6] (.inr (R a 0) :: st) (S, I, R) else none := rn_bc rfl rfl
theorem e_M_comes_4 : rn Ls xs d 99 4 [l0, l1, l2, l3, l4, l5, l6]  st H = rn Ls xs d 99 5 [l0, l1, l2, l3, l4, l5, l6] (.inl 1 :: st) H := rn_nx rfl rfl
theorem e_M_comes_5 : rn Ls xs d 99 5 [l0, l1, l2, l3, l4, l5, l6] (.inl i :: .inr (.inl (some a)) :: st) (S, I, R) = if h_ia S a 0 i then rn Ls xs d 99 6 [l0, l1, l2, l3, l4, l5, l6] (.inl (I a i.toNatClampNeg) :: st) (S, I, R) else none := rn_bc rfl rfl
theorem e_M_comes_6 : rn Ls xs d 99 6 [l0, l1, l2, l3, l4, l5, l6] (.inl x :: st) H = rn Ls xs d 99 8 [l0, l1, l2, l3, l4, l5, some (.inl x)] st H := rn_nx rfl rfl
theorem e_M_comes_8 : rn Ls xs d 99 8 [some (.inr u), l1, l2, l3, l4, l5, l6] st H = rn Ls xs d 99 9 [some (.inr u), l1, l2, l3, l4, l5, l6] (.inr u :: st) H := rn_nx rfl rfl
theorem e_M_comes_9 : rn Ls xs d 99 9 [l0, l1, l2, l3, l4, l5, l6] (.inr (.inl (some a)) :: st) (S, I, R) = if h_is S a 9 36 then rn Ls xs d 99 12 [l0, l1, l2, l3, l4, l5, l6] (.inr (R a 0) :: st) (S, I, R) else none := rn_bc rfl rfl
theorem e_M_comes_12 : rn Ls xs d 99 12 [l0, l1, l2, l3, l4, l5, l6]  st H = rn Ls xs d 99 13 [l0, l1, l2, l3, l4, l5, l6] (.inl 1 :: st) H := rn_nx rfl rfl
theorem e_M_comes_13 : rn Ls xs d 99 13 [l0, l1, l2, l3, l4, l5, l6] (v :: w :: st) H = rn Ls xs d 99 14 [l0, l1, l2, l3, l4, l5, l6] (v :: w :: v :: w :: st) H := rn_nx rfl rfl
theorem e_M_comes_14 : rn Ls xs d 99 14 [l0, l1, l2, l3, l4, l5, l6] (.inl i :: .inr (.inl (some a)) :: st) (S, I, R) = if h_ia S a 0 i then rn Ls xs d 99 15 [l0, l1, l2, l3, l4, l5, l6] (.inl (I a i.toNatClampNeg) :: st) (S, I, R) else none := rn_bc rfl rfl
theorem e_M_comes_15 : rn Ls xs d 99 15 [l0, l1, l2, l3, l4, l5, l6]  st H = rn Ls xs d 99 16 [l0, l1, l2, l3, l4, l5, l6] (.inl 1 :: st) H := rn_nx rfl rfl
theorem e_M_comes_16 : rn Ls xs d 99 16 [l0, l1, l2, l3, l4, l5, l6] (.inl y :: .inl x :: st) H = rn Ls xs d 99 17 [l0, l1, l2, l3, l4, l5, l6] (.inl (x + y) :: st) H := rn_nx rfl rfl
theorem e_M_comes_17 : rn Ls xs d 99 17 [l0, l1, l2, l3, l4, l5, l6] (.inl x :: .inl i :: .inr (.inl (some a)) :: st) (S, I, R) = if h_ia S a 0 i then rn Ls xs d 99 18 [l0, l1, l2, l3, l4, l5, l6] st (S, va_up I a (upd (I a) i.toNatClampNeg x), R) else none := rn_bc rfl rfl
theorem e_M_comes_18 : rn Ls xs d 99 18 [some (.inr u), l1, l2, l3, l4, l5, l6] st H = rn Ls xs d 99 19 [some (.inr u), l1, l2, l3, l4, l5, l6] (.inr u :: st) H := rn_nx rfl rfl
theorem e_M_comes_19 : rn Ls xs d 99 19 [l0, l1, l2, l3, l4, l5, some (.inl x)] st H = rn Ls xs d 99 21 [l0, l1, l2, l3, l4, l5, some (.inl x)] (.inl x :: st) H := rn_nx rfl rfl
theorem e_M_comes_21 : rn Ls xs d 99 21 [l0, l1, l2, l3, l4, l5, l6]  st H = rn Ls xs d 99 22 [l0, l1, l2, l3, l4, l5, l6] (.inl 0 :: st) H := rn_nx rfl rfl
theorem e_M_comes_22 : rn Ls xs d 99 22 [l0, some (.inl x), l2, l3, l4, l5, l6] st H = rn Ls xs d 99 23 [l0, some (.inl x), l2, l3, l4, l5, l6] (.inl x :: st) H := rn_nx rfl rfl
theorem e_M_comes_23 : rn Ls xs (d + 1) 99 23 [l0, l1, l2, l3, l4, l5, l6] [v3, v2, v1, (.inr (.inl (some a)))] (S, I, R) = if h_is S a 9 36 then rb Ls xs (d + 1) 99 26 [l0, l1, l2, l3, l4, l5, l6] [] (rn Ls xs d 114 0 [some (.inr (.inl (some a))), some v1, some v2, some v3] [] (S, I, R)) else none := rn_callO rfl rfl (Nat.le_of_ble_eq_true rfl) rfl rfl
theorem e_M_comes_26 : rn Ls xs d 99 26 [some (.inr u), l1, l2, l3, l4, l5, l6] st H = rn Ls xs d 99 27 [some (.inr u), l1, l2, l3, l4, l5, l6] (.inr u :: st) H := rn_nx rfl rfl
theorem e_M_comes_27 : rn Ls xs d 99 27 [l0, l1, l2, l3, l4, l5, some (.inl x)] st H = rn Ls xs d 99 29 [l0, l1, l2, l3, l4, l5, some (.inl x)] (.inl x :: st) H := rn_nx rfl rfl
theorem e_M_comes_29 : rn Ls xs d 99 29 [l0, l1, l2, l3, l4, l5, l6]  st H = rn Ls xs d 99 30 [l0, l1, l2, l3, l4, l5, l6] (.inl 1 :: st) H := rn_nx rfl rfl
theorem e_M_comes_30 : rn Ls xs d 99 30 [l0, l1, some (.inl x), l3, l4, l5, l6] st H = rn Ls xs d 99 31 [l0, l1, some (.inl x), l3, l4, l5, l6] (.inl x :: st) H := rn_nx rfl rfl
theorem e_M_comes_31 : rn Ls xs (d + 1) 99 31 [l0, l1, l2, l3, l4, l5, l6] [v3, v2, v1, (.inr (.inl (some a)))] (S, I, R) = if h_is S a 9 36 then rb Ls xs (d + 1) 99 34 [l0, l1, l2, l3, l4, l5, l6] [] (rn Ls xs d 114 0 [some (.inr (.inl (some a))), some v1, some v2, some v3] [] (S, I, R)) else none := rn_callO rfl rfl (Nat.le_of_ble_eq_true rfl) rfl rfl
theorem e_M_comes_34 : rn Ls xs d 99 34 [some (.inr u), l1, l2, l3, l4, l5, l6] st H = rn Ls xs d 99 35 [some (.inr u), l1, l2, l3, l4, l5, l6] (.inr u :: st) H := rn_nx rfl rfl
theorem e_M_comes_35 : rn Ls xs d 99 35 [l0, l1, l2, l3, l4, l5, some (.inl x)] st H = rn Ls xs d 99 37 [l0, l1, l2, l3, l4, l5, some (.inl x)] (.inl x :: st) H := rn_nx rfl rfl
theorem e_M_comes_37 : rn Ls xs d 99 37 [l0, l1, l2, l3, l4, l5, l6]  st H = rn Ls xs d 99 38 [l0, l1, l2, l3, l4, l5, l6] (.inl 2 :: st) H := rn_nx rfl rfl
theorem e_M_comes_38 : rn Ls xs d 99 38 [l0, l1, l2, some (.inl x), l4, l5, l6] st H = rn Ls xs d 99 39 [l0, l1, l2, some (.inl x), l4, l5, l6] (.inl x :: st) H := rn_nx rfl rfl
theorem e_M_comes_39 : rn Ls xs (d + 1) 99 39 [l0, l1, l2, l3, l4, l5, l6] [v3, v2, v1, (.inr (.inl (some a)))] (S, I, R) = if h_is S a 9 36 then rb Ls xs (d + 1) 99 42 [l0, l1, l2, l3, l4, l5, l6] [] (rn Ls xs d 114 0 [some (.inr (.inl (some a))), some v1, some v2, some v3] [] (S, I, R)) else none := rn_callO rfl rfl (Nat.le_of_ble_eq_true rfl) rfl rfl
theorem e_M_comes_42 : rn Ls xs d 99 42 [some (.inr u), l1, l2, l3, l4, l5, l6] st H = rn Ls xs d 99 43 [some (.inr u), l1, l2, l3, l4, l5, l6] (.inr u :: st) H := rn_nx rfl rfl
theorem e_M_comes_43 : rn Ls xs d 99 43 [l0, l1, l2, l3, l4, l5, some (.inl x)] st H = rn Ls xs d 99 45 [l0, l1, l2, l3, l4, l5, some (.inl x)] (.inl x :: st) H := rn_nx rfl rfl
theorem e_M_comes_45 : rn Ls xs d 99 45 [l0, l1, l2, l3, l4, l5, l6]  st H = rn Ls xs d 99 46 [l0, l1, l2, l3, l4, l5, l6] (.inl 3 :: st) H := rn_nx rfl rfl
theorem e_M_comes_46 : rn Ls xs d 99 46 [l0, l1, l2, l3, some (.inl x), l5, l6] st H = rn Ls xs d 99 48 [l0, l1, l2, l3, some (.inl x), l5, l6] (.inl x :: st) H := rn_nx rfl rfl
theorem e_M_comes_48 : rn Ls xs (d + 1) 99 48 [l0, l1, l2, l3, l4, l5, l6] [v3, v2, v1, (.inr (.inl (some a)))] (S, I, R) = if h_is S a 9 36 then rb Ls xs (d + 1) 99 51 [l0, l1, l2, l3, l4, l5, l6] [] (rn Ls xs d 114 0 [some (.inr (.inl (some a))), some v1, some v2, some v3] [] (S, I, R)) else none := rn_callO rfl rfl (Nat.le_of_ble_eq_true rfl) rfl rfl
theorem e_M_comes_51 : rn Ls xs d 99 51 [some (.inr u), l1, l2, l3, l4, l5, l6] st H = rn Ls xs d 99 52 [some (.inr u), l1, l2, l3, l4, l5, l6] (.inr u :: st) H := rn_nx rfl rfl
theorem e_M_comes_52 : rn Ls xs d 99 52 [l0, l1, l2, l3, l4, l5, some (.inl x)] st H = rn Ls xs d 99 54 [l0, l1, l2, l3, l4, l5, some (.inl x)] (.inl x :: st) H := rn_nx rfl rfl
theorem e_M_comes_54 : rn Ls xs d 99 54 [l0, l1, l2, l3, l4, l5, l6]  st H = rn Ls xs d 99 55 [l0, l1, l2, l3, l4, l5, l6] (.inl 4 :: st) H := rn_nx rfl rfl
theorem e_M_comes_55 : rn Ls xs d 99 55 [l0, l1, l2, l3, l4, some (.inl x), l6] st H = rn Ls xs d 99 57 [l0, l1, l2, l3, l4, some (.inl x), l6] (.inl x :: st) H := rn_nx rfl rfl
theorem e_M_comes_57 : rn Ls xs (d + 1) 99 57 [l0, l1, l2, l3, l4, l5, l6] [v3, v2, v1, (.inr (.inl (some a)))] (S, I, R) = if h_is S a 9 36 then rb Ls xs (d + 1) 99 60 [l0, l1, l2, l3, l4, l5, l6] [] (rn Ls xs d 114 0 [some (.inr (.inl (some a))), some v1, some v2, some v3] [] (S, I, R)) else none := rn_callO rfl rfl (Nat.le_of_ble_eq_true rfl) rfl rfl
theorem e_M_comes_60 : rn Ls xs d 99 60 [some (.inr u), l1, l2, l3, l4, l5, l6] st H = rn Ls xs d 99 61 [some (.inr u), l1, l2, l3, l4, l5, l6] (.inr u :: st) H := rn_nx rfl rfl
theorem e_M_comes_61 : rn Ls xs d 99 61 [l0, l1, l2, l3, l4, l5, some (.inl x)] st H = rn Ls xs d 99 63 [l0, l1, l2, l3, l4, l5, some (.inl x)] (.inl x :: st) H := rn_nx rfl rfl
theorem e_M_comes_63 : rn Ls xs d 99 63 [l0, l1, l2, l3, l4, l5, l6]  st H = rn Ls xs d 99 64 [l0, l1, l2, l3, l4, l5, l6] (.inl 5 :: st) H := rn_nx rfl rfl
theorem e_M_comes_64 : rn Ls xs d 99 64 [l0, l1, l2, l3, l4, l5, l6]  st H = rn Ls xs d 99 65 [l0, l1, l2, l3, l4, l5, l6] (.inl 1 :: st) H := rn_nx rfl rfl
theorem e_M_comes_65 : rn Ls xs (d + 1) 99 65 [l0, l1, l2, l3, l4, l5, l6] [v3, v2, v1, (.inr (.inl (some a)))] (S, I, R) = if h_is S a 9 36 then rb Ls xs (d + 1) 99 68 [l0, l1, l2, l3, l4, l5, l6] [] (rn Ls xs d 114 0 [some (.inr (.inl (some a))), some v1, some v2, some v3] [] (S, I, R)) else none := rn_callO rfl rfl (Nat.le_of_ble_eq_true rfl) rfl rfl
theorem e_M_comes_68 : rn Ls xs d 99 68 [l0, l1, l2, l3, l4, l5, some (.inl x)] st H = rn Ls xs d 99 70 [l0, l1, l2, l3, l4, l5, some (.inl x)] (.inl x :: st) H := rn_nx rfl rfl
theorem e_M_comes_70 : rn Ls xs d 99 70 [l0, l1, l2, l3, l4, l5, l6] [.inl x] H = some (some (.inl x), H) := rn_done rfl rfl
theorem e_S_hasWreck_0 : rn Ls xs d 100 0 [l0, some (.inl x)] st H = rn Ls xs d 100 1 [l0, some (.inl x)] (.inl x :: st) H := rn_nx rfl rfl
theorem e_S_hasWreck_1 : rn Ls xs d 100 1 [l0, l1]  st H = rn Ls xs d 100 2 [l0, l1] (.inl 0 :: st) H := rn_nx rfl rfl
theorem e_S_hasWreck_2 : rn Ls xs d 100 2 [some (.inr u), l1] st H = rn Ls xs d 100 3 [some (.inr u), l1] (.inr u :: st) H := rn_nx rfl rfl
theorem e_S_hasWreck_3 : rn Ls xs d 100 3 [l0, l1] (.inr (.inl (some a)) :: st) (S, I, R) = if h_is S a 3 11 then rn Ls xs d 100 6 [l0, l1] (.inl (I a 3) :: st) (S, I, R) else none := rn_bc rfl rfl
theorem e_S_hasWreck_6 : rn Ls xs d 100 6 [l0, l1]  st H = rn Ls xs d 100 7 [l0, l1] (.inl 1 :: st) H := rn_nx rfl rfl
theorem e_S_hasWreck_7 : rn Ls xs d 100 7 [l0, l1] (.inl y :: .inl x :: st) H = rn Ls xs d 100 8 [l0, l1] (.inl (x - y) :: st) H := rn_nx rfl rfl
theorem e_S_hasWreck_8 : rn Ls xs (d + 1) 100 8 [l0, l1] [v2, v1, v0] H = rb Ls xs (d + 1) 100 11 [l0, l1] [] (rn Ls xs d 94 0 [some v0, some v1, some v2] [] H) := rn_call rfl (Nat.le_of_ble_eq_true rfl) (Nat.le_of_ble_eq_true rfl) rfl rfl
theorem e_S_hasWreck_11 : rn Ls xs d 100 11 [l0, l1] [.inl x] H = if h_bo x then some (some (.inl x), H) else none := rn_zret rfl
theorem e_S_hardOf_0 : rn Ls xs d 101 0 [some (.inr u), l1, l2, l3] st H = rn Ls xs d 101 1 [some (.inr u), l1, l2, l3] (.inr u :: st) H := rn_nx rfl rfl
theorem e_S_hardOf_1 : rn Ls xs d 101 1 [l0, l1, l2, l3]  st H = rn Ls xs d 101 2 [l0, l1, l2, l3] (.inl 0 :: st) H := rn_nx rfl rfl
theorem e_S_hardOf_2 : rn Ls xs (d + 1) 101 2 [l0, l1, l2, l3] [v1, (.inr (.inl (some a)))] (S, I, R) = if h_is S a 3 11 then rb Ls xs (d + 1) 101 5 [l0, l1, l2, l3] [] (rn Ls xs d 149 0 [some (.inr (.inl (some a))), some v1, none] [] (S, I, R)) else none := rn_callO rfl rfl (Nat.le_of_ble_eq_true rfl) rfl rfl
theorem e_S_hardOf_5 : rn Ls xs d 101 5 [l0, l1, l2, l3] (.inl x :: st) H = rn Ls xs d 101 6 [l0, l1, some (.inl x), l3] st H := rn_nx rfl rfl
theorem e_S_hardOf_6 : rn Ls xs d 101 6 [l0, l1, some (.inl x), l3] st H = rn Ls xs d 101 7 [l0, l1, some (.inl x), l3] (.inl x :: st) H := rn_nx rfl rfl
theorem e_S_hardOf_7 : rn Ls xs d 101 7 [l0, l1, l2, l3] (.inl x :: st) H = if 0 ≤ x then rn Ls xs d 101 17 [l0, l1, l2, l3] st H else rn Ls xs d 101 10 [l0, l1, l2, l3] st H := rn_if (p := fun x => 0 ≤ x) rfl
theorem e_S_hardOf_10 : rn Ls xs d 101 10 [l0, some (.inr u), l2, l3] st H = rn Ls xs d 101 11 [l0, some (.inr u), l2, l3] (.inr u :: st) H := rn_nx rfl rfl
theorem e_S_hardOf_11 : rn Ls xs d 101 11 [l0, l1, l2, l3] (.inr (.inl (some a)) :: st) (S, I, R) = if h_is S a 7 6 then rn Ls xs d 101 14 [l0, l1, l2, l3] (.inl (I a 4) :: st) (S, I, R) else none := rn_bc rfl rfl
theorem e_S_hardOf_14 : rn Ls xs d 101 14 [l0, l1, l2, l3] st H = rn Ls xs d 101 42 [l0, l1, l2, l3] st H := rn_nx rfl rfl
theorem e_S_hardOf_17 : rn Ls xs d 101 17 [some (.inr u), l1, l2, l3] st H = rn Ls xs d 101 18 [some (.inr u), l1, l2, l3] (.inr u :: st) H := rn_nx rfl rfl
theorem e_S_hardOf_18 : rn Ls xs d 101 18 [l0, l1, l2, l3] (.inr (.inl (some a)) :: st) (S, I, R) = if h_is S a 3 11 then rn Ls xs d 101 21 [l0, l1, l2, l3] (.inr (R a 1) :: st) (S, I, R) else none := rn_bc rfl rfl
theorem e_S_hardOf_21 : rn Ls xs d 101 21 [l0, l1, some (.inl x), l3] st H = rn Ls xs d 101 22 [l0, l1, some (.inl x), l3] (.inl x :: st) H := rn_nx rfl rfl
theorem e_S_hardOf_22 : rn Ls xs d 101 22 [l0, l1, l2, l3] (.inl i :: .inr (.inl (some a)) :: st) (S, I, R) = if h_ia S a 5 i then (match R a i.toNatClampNeg with | .inl o => rn Ls xs d 101 23 [l0, l1, l2, l3] (.inr (.inl o) :: st) (S, I, R) | .inr _ => none) else none := rn_aald rfl
theorem e_S_hardOf_23 : rn Ls xs d 101 23 [l0, some (.inr u), l2, l3] st H = rn Ls xs d 101 24 [l0, some (.inr u), l2, l3] (.inr u :: st) H := rn_nx rfl rfl
theorem e_S_hardOf_24 : rn Ls xs d 101 24 [l0, l1, l2, l3] (.inr (.inl (some a)) :: st) (S, I, R) = if h_is S a 7 6 then rn Ls xs d 101 27 [l0, l1, l2, l3] (.inl (I a 4) :: st) (S, I, R) else none := rn_bc rfl rfl
theorem e_S_hardOf_27 : rn Ls xs d 101 27 [l0, some (.inr u), l2, l3] st H = rn Ls xs d 101 28 [l0, some (.inr u), l2, l3] (.inr u :: st) H := rn_nx rfl rfl
theorem e_S_hardOf_28 : rn Ls xs d 101 28 [l0, l1, l2, l3] (.inr (.inl (some a)) :: st) (S, I, R) = if h_is S a 7 6 then rn Ls xs d 101 31 [l0, l1, l2, l3] (.inl (I a 1) :: st) (S, I, R) else none := rn_bc rfl rfl
theorem e_S_hardOf_31 : rn Ls xs d 101 31 [l0, some (.inr u), l2, l3] st H = rn Ls xs d 101 32 [l0, some (.inr u), l2, l3] (.inr u :: st) H := rn_nx rfl rfl
theorem e_S_hardOf_32 : rn Ls xs d 101 32 [l0, l1, l2, l3] (.inr (.inl (some a)) :: st) (S, I, R) = if h_is S a 7 6 then rn Ls xs d 101 35 [l0, l1, l2, l3] (.inl (I a 3) :: st) (S, I, R) else none := rn_bc rfl rfl
theorem e_S_hardOf_35 : rn Ls xs d 101 35 [some (.inr u), l1, l2, l3] st H = rn Ls xs d 101 36 [some (.inr u), l1, l2, l3] (.inr u :: st) H := rn_nx rfl rfl
theorem e_S_hardOf_36 : rn Ls xs d 101 36 [l0, l1, l2, l3] (.inr (.inl (some a)) :: st) (S, I, R) = if h_is S a 3 11 then rn Ls xs d 101 39 [l0, l1, l2, l3] (.inr (R a 2) :: st) (S, I, R) else none := rn_bc rfl rfl
theorem e_S_hardOf_39 : rn Ls xs (d + 1) 101 39 [l0, l1, l2, l3] [v4, v3, v2, v1, (.inr (.inl (some a)))] (S, I, R) = if h_is S a 6 3 then rb Ls xs (d + 1) 101 42 [l0, l1, l2, l3] [] (rn Ls xs d 150 0 [some (.inr (.inl (some a))), some v1, some v2, some v3, some v4, none, none, none] [] (S, I, R)) else none := rn_callO rfl rfl (Nat.le_of_ble_eq_true rfl) rfl rfl
theorem e_S_hardOf_42 : rn Ls xs d 101 42 [l0, l1, l2, l3] (.inl x :: st) H = rn Ls xs d 101 43 [l0, l1, l2, some (.inl x)] st H := rn_nx rfl rfl
theorem e_S_hardOf_43 : rn Ls xs d 101 43 [l0, some (.inr u), l2, l3] st H = rn Ls xs d 101 44 [l0, some (.inr u), l2, l3] (.inr u :: st) H := rn_nx rfl rfl
theorem e_S_hardOf_44 : rn Ls xs d 101 44 [l0, l1, l2, some (.inl x)] st H = rn Ls xs d 101 45 [l0, l1, l2, some (.inl x)] (.inl x :: st) H := rn_nx rfl rfl
theorem e_S_hardOf_45 : rn Ls xs d 101 45 [l0, l1, l2, l3]  st H = rn Ls xs d 101 46 [l0, l1, l2, l3] (.inl 0 :: st) H := rn_nx rfl rfl
theorem e_S_hardOf_46 : rn Ls xs d 101 46 [l0, l1, l2, l3]  st H = rn Ls xs d 101 49 [l0, l1, l2, l3] (.inl 999 :: st) H := rn_nx rfl rfl
theorem e_S_hardOf_49 : rn Ls xs (d + 1) 101 49 [l0, l1, l2, l3] [v2, v1, v0, v3] H = rb Ls xs (d + 1) 101 52 [l0, l1, l2, l3] [v3] (rn Ls xs d 163 0 [some v0, some v1, some v2] [] H) := rn_call rfl (Nat.le_of_ble_eq_true rfl) (Nat.le_of_ble_eq_true rfl) rfl rfl
theorem e_S_hardOf_52 : rn Ls xs (d + 1) 101 52 [l0, l1, l2, l3] [v1, (.inr (.inl (some a)))] (S, I, R) = if h_is S a 7 6 then rb Ls xs (d + 1) 101 55 [l0, l1, l2, l3] [] (rn Ls xs d 174 0 [some (.inr (.inl (some a))), some v1] [] (S, I, R)) else none := rn_callO rfl rfl (Nat.le_of_ble_eq_true rfl) rfl rfl
theorem e_S_hardOf_55 : rn Ls xs d 101 55 [l0, l1, l2, l3] [.inl x] H = some (some (.inl x), H) := rn_done rfl rfl
theorem e_K_goesAt_0 : rn Ls xs d 102 0 [some (.inr u), l1] st H = rn Ls xs d 102 1 [some (.inr u), l1] (.inr u :: st) H := rn_nx rfl rfl
theorem e_K_goesAt_1 : rn Ls xs d 102 1 [l0, l1] (.inr (.inl (some a)) :: st) (S, I, R) = if h_is S a 7 6 then rn Ls xs d 102 4 [l0, l1] (.inl (I a 0) :: st) (S, I, R) else none := rn_bc rfl rfl
theorem e_K_goesAt_4 : rn Ls xs d 102 4 [l0, l1] (.inl x :: st) H = if x = 2 then rn Ls xs d 102 51 [l0, l1] st H else if x = 3 then rn Ls xs d 102 36 [l0, l1] st H else if x = 4 then rn Ls xs d 102 58 [l0, l1] st H else if x = 5 then rn Ls xs d 102 66 [l0, l1] st H else rn Ls xs d 102 82 [l0, l1] st H := (rn_nx rfl rfl).trans (rn_tc rfl rfl (rn_tc rfl rfl (rn_tc rfl rfl (rn_tc rfl rfl (rn_tn)))))
theorem e_K_goesAt_36 : rn Ls xs d 102 36 [l0, some (.inl x)] st H = rn Ls xs d 102 37 [l0, some (.inl x)] (.inl x :: st) H := rn_nx rfl rfl
theorem e_K_goesAt_37 : rn Ls xs d 102 37 [l0, l1]  st H = rn Ls xs d 102 38 [l0, l1] (.inl 2 :: st) H := rn_nx rfl rfl
theorem e_K_goesAt_38 : rn Ls xs d 102 38 [l0, l1] (.inl y :: .inl x :: st) H = if y = 0 then none else rn Ls xs d 102 39 [l0, l1] (.inl (x - x / y * y) :: st) H := rn_div (f := fun x y => x - x / y * y) rfl
theorem e_K_goesAt_39 : rn Ls xs d 102 39 [l0, l1] (.inl x :: st) H = if x ≠ 0 then rn Ls xs d 102 49 [l0, l1] st H else rn Ls xs d 102 42 [l0, l1] st H := rn_if (p := fun x => x ≠ 0) rfl
theorem e_K_goesAt_42 : rn Ls xs d 102 42 [some (.inr u), l1] st H = rn Ls xs d 102 43 [some (.inr u), l1] (.inr u :: st) H := rn_nx rfl rfl
theorem e_K_goesAt_43 : rn Ls xs d 102 43 [l0, l1] (.inr (.inl (some a)) :: st) (S, I, R) = if h_is S a 7 6 then rn Ls xs d 102 46 [l0, l1] (.inl (I a 3) :: st) (S, I, R) else none := rn_bc rfl rfl
theorem e_K_goesAt_46 : rn Ls xs d 102 46 [l0, l1] st H = rn Ls xs d 102 50 [l0, l1] st H := rn_nx rfl rfl
theorem e_K_goesAt_49 : rn Ls xs d 102 49 [l0, l1]  st H = rn Ls xs d 102 50 [l0, l1] (.inl 0 :: st) H := rn_nx rfl rfl
theorem e_K_goesAt_50 : rn Ls xs d 102 50 [l0, l1] [.inl x] H = some (some (.inl x), H) := rn_done rfl rfl
theorem e_K_goesAt_51 : rn Ls xs d 102 51 [some (.inr u), l1] st H = rn Ls xs d 102 52 [some (.inr u), l1] (.inr u :: st) H := rn_nx rfl rfl
theorem e_K_goesAt_52 : rn Ls xs d 102 52 [l0, l1] (.inr (.inl (some a)) :: st) (S, I, R) = if h_is S a 7 6 then rn Ls xs d 102 55 [l0, l1] (.inl (I a 3) :: st) (S, I, R) else none := rn_bc rfl rfl
theorem e_K_goesAt_55 : rn Ls xs d 102 55 [l0, l1]  st H = rn Ls xs d 102 56 [l0, l1] (.inl 1 :: st) H := rn_nx rfl rfl
theorem e_K_goesAt_56 : rn Ls xs d 102 56 [l0, l1] (.inl y :: .inl x :: st) H = rn Ls xs d 102 57 [l0, l1] (.inl (x + y) :: st) H := rn_nx rfl rfl
theorem e_K_goesAt_57 : rn Ls xs d 102 57 [l0, l1] [.inl x] H = some (some (.inl x), H) := rn_done rfl rfl
theorem e_K_goesAt_58 : rn Ls xs d 102 58 [some (.inr u), l1] st H = rn Ls xs d 102 59 [some (.inr u), l1] (.inr u :: st) H := rn_nx rfl rfl
theorem e_K_goesAt_59 : rn Ls xs d 102 59 [l0, l1] (.inr (.inl (some a)) :: st) (S, I, R) = if h_is S a 7 6 then rn Ls xs d 102 62 [l0, l1] (.inl (I a 3) :: st) (S, I, R) else none := rn_bc rfl rfl
theorem e_K_goesAt_62 : rn Ls xs d 102 62 [l0, l1]  st H = rn Ls xs d 102 63 [l0, l1] (.inl 1 :: st) H := rn_nx rfl rfl
theorem e_K_goesAt_63 : rn Ls xs d 102 63 [l0, l1] (.inl y :: .inl x :: st) H = rn Ls xs d 102 64 [l0, l1] (.inl (x + y) :: st) H := rn_nx rfl rfl
theorem e_K_goesAt_64 : rn Ls xs d 102 64 [l0, l1] (.inl x :: st) H = rn Ls xs d 102 65 [l0, l1] (.inl (-x) :: st) H := rn_nx rfl rfl
theorem e_K_goesAt_65 : rn Ls xs d 102 65 [l0, l1] [.inl x] H = some (some (.inl x), H) := rn_done rfl rfl
theorem e_K_goesAt_66 : rn Ls xs d 102 66 [some (.inr u), l1] st H = rn Ls xs d 102 67 [some (.inr u), l1] (.inr u :: st) H := rn_nx rfl rfl
theorem e_K_goesAt_67 : rn Ls xs d 102 67 [l0, l1] (.inr (.inl (some a)) :: st) (S, I, R) = if h_is S a 7 6 then rn Ls xs d 102 70 [l0, l1] (.inl (I a 3) :: st) (S, I, R) else none := rn_bc rfl rfl
theorem e_K_goesAt_70 : rn Ls xs d 102 70 [l0, l1] (.inl x :: st) H = if x ≠ 0 then rn Ls xs d 102 77 [l0, l1] st H else rn Ls xs d 102 73 [l0, l1] st H := rn_if (p := fun x => x ≠ 0) rfl
theorem e_K_goesAt_73 : rn Ls xs d 102 73 [l0, l1]  st H = rn Ls xs d 102 74 [l0, l1] (.inl 1 :: st) H := rn_nx rfl rfl
theorem e_K_goesAt_74 : rn Ls xs d 102 74 [l0, l1] st H = rn Ls xs d 102 81 [l0, l1] st H := rn_nx rfl rfl
theorem e_K_goesAt_77 : rn Ls xs d 102 77 [some (.inr u), l1] st H = rn Ls xs d 102 78 [some (.inr u), l1] (.inr u :: st) H := rn_nx rfl rfl
theorem e_K_goesAt_78 : rn Ls xs d 102 78 [l0, l1] (.inr (.inl (some a)) :: st) (S, I, R) = if h_is S a 7 6 then rn Ls xs d 102 81 [l0, l1] (.inl (I a 3) :: st) (S, I, R) else none := rn_bc rfl rfl
theorem e_K_goesAt_81 : rn Ls xs d 102 81 [l0, l1] [.inl x] H = some (some (.inl x), H) := rn_done rfl rfl
theorem e_K_goesAt_82 : rn Ls xs d 102 82 [some (.inr u), l1] st H = rn Ls xs d 102 83 [some (.inr u), l1] (.inr u :: st) H := rn_nx rfl rfl
theorem e_K_goesAt_83 : rn Ls xs d 102 83 [l0, l1] (.inr (.inl (some a)) :: st) (S, I, R) = if h_is S a 7 6 then rn Ls xs d 102 86 [l0, l1] (.inl (I a 3) :: st) (S, I, R) else none := rn_bc rfl rfl
theorem e_K_goesAt_86 : rn Ls xs d 102 86 [l0, l1] [.inl x] H = some (some (.inl x), H) := rn_done rfl rfl
theorem e_K_worth_0 : rn Ls xs d 103 0 [some (.inr u)] st H = rn Ls xs d 103 1 [some (.inr u)] (.inr u :: st) H := rn_nx rfl rfl
theorem e_K_worth_1 : rn Ls xs d 103 1 [l0] (.inr (.inl (some a)) :: st) (S, I, R) = if h_is S a 7 6 then rn Ls xs d 103 4 [l0] (.inl (I a 0) :: st) (S, I, R) else none := rn_bc rfl rfl
theorem e_K_worth_4 : rn Ls xs d 103 4 [l0] (.inl x :: st) H = if x = 1 then rn Ls xs d 103 40 [l0] st H else if x = 2 then rn Ls xs d 103 58 [l0] st H else if x = 3 then rn Ls xs d 103 48 [l0] st H else if x = 4 then rn Ls xs d 103 66 [l0] st H else if x = 5 then rn Ls xs d 103 76 [l0] st H else rn Ls xs d 103 78 [l0] st H := (rn_nx rfl rfl).trans (rn_tc rfl rfl (rn_tc rfl rfl (rn_tc rfl rfl (rn_tc rfl rfl (rn_tc rfl rfl (rn_tn))))))
theorem e_K_worth_40 : rn Ls xs d 103 40 [some (.inr u)] st H = rn Ls xs d 103 41 [some (.inr u)] (.inr u :: st) H := rn_nx rfl rfl
theorem e_K_worth_41 : rn Ls xs d 103 41 [l0] (.inr (.inl (some a)) :: st) (S, I, R) = if h_is S a 7 6 then rn Ls xs d 103 44 [l0] (.inl (I a 4) :: st) (S, I, R) else none := rn_bc rfl rfl
theorem e_K_worth_44 : rn Ls xs d 103 44 [l0]  st H = rn Ls xs d 103 46 [l0] (.inl 9 :: st) H := rn_nx rfl rfl
theorem e_K_worth_46 : rn Ls xs d 103 46 [l0] (.inl y :: .inl x :: st) H = rn Ls xs d 103 47 [l0] (.inl (x + y) :: st) H := rn_nx rfl rfl
theorem e_K_worth_47 : rn Ls xs d 103 47 [l0] [.inl x] H = some (some (.inl x), H) := rn_done rfl rfl
theorem e_K_worth_48 : rn Ls xs d 103 48 [l0]  st H = rn Ls xs d 103 49 [l0] (.inl 2 :: st) H := rn_nx rfl rfl
theorem e_K_worth_49 : rn Ls xs d 103 49 [some (.inr u)] st H = rn Ls xs d 103 50 [some (.inr u)] (.inr u :: st) H := rn_nx rfl rfl
theorem e_K_worth_50 : rn Ls xs d 103 50 [l0] (.inr (.inl (some a)) :: st) (S, I, R) = if h_is S a 7 6 then rn Ls xs d 103 53 [l0] (.inl (I a 4) :: st) (S, I, R) else none := rn_bc rfl rfl
theorem e_K_worth_53 : rn Ls xs d 103 53 [l0]  st H = rn Ls xs d 103 55 [l0] (.inl 9 :: st) H := rn_nx rfl rfl
theorem e_K_worth_55 : rn Ls xs d 103 55 [l0] (.inl y :: .inl x :: st) H = rn Ls xs d 103 56 [l0] (.inl (x + y) :: st) H := rn_nx rfl rfl
theorem e_K_worth_56 : rn Ls xs d 103 56 [l0] (.inl y :: .inl x :: st) H = rn Ls xs d 103 57 [l0] (.inl (x * y) :: st) H := rn_nx rfl rfl
theorem e_K_worth_57 : rn Ls xs d 103 57 [l0] [.inl x] H = some (some (.inl x), H) := rn_done rfl rfl
theorem e_K_worth_58 : rn Ls xs d 103 58 [l0]  st H = rn Ls xs d 103 60 [l0] (.inl 99 :: st) H := rn_nx rfl rfl
theorem e_K_worth_60 : rn Ls xs d 103 60 [some (.inr u)] st H = rn Ls xs d 103 61 [some (.inr u)] (.inr u :: st) H := rn_nx rfl rfl
theorem e_K_worth_61 : rn Ls xs d 103 61 [l0] (.inr (.inl (some a)) :: st) (S, I, R) = if h_is S a 7 6 then rn Ls xs d 103 64 [l0] (.inl (I a 4) :: st) (S, I, R) else none := rn_bc rfl rfl
theorem e_K_worth_64 : rn Ls xs d 103 64 [l0] (.inl y :: .inl x :: st) H = rn Ls xs d 103 65 [l0] (.inl (x - y) :: st) H := rn_nx rfl rfl
theorem e_K_worth_65 : rn Ls xs d 103 65 [l0] [.inl x] H = some (some (.inl x), H) := rn_done rfl rfl
theorem e_K_worth_66 : rn Ls xs d 103 66 [l0]  st H = rn Ls xs d 103 68 [l0] (.inl 99 :: st) H := rn_nx rfl rfl
theorem e_K_worth_68 : rn Ls xs d 103 68 [some (.inr u)] st H = rn Ls xs d 103 69 [some (.inr u)] (.inr u :: st) H := rn_nx rfl rfl
theorem e_K_worth_69 : rn Ls xs d 103 69 [l0] (.inr (.inl (some a)) :: st) (S, I, R) = if h_is S a 7 6 then rn Ls xs d 103 72 [l0] (.inl (I a 4) :: st) (S, I, R) else none := rn_bc rfl rfl
theorem e_K_worth_72 : rn Ls xs d 103 72 [l0] (.inl y :: .inl x :: st) H = rn Ls xs d 103 73 [l0] (.inl (x - y) :: st) H := rn_nx rfl rfl
theorem e_K_worth_73 : rn Ls xs d 103 73 [l0]  st H = rn Ls xs d 103 74 [l0] (.inl 5 :: st) H := rn_nx rfl rfl
theorem e_K_worth_74 : rn Ls xs d 103 74 [l0] (.inl y :: .inl x :: st) H = rn Ls xs d 103 75 [l0] (.inl (x - y) :: st) H := rn_nx rfl rfl
theorem e_K_worth_75 : rn Ls xs d 103 75 [l0] [.inl x] H = some (some (.inl x), H) := rn_done rfl rfl
theorem e_K_worth_76 : rn Ls xs d 103 76 [l0]  st H = rn Ls xs d 103 77 [l0] (.inl 2 :: st) H := rn_nx rfl rfl
theorem e_K_worth_77 : rn Ls xs d 103 77 [l0] [.inl x] H = some (some (.inl x), H) := rn_done rfl rfl
theorem e_K_worth_78 : rn Ls xs d 103 78 [some (.inr u)] st H = rn Ls xs d 103 79 [some (.inr u)] (.inr u :: st) H := rn_nx rfl rfl
theorem e_K_worth_79 : rn Ls xs d 103 79 [l0] (.inr (.inl (some a)) :: st) (S, I, R) = if h_is S a 7 6 then rn Ls xs d 103 82 [l0] (.inl (I a 4) :: st) (S, I, R) else none := rn_bc rfl rfl
theorem e_K_worth_82 : rn Ls xs d 103 82 [l0] [.inl x] H = some (some (.inl x), H) := rn_done rfl rfl
theorem e_M_isWreck_0 : rn Ls xs d 104 0 [l0, some (.inl x)] st H = rn Ls xs d 104 1 [l0, some (.inl x)] (.inl x :: st) H := rn_nx rfl rfl
theorem e_M_isWreck_1 : rn Ls xs d 104 1 [l0, l1]  st H = rn Ls xs d 104 2 [l0, l1] (.inl 0 :: st) H := rn_nx rfl rfl
theorem e_M_isWreck_2 : rn Ls xs d 104 2 [some (.inr u), l1] st H = rn Ls xs d 104 3 [some (.inr u), l1] (.inr u :: st) H := rn_nx rfl rfl
theorem e_M_isWreck_3 : rn Ls xs d 104 3 [l0, l1] (.inr (.inl (some a)) :: st) (S, I, R) = if h_is S a 9 36 then rn Ls xs d 104 6 [l0, l1] (.inr (R a 0) :: st) (S, I, R) else none := rn_bc rfl rfl
theorem e_M_isWreck_6 : rn Ls xs d 104 6 [l0, l1]  st H = rn Ls xs d 104 7 [l0, l1] (.inl 1 :: st) H := rn_nx rfl rfl
theorem e_M_isWreck_7 : rn Ls xs d 104 7 [l0, l1] (.inl i :: .inr (.inl (some a)) :: st) (S, I, R) = if h_ia S a 0 i then rn Ls xs d 104 8 [l0, l1] (.inl (I a i.toNatClampNeg) :: st) (S, I, R) else none := rn_bc rfl rfl
theorem e_M_isWreck_8 : rn Ls xs d 104 8 [l0, l1]  st H = rn Ls xs d 104 9 [l0, l1] (.inl 1 :: st) H := rn_nx rfl rfl
theorem e_M_isWreck_9 : rn Ls xs d 104 9 [l0, l1] (.inl y :: .inl x :: st) H = rn Ls xs d 104 10 [l0, l1] (.inl (x - y) :: st) H := rn_nx rfl rfl
theorem e_M_isWreck_10 : rn Ls xs (d + 1) 104 10 [l0, l1] [v2, v1, v0] H = rb Ls xs (d + 1) 104 13 [l0, l1] [] (rn Ls xs d 97 0 [some v0, some v1, some v2] [] H) := rn_call rfl (Nat.le_of_ble_eq_true rfl) (Nat.le_of_ble_eq_true rfl) rfl rfl
theorem e_M_isWreck_13 : rn Ls xs d 104 13 [l0, l1] [.inl x] H = if h_bo x then some (some (.inl x), H) else none := rn_zret rfl
theorem e_M_of_0 : rn Ls xs d 105 0 [some (.inr u), l1, l2] st H = rn Ls xs d 105 1 [some (.inr u), l1, l2] (.inr u :: st) H := rn_nx rfl rfl
theorem e_M_of_1 : rn Ls xs d 105 1 [l0, l1, l2] (.inr (.inl (some a)) :: st) (S, I, R) = if h_is S a 9 36 then rn Ls xs d 105 4 [l0, l1, l2] (.inr (R a 0) :: st) (S, I, R) else none := rn_bc rfl rfl
theorem e_M_of_4 : rn Ls xs d 105 4 [l0, l1, l2]  st H = rn Ls xs d 105 6 [l0, l1, l2] (.inl 8 :: st) H := rn_nx rfl rfl
theorem e_M_of_6 : rn Ls xs d 105 6 [l0, l1, l2]  st H = rn Ls xs d 105 8 [l0, l1, l2] (.inl 6 :: st) H := rn_nx rfl rfl
theorem e_M_of_8 : rn Ls xs d 105 8 [l0, some (.inl x), l2] st H = rn Ls xs d 105 9 [l0, some (.inl x), l2] (.inl x :: st) H := rn_nx rfl rfl
theorem e_M_of_9 : rn Ls xs d 105 9 [l0, l1, l2] (.inl y :: .inl x :: st) H = rn Ls xs d 105 10 [l0, l1, l2] (.inl (x * y) :: st) H := rn_nx rfl rfl
theorem e_M_of_10 : rn Ls xs d 105 10 [l0, l1, l2] (.inl y :: .inl x :: st) H = rn Ls xs d 105 11 [l0, l1, l2] (.inl (x + y) :: st) H := rn_nx rfl rfl
theorem e_M_of_11 : rn Ls xs d 105 11 [l0, l1, some (.inl x)] st H = rn Ls xs d 105 12 [l0, l1, some (.inl x)] (.inl x :: st) H := rn_nx rfl rfl
theorem e_M_of_12 : rn Ls xs d 105 12 [l0, l1, l2] (.inl y :: .inl x :: st) H = rn Ls xs d 105 13 [l0, l1, l2] (.inl (x + y) :: st) H := rn_nx rfl rfl
theorem e_M_of_13 : rn Ls xs d 105 13 [l0, l1, l2] (.inl i :: .inr (.inl (some a)) :: st) (S, I, R) = if h_ia S a 0 i then rn Ls xs d 105 14 [l0, l1, l2] (.inl (I a i.toNatClampNeg) :: st) (S, I, R) else none := rn_bc rfl rfl
theorem e_M_of_14 : rn Ls xs d 105 14 [l0, l1, l2] [.inl x] H = some (some (.inl x), H) := rn_done rfl rfl
theorem e_M_hardOf_0 : rn Ls xs d 106 0 [some (.inr u), l1, l2, l3] st H = rn Ls xs d 106 1 [some (.inr u), l1, l2, l3] (.inr u :: st) H := rn_nx rfl rfl
theorem e_M_hardOf_1 : rn Ls xs d 106 1 [l0, l1, l2, l3]  st H = rn Ls xs d 106 2 [l0, l1, l2, l3] (.inl 0 :: st) H := rn_nx rfl rfl
theorem e_M_hardOf_2 : rn Ls xs (d + 1) 106 2 [l0, l1, l2, l3] [v1, (.inr (.inl (some a)))] (S, I, R) = if h_is S a 9 36 then rb Ls xs (d + 1) 106 5 [l0, l1, l2, l3] [] (rn Ls xs d 151 0 [some (.inr (.inl (some a))), some v1, none] [] (S, I, R)) else none := rn_callO rfl rfl (Nat.le_of_ble_eq_true rfl) rfl rfl
theorem e_M_hardOf_5 : rn Ls xs d 106 5 [l0, l1, l2, l3] (.inl x :: st) H = rn Ls xs d 106 6 [l0, l1, some (.inl x), l3] st H := rn_nx rfl rfl
theorem e_M_hardOf_6 : rn Ls xs d 106 6 [some (.inr u), l1, l2, l3] st H = rn Ls xs d 106 7 [some (.inr u), l1, l2, l3] (.inr u :: st) H := rn_nx rfl rfl
theorem e_M_hardOf_7 : rn Ls xs d 106 7 [l0, l1, l2, l3] (.inr (.inl (some a)) :: st) (S, I, R) = if h_is S a 9 36 then rn Ls xs d 106 10 [l0, l1, l2, l3] (.inr (R a 25) :: st) (S, I, R) else none := rn_bc rfl rfl
theorem e_M_hardOf_10 : rn Ls xs d 106 10 [l0, l1, l2, l3]  st H = rn Ls xs d 106 11 [l0, l1, l2, l3] (.inl 0 :: st) H := rn_nx rfl rfl
theorem e_M_hardOf_11 : rn Ls xs d 106 11 [some (.inr u), l1, l2, l3] st H = rn Ls xs d 106 12 [some (.inr u), l1, l2, l3] (.inr u :: st) H := rn_nx rfl rfl
theorem e_M_hardOf_12 : rn Ls xs d 106 12 [l0, some (.inl x), l2, l3] st H = rn Ls xs d 106 13 [l0, some (.inl x), l2, l3] (.inl x :: st) H := rn_nx rfl rfl
theorem e_M_hardOf_13 : rn Ls xs d 106 13 [l0, l1, l2, l3]  st H = rn Ls xs d 106 14 [l0, l1, l2, l3] (.inl 4 :: st) H := rn_nx rfl rfl
theorem e_M_hardOf_14 : rn Ls xs (d + 1) 106 14 [l0, l1, l2, l3] [v2, v1, (.inr (.inl (some a))), v3, v4] (S, I, R) = if h_is S a 9 36 then rb Ls xs (d + 1) 106 17 [l0, l1, l2, l3] [v3, v4] (rn Ls xs d 105 0 [some (.inr (.inl (some a))), some v1, some v2] [] (S, I, R)) else none := rn_callO rfl rfl (Nat.le_of_ble_eq_true rfl) rfl rfl
theorem e_M_hardOf_17 : rn Ls xs d 106 17 [l0, l1, l2, l3] (.inl x :: .inl i :: .inr (.inl (some a)) :: st) (S, I, R) = if h_ia S a 0 i then rn Ls xs d 106 18 [l0, l1, l2, l3] st (S, va_up I a (upd (I a) i.toNatClampNeg x), R) else none := rn_bc rfl rfl
theorem e_M_hardOf_18 : rn Ls xs d 106 18 [some (.inr u), l1, l2, l3] st H = rn Ls xs d 106 19 [some (.inr u), l1, l2, l3] (.inr u :: st) H := rn_nx rfl rfl
theorem e_M_hardOf_19 : rn Ls xs d 106 19 [l0, l1, l2, l3] (.inr (.inl (some a)) :: st) (S, I, R) = if h_is S a 9 36 then rn Ls xs d 106 22 [l0, l1, l2, l3] (.inr (R a 25) :: st) (S, I, R) else none := rn_bc rfl rfl
theorem e_M_hardOf_22 : rn Ls xs d 106 22 [l0, l1, l2, l3]  st H = rn Ls xs d 106 23 [l0, l1, l2, l3] (.inl 1 :: st) H := rn_nx rfl rfl
theorem e_M_hardOf_23 : rn Ls xs d 106 23 [some (.inr u), l1, l2, l3] st H = rn Ls xs d 106 24 [some (.inr u), l1, l2, l3] (.inr u :: st) H := rn_nx rfl rfl
theorem e_M_hardOf_24 : rn Ls xs d 106 24 [l0, some (.inl x), l2, l3] st H = rn Ls xs d 106 25 [l0, some (.inl x), l2, l3] (.inl x :: st) H := rn_nx rfl rfl
theorem e_M_hardOf_25 : rn Ls xs d 106 25 [l0, l1, l2, l3]  st H = rn Ls xs d 106 26 [l0, l1, l2, l3] (.inl 1 :: st) H := rn_nx rfl rfl
theorem e_M_hardOf_26 : rn Ls xs (d + 1) 106 26 [l0, l1, l2, l3] [v2, v1, (.inr (.inl (some a))), v3, v4] (S, I, R) = if h_is S a 9 36 then rb Ls xs (d + 1) 106 29 [l0, l1, l2, l3] [v3, v4] (rn Ls xs d 105 0 [some (.inr (.inl (some a))), some v1, some v2] [] (S, I, R)) else none := rn_callO rfl rfl (Nat.le_of_ble_eq_true rfl) rfl rfl
theorem e_M_hardOf_29 : rn Ls xs d 106 29 [l0, l1, l2, l3] (.inl x :: .inl i :: .inr (.inl (some a)) :: st) (S, I, R) = if h_ia S a 0 i then rn Ls xs d 106 30 [l0, l1, l2, l3] st (S, va_up I a (upd (I a) i.toNatClampNeg x), R) else none := rn_bc rfl rfl
theorem e_M_hardOf_30 : rn Ls xs d 106 30 [some (.inr u), l1, l2, l3] st H = rn Ls xs d 106 31 [some (.inr u), l1, l2, l3] (.inr u :: st) H := rn_nx rfl rfl
theorem e_M_hardOf_31 : rn Ls xs d 106 31 [l0, l1, l2, l3] (.inr (.inl (some a)) :: st) (S, I, R) = if h_is S a 9 36 then rn Ls xs d 106 34 [l0, l1, l2, l3] (.inr (R a 25) :: st) (S, I, R) else none := rn_bc rfl rfl
theorem e_M_hardOf_34 : rn Ls xs d 106 34 [l0, l1, l2, l3]  st H = rn Ls xs d 106 35 [l0, l1, l2, l3] (.inl 2 :: st) H := rn_nx rfl rfl
theorem e_M_hardOf_35 : rn Ls xs d 106 35 [some (.inr u), l1, l2, l3] st H = rn Ls xs d 106 36 [some (.inr u), l1, l2, l3] (.inr u :: st) H := rn_nx rfl rfl
theorem e_M_hardOf_36 : rn Ls xs d 106 36 [l0, some (.inl x), l2, l3] st H = rn Ls xs d 106 37 [l0, some (.inl x), l2, l3] (.inl x :: st) H := rn_nx rfl rfl
theorem e_M_hardOf_37 : rn Ls xs d 106 37 [l0, l1, l2, l3]  st H = rn Ls xs d 106 38 [l0, l1, l2, l3] (.inl 3 :: st) H := rn_nx rfl rfl
theorem e_M_hardOf_38 : rn Ls xs (d + 1) 106 38 [l0, l1, l2, l3] [v2, v1, (.inr (.inl (some a))), v3, v4] (S, I, R) = if h_is S a 9 36 then rb Ls xs (d + 1) 106 41 [l0, l1, l2, l3] [v3, v4] (rn Ls xs d 105 0 [some (.inr (.inl (some a))), some v1, some v2] [] (S, I, R)) else none := rn_callO rfl rfl (Nat.le_of_ble_eq_true rfl) rfl rfl
theorem e_M_hardOf_41 : rn Ls xs d 106 41 [l0, l1, l2, l3] (.inl x :: .inl i :: .inr (.inl (some a)) :: st) (S, I, R) = if h_ia S a 0 i then rn Ls xs d 106 42 [l0, l1, l2, l3] st (S, va_up I a (upd (I a) i.toNatClampNeg x), R) else none := rn_bc rfl rfl
theorem e_M_hardOf_42 : rn Ls xs d 106 42 [l0, l1, some (.inl x), l3] st H = rn Ls xs d 106 43 [l0, l1, some (.inl x), l3] (.inl x :: st) H := rn_nx rfl rfl
theorem e_M_hardOf_43 : rn Ls xs d 106 43 [l0, l1, l2, l3] (.inl x :: st) H = if 0 ≤ x then rn Ls xs d 106 55 [l0, l1, l2, l3] st H else rn Ls xs d 106 46 [l0, l1, l2, l3] st H := rn_if (p := fun x => 0 ≤ x) rfl
theorem e_M_hardOf_46 : rn Ls xs d 106 46 [some (.inr u), l1, l2, l3] st H = rn Ls xs d 106 47 [some (.inr u), l1, l2, l3] (.inr u :: st) H := rn_nx rfl rfl
theorem e_M_hardOf_47 : rn Ls xs d 106 47 [l0, some (.inl x), l2, l3] st H = rn Ls xs d 106 48 [l0, some (.inl x), l2, l3] (.inl x :: st) H := rn_nx rfl rfl
theorem e_M_hardOf_48 : rn Ls xs d 106 48 [l0, l1, l2, l3]  st H = rn Ls xs d 106 49 [l0, l1, l2, l3] (.inl 4 :: st) H := rn_nx rfl rfl
theorem e_M_hardOf_49 : rn Ls xs (d + 1) 106 49 [l0, l1, l2, l3] [v2, v1, (.inr (.inl (some a)))] (S, I, R) = if h_is S a 9 36 then rb Ls xs (d + 1) 106 52 [l0, l1, l2, l3] [] (rn Ls xs d 105 0 [some (.inr (.inl (some a))), some v1, some v2] [] (S, I, R)) else none := rn_callO rfl rfl (Nat.le_of_ble_eq_true rfl) rfl rfl
theorem e_M_hardOf_52 : rn Ls xs d 106 52 [l0, l1, l2, l3] st H = rn Ls xs d 106 67 [l0, l1, l2, l3] st H := rn_nx rfl rfl
theorem e_M_hardOf_55 : rn Ls xs d 106 55 [some (.inr u), l1, l2, l3] st H = rn Ls xs d 106 56 [some (.inr u), l1, l2, l3] (.inr u :: st) H := rn_nx rfl rfl
theorem e_M_hardOf_56 : rn Ls xs d 106 56 [l0, l1, some (.inl x), l3] st H = rn Ls xs d 106 57 [l0, l1, some (.inl x), l3] (.inl x :: st) H := rn_nx rfl rfl
theorem e_M_hardOf_57 : rn Ls xs (d + 1) 106 57 [l0, l1, l2, l3] [v1, (.inr (.inl (some a)))] (S, I, R) = if h_is S a 9 36 then rb Ls xs (d + 1) 106 60 [l0, l1, l2, l3] [] (rn Ls xs d 152 0 [some (.inr (.inl (some a))), some v1, none, none, none, none] [] (S, I, R)) else none := rn_callO rfl rfl (Nat.le_of_ble_eq_true rfl) rfl rfl
theorem e_M_hardOf_60 : rn Ls xs d 106 60 [l0, l1, l2, l3]  st H = rn Ls xs d 106 61 [l0, l1, l2, l3] (.inl 0 :: st) H := rn_nx rfl rfl
theorem e_M_hardOf_61 : rn Ls xs d 106 61 [l0, l1, l2, l3]  st H = rn Ls xs d 106 64 [l0, l1, l2, l3] (.inl 999 :: st) H := rn_nx rfl rfl
theorem e_M_hardOf_64 : rn Ls xs (d + 1) 106 64 [l0, l1, l2, l3] [v2, v1, v0] H = rb Ls xs (d + 1) 106 67 [l0, l1, l2, l3] [] (rn Ls xs d 120 0 [some v0, some v1, some v2] [] H) := rn_call rfl (Nat.le_of_ble_eq_true rfl) (Nat.le_of_ble_eq_true rfl) rfl rfl
theorem e_M_hardOf_67 : rn Ls xs d 106 67 [l0, l1, l2, l3] (.inl x :: st) H = rn Ls xs d 106 68 [l0, l1, l2, some (.inl x)] st H := rn_nx rfl rfl
theorem e_M_hardOf_68 : rn Ls xs d 106 68 [some (.inr u), l1, l2, l3] st H = rn Ls xs d 106 69 [some (.inr u), l1, l2, l3] (.inr u :: st) H := rn_nx rfl rfl
theorem e_M_hardOf_69 : rn Ls xs d 106 69 [l0, some (.inl x), l2, l3] st H = rn Ls xs d 106 70 [l0, some (.inl x), l2, l3] (.inl x :: st) H := rn_nx rfl rfl
theorem e_M_hardOf_70 : rn Ls xs d 106 70 [l0, l1, l2, l3]  st H = rn Ls xs d 106 71 [l0, l1, l2, l3] (.inl 0 :: st) H := rn_nx rfl rfl
theorem e_M_hardOf_71 : rn Ls xs (d + 1) 106 71 [l0, l1, l2, l3] [v2, v1, (.inr (.inl (some a)))] (S, I, R) = if h_is S a 9 36 then rb Ls xs (d + 1) 106 74 [l0, l1, l2, l3] [] (rn Ls xs d 105 0 [some (.inr (.inl (some a))), some v1, some v2] [] (S, I, R)) else none := rn_callO rfl rfl (Nat.le_of_ble_eq_true rfl) rfl rfl
theorem e_M_hardOf_74 : rn Ls xs d 106 74 [l0, l1, l2, l3] (.inl x :: st) H = if x = 1 then rn Ls xs d 106 108 [l0, l1, l2, l3] st H else if x = 2 then rn Ls xs d 106 113 [l0, l1, l2, l3] st H else if x = 3 then rn Ls xs d 106 128 [l0, l1, l2, l3] st H else if x = 4 then rn Ls xs d 106 135 [l0, l1, l2, l3] st H else if x = 5 then rn Ls xs d 106 137 [l0, l1, l2, l3] st H else rn Ls xs d 106 141 [l0, l1, l2, l3] st H := (rn_nx rfl rfl).trans (rn_tc rfl rfl (rn_tc rfl rfl (rn_tc rfl rfl (rn_tc rfl rfl (rn_tc rfl rfl (rn_tn))))))
theorem e_M_hardOf_108 : rn Ls xs d 106 108 [l0, l1, l2, some (.inl x)] st H = rn Ls xs d 106 109 [l0, l1, l2, some (.inl x)] (.inl x :: st) H := rn_nx rfl rfl
theorem e_M_hardOf_109 : rn Ls xs d 106 109 [l0, l1, l2, l3]  st H = rn Ls xs d 106 111 [l0, l1, l2, l3] (.inl 10 :: st) H := rn_nx rfl rfl
theorem e_M_hardOf_111 : rn Ls xs d 106 111 [l0, l1, l2, l3] (.inl y :: .inl x :: st) H = rn Ls xs d 106 112 [l0, l1, l2, l3] (.inl (x + y) :: st) H := rn_nx rfl rfl
theorem e_M_hardOf_112 : rn Ls xs d 106 112 [l0, l1, l2, l3] [.inl x] H = some (some (.inl x), H) := rn_done rfl rfl
theorem e_M_hardOf_113 : rn Ls xs d 106 113 [l0, l1, l2, some (.inl x)] st H = rn Ls xs d 106 114 [l0, l1, l2, some (.inl x)] (.inl x :: st) H := rn_nx rfl rfl
theorem e_M_hardOf_114 : rn Ls xs d 106 114 [l0, l1, l2, l3]  st H = rn Ls xs d 106 116 [l0, l1, l2, l3] (.inl 9 :: st) H := rn_nx rfl rfl
theorem e_M_hardOf_116 : rn Ls xs d 106 116 [l0, l1, l2, l3] (.inl y :: .inl x :: st) H = if y ≤ x then rn Ls xs d 106 123 [l0, l1, l2, l3] st H else rn Ls xs d 106 119 [l0, l1, l2, l3] st H := rn_cmp (p := fun x y => y ≤ x) rfl
theorem e_M_hardOf_119 : rn Ls xs d 106 119 [l0, l1, l2, l3]  st H = rn Ls xs d 106 120 [l0, l1, l2, l3] (.inl 0 :: st) H := rn_nx rfl rfl
theorem e_M_hardOf_120 : rn Ls xs d 106 120 [l0, l1, l2, l3] st H = rn Ls xs d 106 127 [l0, l1, l2, l3] st H := rn_nx rfl rfl
theorem e_M_hardOf_123 : rn Ls xs d 106 123 [l0, l1, l2, some (.inl x)] st H = rn Ls xs d 106 124 [l0, l1, l2, some (.inl x)] (.inl x :: st) H := rn_nx rfl rfl
theorem e_M_hardOf_124 : rn Ls xs d 106 124 [l0, l1, l2, l3]  st H = rn Ls xs d 106 126 [l0, l1, l2, l3] (.inl 9 :: st) H := rn_nx rfl rfl
theorem e_M_hardOf_126 : rn Ls xs d 106 126 [l0, l1, l2, l3] (.inl y :: .inl x :: st) H = rn Ls xs d 106 127 [l0, l1, l2, l3] (.inl (x - y) :: st) H := rn_nx rfl rfl
theorem e_M_hardOf_127 : rn Ls xs d 106 127 [l0, l1, l2, l3] [.inl x] H = some (some (.inl x), H) := rn_done rfl rfl
theorem e_M_hardOf_128 : rn Ls xs d 106 128 [l0, l1, l2, some (.inl x)] st H = rn Ls xs d 106 129 [l0, l1, l2, some (.inl x)] (.inl x :: st) H := rn_nx rfl rfl
theorem e_M_hardOf_129 : rn Ls xs d 106 129 [l0, l1, l2, l3]  st H = rn Ls xs d 106 131 [l0, l1, l2, l3] (.inl 10 :: st) H := rn_nx rfl rfl
theorem e_M_hardOf_131 : rn Ls xs d 106 131 [l0, l1, l2, l3] (.inl y :: .inl x :: st) H = rn Ls xs d 106 132 [l0, l1, l2, l3] (.inl (x + y) :: st) H := rn_nx rfl rfl
theorem e_M_hardOf_132 : rn Ls xs d 106 132 [l0, l1, l2, l3]  st H = rn Ls xs d 106 133 [l0, l1, l2, l3] (.inl 2 :: st) H := rn_nx rfl rfl
theorem e_M_hardOf_133 : rn Ls xs d 106 133 [l0, l1, l2, l3] (.inl y :: .inl x :: st) H = if y = 0 then none else rn Ls xs d 106 134 [l0, l1, l2, l3] (.inl (x / y) :: st) H := rn_div (f := fun x y => x / y) rfl
theorem e_M_hardOf_134 : rn Ls xs d 106 134 [l0, l1, l2, l3] [.inl x] H = some (some (.inl x), H) := rn_done rfl rfl
theorem e_M_hardOf_135 : rn Ls xs d 106 135 [l0, l1, l2, l3]  st H = rn Ls xs d 106 136 [l0, l1, l2, l3] (.inl 0 :: st) H := rn_nx rfl rfl
theorem e_M_hardOf_136 : rn Ls xs d 106 136 [l0, l1, l2, l3] [.inl x] H = some (some (.inl x), H) := rn_done rfl rfl
theorem e_M_hardOf_137 : rn Ls xs d 106 137 [l0, l1, l2, l3]  st H = rn Ls xs d 106 138 [l0, l1, l2, l3] (.inl 2 :: st) H := rn_nx rfl rfl
theorem e_M_hardOf_138 : rn Ls xs d 106 138 [l0, l1, l2, some (.inl x)] st H = rn Ls xs d 106 139 [l0, l1, l2, some (.inl x)] (.inl x :: st) H := rn_nx rfl rfl
theorem e_M_hardOf_139 : rn Ls xs d 106 139 [l0, l1, l2, l3] (.inl y :: .inl x :: st) H = rn Ls xs d 106 140 [l0, l1, l2, l3] (.inl (x * y) :: st) H := rn_nx rfl rfl
theorem e_M_hardOf_140 : rn Ls xs d 106 140 [l0, l1, l2, l3] [.inl x] H = some (some (.inl x), H) := rn_done rfl rfl
theorem e_M_hardOf_141 : rn Ls xs d 106 141 [l0, l1, l2, some (.inl x)] st H = rn Ls xs d 106 142 [l0, l1, l2, some (.inl x)] (.inl x :: st) H := rn_nx rfl rfl
theorem e_M_hardOf_142 : rn Ls xs d 106 142 [l0, l1, l2, l3] [.inl x] H = some (some (.inl x), H) := rn_done rfl rfl
theorem e_M_goesOf_0 : rn Ls xs d 107 0 [some (.inr u), l1, l2] st H = rn Ls xs d 107 1 [some (.inr u), l1, l2] (.inr u :: st) H := rn_nx rfl rfl
theorem e_M_goesOf_1 : rn Ls xs d 107 1 [l0, some (.inl x), l2] st H = rn Ls xs d 107 2 [l0, some (.inl x), l2] (.inl x :: st) H := rn_nx rfl rfl
theorem e_M_goesOf_2 : rn Ls xs d 107 2 [l0, l1, l2]  st H = rn Ls xs d 107 3 [l0, l1, l2] (.inl 3 :: st) H := rn_nx rfl rfl
theorem e_M_goesOf_3 : rn Ls xs (d + 1) 107 3 [l0, l1, l2] [v2, v1, (.inr (.inl (some a)))] (S, I, R) = if h_is S a 9 36 then rb Ls xs (d + 1) 107 6 [l0, l1, l2] [] (rn Ls xs d 105 0 [some (.inr (.inl (some a))), some v1, some v2] [] (S, I, R)) else none := rn_callO rfl rfl (Nat.le_of_ble_eq_true rfl) rfl rfl
theorem e_M_goesOf_6 : rn Ls xs d 107 6 [l0, l1, l2] (.inl x :: st) H = rn Ls xs d 107 7 [l0, l1, some (.inl x)] st H := rn_nx rfl rfl
theorem e_M_goesOf_7 : rn Ls xs d 107 7 [some (.inr u), l1, l2] st H = rn Ls xs d 107 8 [some (.inr u), l1, l2] (.inr u :: st) H := rn_nx rfl rfl
theorem e_M_goesOf_8 : rn Ls xs d 107 8 [l0, some (.inl x), l2] st H = rn Ls xs d 107 9 [l0, some (.inl x), l2] (.inl x :: st) H := rn_nx rfl rfl
theorem e_M_goesOf_9 : rn Ls xs d 107 9 [l0, l1, l2]  st H = rn Ls xs d 107 10 [l0, l1, l2] (.inl 0 :: st) H := rn_nx rfl rfl
theorem e_M_goesOf_10 : rn Ls xs (d + 1) 107 10 [l0, l1, l2] [v2, v1, (.inr (.inl (some a)))] (S, I, R) = if h_is S a 9 36 then rb Ls xs (d + 1) 107 13 [l0, l1, l2] [] (rn Ls xs d 105 0 [some (.inr (.inl (some a))), some v1, some v2] [] (S, I, R)) else none := rn_callO rfl rfl (Nat.le_of_ble_eq_true rfl) rfl rfl
theorem e_M_goesOf_13 : rn Ls xs d 107 13 [l0, l1, l2] (.inl x :: st) H = if x = 2 then rn Ls xs d 107 44 [l0, l1, l2] st H else if x = 3 then rn Ls xs d 107 48 [l0, l1, l2] st H else if x = 4 then rn Ls xs d 107 66 [l0, l1, l2] st H else if x = 5 then rn Ls xs d 107 70 [l0, l1, l2] st H else rn Ls xs d 107 80 [l0, l1, l2] st H := (rn_nx rfl rfl).trans (rn_tc rfl rfl (rn_tc rfl rfl (rn_tc rfl rfl (rn_tc rfl rfl (rn_tn)))))
theorem e_M_goesOf_44 : rn Ls xs d 107 44 [l0, l1, some (.inl x)] st H = rn Ls xs d 107 45 [l0, l1, some (.inl x)] (.inl x :: st) H := rn_nx rfl rfl
theorem e_M_goesOf_45 : rn Ls xs d 107 45 [l0, l1, l2]  st H = rn Ls xs d 107 46 [l0, l1, l2] (.inl 1 :: st) H := rn_nx rfl rfl
theorem e_M_goesOf_46 : rn Ls xs d 107 46 [l0, l1, l2] (.inl y :: .inl x :: st) H = rn Ls xs d 107 47 [l0, l1, l2] (.inl (x + y) :: st) H := rn_nx rfl rfl
theorem e_M_goesOf_47 : rn Ls xs d 107 47 [l0, l1, l2] [.inl x] H = some (some (.inl x), H) := rn_done rfl rfl
theorem e_M_goesOf_48 : rn Ls xs d 107 48 [some (.inr u), l1, l2] st H = rn Ls xs d 107 49 [some (.inr u), l1, l2] (.inr u :: st) H := rn_nx rfl rfl
theorem e_M_goesOf_49 : rn Ls xs d 107 49 [l0, l1, l2] (.inr (.inl (some a)) :: st) (S, I, R) = if h_is S a 9 36 then rn Ls xs d 107 52 [l0, l1, l2] (.inr (R a 0) :: st) (S, I, R) else none := rn_bc rfl rfl
theorem e_M_goesOf_52 : rn Ls xs d 107 52 [l0, l1, l2]  st H = rn Ls xs d 107 53 [l0, l1, l2] (.inl 2 :: st) H := rn_nx rfl rfl
theorem e_M_goesOf_53 : rn Ls xs d 107 53 [l0, l1, l2] (.inl i :: .inr (.inl (some a)) :: st) (S, I, R) = if h_ia S a 0 i then rn Ls xs d 107 54 [l0, l1, l2] (.inl (I a i.toNatClampNeg) :: st) (S, I, R) else none := rn_bc rfl rfl
theorem e_M_goesOf_54 : rn Ls xs d 107 54 [l0, l1, l2]  st H = rn Ls xs d 107 55 [l0, l1, l2] (.inl 2 :: st) H := rn_nx rfl rfl
theorem e_M_goesOf_55 : rn Ls xs d 107 55 [l0, l1, l2] (.inl y :: .inl x :: st) H = if y = 0 then none else rn Ls xs d 107 56 [l0, l1, l2] (.inl (x - x / y * y) :: st) H := rn_div (f := fun x y => x - x / y * y) rfl
theorem e_M_goesOf_56 : rn Ls xs d 107 56 [l0, l1, l2]  st H = rn Ls xs d 107 57 [l0, l1, l2] (.inl 1 :: st) H := rn_nx rfl rfl
theorem e_M_goesOf_57 : rn Ls xs d 107 57 [l0, l1, l2] (.inl y :: .inl x :: st) H = if x ≠ y then rn Ls xs d 107 64 [l0, l1, l2] st H else rn Ls xs d 107 60 [l0, l1, l2] st H := rn_cmp (p := fun x y => x ≠ y) rfl
theorem e_M_goesOf_60 : rn Ls xs d 107 60 [l0, l1, l2]  st H = rn Ls xs d 107 61 [l0, l1, l2] (.inl 0 :: st) H := rn_nx rfl rfl
theorem e_M_goesOf_61 : rn Ls xs d 107 61 [l0, l1, l2] st H = rn Ls xs d 107 65 [l0, l1, l2] st H := rn_nx rfl rfl
theorem e_M_goesOf_64 : rn Ls xs d 107 64 [l0, l1, some (.inl x)] st H = rn Ls xs d 107 65 [l0, l1, some (.inl x)] (.inl x :: st) H := rn_nx rfl rfl
theorem e_M_goesOf_65 : rn Ls xs d 107 65 [l0, l1, l2] [.inl x] H = some (some (.inl x), H) := rn_done rfl rfl
theorem e_M_goesOf_66 : rn Ls xs d 107 66 [l0, l1, l2]  st H = rn Ls xs d 107 67 [l0, l1, l2] (.inl (-1) :: st) H := rn_nx rfl rfl
theorem e_M_goesOf_67 : rn Ls xs d 107 67 [l0, l1, some (.inl x)] st H = rn Ls xs d 107 68 [l0, l1, some (.inl x)] (.inl x :: st) H := rn_nx rfl rfl
theorem e_M_goesOf_68 : rn Ls xs d 107 68 [l0, l1, l2] (.inl y :: .inl x :: st) H = rn Ls xs d 107 69 [l0, l1, l2] (.inl (x - y) :: st) H := rn_nx rfl rfl
theorem e_M_goesOf_69 : rn Ls xs d 107 69 [l0, l1, l2] [.inl x] H = some (some (.inl x), H) := rn_done rfl rfl
theorem e_M_goesOf_70 : rn Ls xs d 107 70 [l0, l1, some (.inl x)] st H = rn Ls xs d 107 71 [l0, l1, some (.inl x)] (.inl x :: st) H := rn_nx rfl rfl
theorem e_M_goesOf_71 : rn Ls xs d 107 71 [l0, l1, l2] (.inl x :: st) H = if x ≠ 0 then rn Ls xs d 107 78 [l0, l1, l2] st H else rn Ls xs d 107 74 [l0, l1, l2] st H := rn_if (p := fun x => x ≠ 0) rfl
theorem e_M_goesOf_74 : rn Ls xs d 107 74 [l0, l1, l2]  st H = rn Ls xs d 107 75 [l0, l1, l2] (.inl 1 :: st) H := rn_nx rfl rfl
theorem e_M_goesOf_75 : rn Ls xs d 107 75 [l0, l1, l2] st H = rn Ls xs d 107 79 [l0, l1, l2] st H := rn_nx rfl rfl
theorem e_M_goesOf_78 : rn Ls xs d 107 78 [l0, l1, some (.inl x)] st H = rn Ls xs d 107 79 [l0, l1, some (.inl x)] (.inl x :: st) H := rn_nx rfl rfl
theorem e_M_goesOf_79 : rn Ls xs d 107 79 [l0, l1, l2] [.inl x] H = some (some (.inl x), H) := rn_done rfl rfl
theorem e_M_goesOf_80 : rn Ls xs d 107 80 [l0, l1, some (.inl x)] st H = rn Ls xs d 107 81 [l0, l1, some (.inl x)] (.inl x :: st) H := rn_nx rfl rfl
theorem e_M_goesOf_81 : rn Ls xs d 107 81 [l0, l1, l2] [.inl x] H = some (some (.inl x), H) := rn_done rfl rfl
theorem e_M_worthOf_0 : rn Ls xs d 108 0 [some (.inr u), l1, l2] st H = rn Ls xs d 108 1 [some (.inr u), l1, l2] (.inr u :: st) H := rn_nx rfl rfl
theorem e_M_worthOf_1 : rn Ls xs d 108 1 [l0, some (.inl x), l2] st H = rn Ls xs d 108 2 [l0, some (.inl x), l2] (.inl x :: st) H := rn_nx rfl rfl
theorem e_M_worthOf_2 : rn Ls xs d 108 2 [l0, l1, l2]  st H = rn Ls xs d 108 3 [l0, l1, l2] (.inl 4 :: st) H := rn_nx rfl rfl
theorem e_M_worthOf_3 : rn Ls xs (d + 1) 108 3 [l0, l1, l2] [v2, v1, (.inr (.inl (some a)))] (S, I, R) = if h_is S a 9 36 then rb Ls xs (d + 1) 108 6 [l0, l1, l2] [] (rn Ls xs d 105 0 [some (.inr (.inl (some a))), some v1, some v2] [] (S, I, R)) else none := rn_callO rfl rfl (Nat.le_of_ble_eq_true rfl) rfl rfl
theorem e_M_worthOf_6 : rn Ls xs d 108 6 [l0, l1, l2] (.inl x :: st) H = rn Ls xs d 108 7 [l0, l1, some (.inl x)] st H := rn_nx rfl rfl
theorem e_M_worthOf_7 : rn Ls xs d 108 7 [some (.inr u), l1, l2] st H = rn Ls xs d 108 8 [some (.inr u), l1, l2] (.inr u :: st) H := rn_nx rfl rfl
theorem e_M_worthOf_8 : rn Ls xs d 108 8 [l0, some (.inl x), l2] st H = rn Ls xs d 108 9 [l0, some (.inl x), l2] (.inl x :: st) H := rn_nx rfl rfl
theorem e_M_worthOf_9 : rn Ls xs d 108 9 [l0, l1, l2]  st H = rn Ls xs d 108 10 [l0, l1, l2] (.inl 0 :: st) H := rn_nx rfl rfl
theorem e_M_worthOf_10 : rn Ls xs (d + 1) 108 10 [l0, l1, l2] [v2, v1, (.inr (.inl (some a)))] (S, I, R) = if h_is S a 9 36 then rb Ls xs (d + 1) 108 13 [l0, l1, l2] [] (rn Ls xs d 105 0 [some (.inr (.inl (some a))), some v1, some v2] [] (S, I, R)) else none := rn_callO rfl rfl (Nat.le_of_ble_eq_true rfl) rfl rfl
theorem e_M_worthOf_13 : rn Ls xs d 108 13 [l0, l1, l2] (.inl x :: st) H = if x = 1 then rn Ls xs d 108 48 [l0, l1, l2] st H else if x = 2 then rn Ls xs d 108 53 [l0, l1, l2] st H else if x = 3 then rn Ls xs d 108 58 [l0, l1, l2] st H else if x = 4 then rn Ls xs d 108 65 [l0, l1, l2] st H else if x = 5 then rn Ls xs d 108 70 [l0, l1, l2] st H else rn Ls xs d 108 72 [l0, l1, l2] st H := (rn_nx rfl rfl).trans (rn_tc rfl rfl (rn_tc rfl rfl (rn_tc rfl rfl (rn_tc rfl rfl (rn_tc rfl rfl (rn_tn))))))
theorem e_M_worthOf_48 : rn Ls xs d 108 48 [l0, l1, some (.inl x)] st H = rn Ls xs d 108 49 [l0, l1, some (.inl x)] (.inl x :: st) H := rn_nx rfl rfl
theorem e_M_worthOf_49 : rn Ls xs d 108 49 [l0, l1, l2]  st H = rn Ls xs d 108 51 [l0, l1, l2] (.inl 9 :: st) H := rn_nx rfl rfl
theorem e_M_worthOf_51 : rn Ls xs d 108 51 [l0, l1, l2] (.inl y :: .inl x :: st) H = rn Ls xs d 108 52 [l0, l1, l2] (.inl (x + y) :: st) H := rn_nx rfl rfl
theorem e_M_worthOf_52 : rn Ls xs d 108 52 [l0, l1, l2] [.inl x] H = some (some (.inl x), H) := rn_done rfl rfl
theorem e_M_worthOf_53 : rn Ls xs d 108 53 [l0, l1, l2]  st H = rn Ls xs d 108 55 [l0, l1, l2] (.inl 99 :: st) H := rn_nx rfl rfl
theorem e_M_worthOf_55 : rn Ls xs d 108 55 [l0, l1, some (.inl x)] st H = rn Ls xs d 108 56 [l0, l1, some (.inl x)] (.inl x :: st) H := rn_nx rfl rfl
theorem e_M_worthOf_56 : rn Ls xs d 108 56 [l0, l1, l2] (.inl y :: .inl x :: st) H = rn Ls xs d 108 57 [l0, l1, l2] (.inl (x - y) :: st) H := rn_nx rfl rfl
theorem e_M_worthOf_57 : rn Ls xs d 108 57 [l0, l1, l2] [.inl x] H = some (some (.inl x), H) := rn_done rfl rfl
theorem e_M_worthOf_58 : rn Ls xs d 108 58 [l0, l1, l2]  st H = rn Ls xs d 108 59 [l0, l1, l2] (.inl 2 :: st) H := rn_nx rfl rfl
theorem e_M_worthOf_59 : rn Ls xs d 108 59 [l0, l1, some (.inl x)] st H = rn Ls xs d 108 60 [l0, l1, some (.inl x)] (.inl x :: st) H := rn_nx rfl rfl
theorem e_M_worthOf_60 : rn Ls xs d 108 60 [l0, l1, l2]  st H = rn Ls xs d 108 62 [l0, l1, l2] (.inl 9 :: st) H := rn_nx rfl rfl
theorem e_M_worthOf_62 : rn Ls xs d 108 62 [l0, l1, l2] (.inl y :: .inl x :: st) H = rn Ls xs d 108 63 [l0, l1, l2] (.inl (x + y) :: st) H := rn_nx rfl rfl
theorem e_M_worthOf_63 : rn Ls xs d 108 63 [l0, l1, l2] (.inl y :: .inl x :: st) H = rn Ls xs d 108 64 [l0, l1, l2] (.inl (x * y) :: st) H := rn_nx rfl rfl
theorem e_M_worthOf_64 : rn Ls xs d 108 64 [l0, l1, l2] [.inl x] H = some (some (.inl x), H) := rn_done rfl rfl
theorem e_M_worthOf_65 : rn Ls xs d 108 65 [l0, l1, l2]  st H = rn Ls xs d 108 67 [l0, l1, l2] (.inl 94 :: st) H := rn_nx rfl rfl
theorem e_M_worthOf_67 : rn Ls xs d 108 67 [l0, l1, some (.inl x)] st H = rn Ls xs d 108 68 [l0, l1, some (.inl x)] (.inl x :: st) H := rn_nx rfl rfl
theorem e_M_worthOf_68 : rn Ls xs d 108 68 [l0, l1, l2] (.inl y :: .inl x :: st) H = rn Ls xs d 108 69 [l0, l1, l2] (.inl (x - y) :: st) H := rn_nx rfl rfl
theorem e_M_worthOf_69 : rn Ls xs d 108 69 [l0, l1, l2] [.inl x] H = some (some (.inl x), H) := rn_done rfl rfl
theorem e_M_worthOf_70 : rn Ls xs d 108 70 [l0, l1, l2]  st H = rn Ls xs d 108 71 [l0, l1, l2] (.inl 2 :: st) H := rn_nx rfl rfl
theorem e_M_worthOf_71 : rn Ls xs d 108 71 [l0, l1, l2] [.inl x] H = some (some (.inl x), H) := rn_done rfl rfl
theorem e_M_worthOf_72 : rn Ls xs d 108 72 [l0, l1, some (.inl x)] st H = rn Ls xs d 108 73 [l0, l1, some (.inl x)] (.inl x :: st) H := rn_nx rfl rfl
theorem e_M_worthOf_73 : rn Ls xs d 108 73 [l0, l1, l2] [.inl x] H = some (some (.inl x), H) := rn_done rfl rfl
theorem e_K_isOf_0 : rn Ls xs d 109 0 [some (.inr u), l1, l2, l3] st H = rn Ls xs d 109 1 [some (.inr u), l1, l2, l3] (.inr u :: st) H := rn_nx rfl rfl
theorem e_K_isOf_1 : rn Ls xs d 109 1 [l0, l1, l2, l3] (.inr (.inl (some a)) :: st) (S, I, R) = if h_is S a 7 6 then rn Ls xs d 109 4 [l0, l1, l2, l3] (.inl (I a 0) :: st) (S, I, R) else none := rn_bc rfl rfl
theorem e_K_isOf_4 : rn Ls xs d 109 4 [l0, l1, l2, l3] (.inl x :: st) H = rn Ls xs d 109 5 [l0, l1, some (.inl x), l3] st H := rn_nx rfl rfl
theorem e_K_isOf_5 : rn Ls xs d 109 5 [l0, l1, l2, l3]  st H = rn Ls xs d 109 6 [l0, l1, l2, l3] (.inl 0 :: st) H := rn_nx rfl rfl
theorem e_K_isOf_6 : rn Ls xs d 109 6 [l0, l1, l2, l3] (.inl x :: st) H = rn Ls xs d 109 7 [l0, l1, l2, some (.inl x)] st H := rn_nx rfl rfl
theorem e_K_isOf_7 : rn Ls xs d 109 7 [l0, l1, l2, some (.inl x)] st H = rn Ls xs d 109 8 [l0, l1, l2, some (.inl x)] (.inl x :: st) H := rn_nx rfl rfl
theorem e_K_isOf_8 : rn Ls xs d 109 8 [l0, l1, l2, l3]  st H = rn Ls xs d 109 10 [l0, l1, l2, l3] (.inl 6 :: st) H := rn_nx rfl rfl
theorem e_K_isOf_10 : rn Ls xs d 109 10 [l0, l1, l2, l3] (.inl y :: .inl x :: st) H = if y ≤ x then rn Ls xs d 109 36 [l0, l1, l2, l3] st H else rn Ls xs d 109 13 [l0, l1, l2, l3] st H := rn_cmp (p := fun x y => y ≤ x) rfl
theorem e_K_isOf_13 : rn Ls xs d 109 13 [l0, l1, some (.inl x), l3] st H = rn Ls xs d 109 14 [l0, l1, some (.inl x), l3] (.inl x :: st) H := rn_nx rfl rfl
theorem e_K_isOf_14 : rn Ls xs d 109 14 [l0, l1, l2, l3] (.inl x :: st) H = if x < 0 then rn Ls xs d 109 36 [l0, l1, l2, l3] st H else rn Ls xs d 109 17 [l0, l1, l2, l3] st H := rn_if (p := fun x => x < 0) rfl
theorem e_K_isOf_17 : rn Ls xs d 109 17 [l0, l1, some (.inl x), l3] st H = rn Ls xs d 109 18 [l0, l1, some (.inl x), l3] (.inl x :: st) H := rn_nx rfl rfl
theorem e_K_isOf_18 : rn Ls xs d 109 18 [l0, some (.inl x), l2, l3] st H = rn Ls xs d 109 19 [l0, some (.inl x), l2, l3] (.inl x :: st) H := rn_nx rfl rfl
theorem e_K_isOf_19 : rn Ls xs d 109 19 [l0, l1, l2, l3] (.inl y :: .inl x :: st) H = if x ≠ y then rn Ls xs d 109 24 [l0, l1, l2, l3] st H else rn Ls xs d 109 22 [l0, l1, l2, l3] st H := rn_cmp (p := fun x y => x ≠ y) rfl
theorem e_K_isOf_22 : rn Ls xs d 109 22 [l0, l1, l2, l3]  st H = rn Ls xs d 109 23 [l0, l1, l2, l3] (.inl 1 :: st) H := rn_nx rfl rfl
theorem e_K_isOf_23 : rn Ls xs d 109 23 [l0, l1, l2, l3] [.inl x] H = if h_bo x then some (some (.inl x), H) else none := rn_zret rfl
theorem e_K_isOf_24 : rn Ls xs d 109 24 [l0, l1, l2, l3] st H = rn Ls xs d 109 27 [l0, l1, l2, l3] (.inr (.inr 1) :: st) H := rn_nx rfl rfl
theorem e_K_isOf_27 : rn Ls xs d 109 27 [l0, l1, some (.inl x), l3] st H = rn Ls xs d 109 28 [l0, l1, some (.inl x), l3] (.inl x :: st) H := rn_nx rfl rfl
theorem e_K_isOf_28 : rn Ls xs d 109 28 [l0, l1, l2, l3] (.inl i :: .inr (.inr 1) :: st) H = if 0 ≤ i.toInt ∧ i.toInt < 6 then rn Ls xs d 109 29 [l0, l1, l2, l3] (.inl (c_above i.toNatClampNeg) :: st) H else none := rn_pc rfl rfl
theorem e_K_isOf_29 : rn Ls xs d 109 29 [l0, l1, l2, l3] (.inl x :: st) H = rn Ls xs d 109 30 [l0, l1, some (.inl x), l3] st H := rn_nx rfl rfl
theorem e_K_isOf_30 : rn Ls xs d 109 30 [l0, l1, l2, some (.inl x)] st H = rn Ls xs d 109 33 [l0, l1, l2, some (.inl (x + 1))] st H := rn_nx rfl rfl
theorem e_K_isOf_33 : rn Ls xs d 109 33 [l0, l1, l2, l3] st H = rn Ls xs d 109 7 [l0, l1, l2, l3] st H := rn_nx rfl rfl
theorem e_K_isOf_36 : rn Ls xs d 109 36 [l0, l1, l2, l3]  st H = rn Ls xs d 109 37 [l0, l1, l2, l3] (.inl 0 :: st) H := rn_nx rfl rfl
theorem e_K_isOf_37 : rn Ls xs d 109 37 [l0, l1, l2, l3] [.inl x] H = if h_bo x then some (some (.inl x), H) else none := rn_zret rfl
theorem e_M_isUnder_0 : rn Ls xs d 110 0 [l0, some (.inl x)] st H = rn Ls xs d 110 1 [l0, some (.inl x)] (.inl x :: st) H := rn_nx rfl rfl
theorem e_M_isUnder_1 : rn Ls xs d 110 1 [l0, l1] (.inl x :: st) H = if x = 0 then rn Ls xs d 110 29 [l0, l1] st H else rn Ls xs d 110 4 [l0, l1] st H := rn_if (p := fun x => x = 0) rfl
theorem e_M_isUnder_4 : rn Ls xs d 110 4 [some (.inl x), l1] st H = rn Ls xs d 110 5 [some (.inl x), l1] (.inl x :: st) H := rn_nx rfl rfl
theorem e_M_isUnder_5 : rn Ls xs d 110 5 [l0, some (.inl x)] st H = rn Ls xs d 110 6 [l0, some (.inl x)] (.inl x :: st) H := rn_nx rfl rfl
theorem e_M_isUnder_6 : rn Ls xs d 110 6 [l0, l1] (.inl y :: .inl x :: st) H = if x = y then rn Ls xs d 110 29 [l0, l1] st H else rn Ls xs d 110 9 [l0, l1] st H := rn_cmp (p := fun x y => x = y) rfl
theorem e_M_isUnder_9 : rn Ls xs d 110 9 [l0, some (.inl x)] st H = rn Ls xs d 110 10 [l0, some (.inl x)] (.inl x :: st) H := rn_nx rfl rfl
theorem e_M_isUnder_10 : rn Ls xs d 110 10 [l0, l1]  st H = rn Ls xs d 110 11 [l0, l1] (.inl 1 :: st) H := rn_nx rfl rfl
theorem e_M_isUnder_11 : rn Ls xs d 110 11 [l0, l1] (.inl y :: .inl x :: st) H = if x ≠ y then rn Ls xs d 110 19 [l0, l1] st H else rn Ls xs d 110 14 [l0, l1] st H := rn_cmp (p := fun x y => x ≠ y) rfl
theorem e_M_isUnder_14 : rn Ls xs d 110 14 [some (.inl x), l1] st H = rn Ls xs d 110 15 [some (.inl x), l1] (.inl x :: st) H := rn_nx rfl rfl
theorem e_M_isUnder_15 : rn Ls xs d 110 15 [l0, l1]  st H = rn Ls xs d 110 16 [l0, l1] (.inl 3 :: st) H := rn_nx rfl rfl
theorem e_M_isUnder_16 : rn Ls xs d 110 16 [l0, l1] (.inl y :: .inl x :: st) H = if x = y then rn Ls xs d 110 29 [l0, l1] st H else rn Ls xs d 110 19 [l0, l1] st H := rn_cmp (p := fun x y => x = y) rfl
theorem e_M_isUnder_19 : rn Ls xs d 110 19 [l0, some (.inl x)] st H = rn Ls xs d 110 20 [l0, some (.inl x)] (.inl x :: st) H := rn_nx rfl rfl
theorem e_M_isUnder_20 : rn Ls xs d 110 20 [l0, l1]  st H = rn Ls xs d 110 21 [l0, l1] (.inl 2 :: st) H := rn_nx rfl rfl
theorem e_M_isUnder_21 : rn Ls xs d 110 21 [l0, l1] (.inl y :: .inl x :: st) H = if x ≠ y then rn Ls xs d 110 33 [l0, l1] st H else rn Ls xs d 110 24 [l0, l1] st H := rn_cmp (p := fun x y => x ≠ y) rfl
theorem e_M_isUnder_24 : rn Ls xs d 110 24 [some (.inl x), l1] st H = rn Ls xs d 110 25 [some (.inl x), l1] (.inl x :: st) H := rn_nx rfl rfl
theorem e_M_isUnder_25 : rn Ls xs d 110 25 [l0, l1]  st H = rn Ls xs d 110 26 [l0, l1] (.inl 4 :: st) H := rn_nx rfl rfl
theorem e_M_isUnder_26 : rn Ls xs d 110 26 [l0, l1] (.inl y :: .inl x :: st) H = if x ≠ y then rn Ls xs d 110 33 [l0, l1] st H else rn Ls xs d 110 29 [l0, l1] st H := rn_cmp (p := fun x y => x ≠ y) rfl
theorem e_M_isUnder_29 : rn Ls xs d 110 29 [l0, l1]  st H = rn Ls xs d 110 30 [l0, l1] (.inl 1 :: st) H := rn_nx rfl rfl
theorem e_M_isUnder_30 : rn Ls xs d 110 30 [l0, l1] st H = rn Ls xs d 110 34 [l0, l1] st H := rn_nx rfl rfl
theorem e_M_isUnder_33 : rn Ls xs d 110 33 [l0, l1]  st H = rn Ls xs d 110 34 [l0, l1] (.inl 0 :: st) H := rn_nx rfl rfl
theorem e_M_isUnder_34 : rn Ls xs d 110 34 [l0, l1] [.inl x] H = if h_bo x then some (some (.inl x), H) else none := rn_zret rfl
theorem e_M_becomes_0 : rn Ls xs d 111 0 [some (.inr u), l1, l2, l3] st H = rn Ls xs d 111 1 [some (.inr u), l1, l2, l3] (.inr u :: st) H := rn_nx rfl rfl
theorem e_M_becomes_1 : rn Ls xs d 111 1 [l0, l1, l2, l3] (.inr (.inl (some a)) :: st) (S, I, R) = if h_is S a 9 36 then rn Ls xs d 111 4 [l0, l1, l2, l3] (.inr (R a 0) :: st) (S, I, R) else none := rn_bc rfl rfl
theorem e_M_becomes_4 : rn Ls xs d 111 4 [l0, some (.inl x), l2, l3] st H = rn Ls xs d 111 5 [l0, some (.inl x), l2, l3] (.inl x :: st) H := rn_nx rfl rfl
theorem e_M_becomes_5 : rn Ls xs d 111 5 [l0, l1, l2, l3] (.inl i :: .inr (.inl (some a)) :: st) (S, I, R) = if h_ia S a 0 i then rn Ls xs d 111 6 [l0, l1, l2, l3] (.inl (I a i.toNatClampNeg) :: st) (S, I, R) else none := rn_bc rfl rfl
theorem e_M_becomes_6 : rn Ls xs d 111 6 [l0, l1, l2, l3] (.inl x :: st) H = rn Ls xs d 111 7 [l0, l1, l2, some (.inl x)] st H := rn_nx rfl rfl
theorem e_M_becomes_7 : rn Ls xs d 111 7 [some (.inr u), l1, l2, l3] st H = rn Ls xs d 111 8 [some (.inr u), l1, l2, l3] (.inr u :: st) H := rn_nx rfl rfl
theorem e_M_becomes_8 : rn Ls xs d 111 8 [l0, l1, l2, l3] (.inr (.inl (some a)) :: st) (S, I, R) = if h_is S a 9 36 then rn Ls xs d 111 11 [l0, l1, l2, l3] (.inr (R a 0) :: st) (S, I, R) else none := rn_bc rfl rfl
theorem e_M_becomes_11 : rn Ls xs d 111 11 [l0, some (.inl x), l2, l3] st H = rn Ls xs d 111 12 [l0, some (.inl x), l2, l3] (.inl x :: st) H := rn_nx rfl rfl
theorem e_M_becomes_12 : rn Ls xs d 111 12 [l0, l1, some (.inl x), l3] st H = rn Ls xs d 111 13 [l0, l1, some (.inl x), l3] (.inl x :: st) H := rn_nx rfl rfl
theorem e_M_becomes_13 : rn Ls xs d 111 13 [l0, l1, l2, l3] (.inl x :: .inl i :: .inr (.inl (some a)) :: st) (S, I, R) = if h_ia S a 0 i then rn Ls xs d 111 14 [l0, l1, l2, l3] st (S, va_up I a (upd (I a) i.toNatClampNeg x), R) else none := rn_bc rfl rfl
theorem e_M_becomes_14 : rn Ls xs d 111 14 [l0, l1, l2, some (.inl x)] st H = rn Ls xs d 111 15 [l0, l1, l2, some (.inl x)] (.inl x :: st) H := rn_nx rfl rfl
theorem e_M_becomes_15 : rn Ls xs d 111 15 [l0, l1, l2, l3] [.inl x] H = some (some (.inl x), H) := rn_done rfl rfl
theorem e_W_fits_0 : rn Ls xs d 112 0 [some (.inl x), l1] st H = rn Ls xs d 112 1 [some (.inl x), l1] (.inl x :: st) H := rn_nx rfl rfl
theorem e_W_fits_1 : rn Ls xs d 112 1 [l0, l1] (.inl x :: st) H = if x = 1 then rn Ls xs d 112 36 [l0, l1] st H else if x = 2 then rn Ls xs d 112 44 [l0, l1] st H else if x = 3 then rn Ls xs d 112 49 [l0, l1] st H else if x = 4 then rn Ls xs d 112 58 [l0, l1] st H else if x = 5 then rn Ls xs d 112 66 [l0, l1] st H else rn Ls xs d 112 73 [l0, l1] st H := (rn_nx rfl rfl).trans (rn_tc rfl rfl (rn_tc rfl rfl (rn_tc rfl rfl (rn_tc rfl rfl (rn_tc rfl rfl (rn_tn))))))
theorem e_W_fits_36 : rn Ls xs d 112 36 [l0, some (.inl x)] st H = rn Ls xs d 112 37 [l0, some (.inl x)] (.inl x :: st) H := rn_nx rfl rfl
theorem e_W_fits_37 : rn Ls xs d 112 37 [l0, l1]  st H = rn Ls xs d 112 38 [l0, l1] (.inl 0 :: st) H := rn_nx rfl rfl
theorem e_W_fits_38 : rn Ls xs d 112 38 [l0, l1]  st H = rn Ls xs d 112 40 [l0, l1] (.inl 7 :: st) H := rn_nx rfl rfl
theorem e_W_fits_40 : rn Ls xs (d + 1) 112 40 [l0, l1] [v2, v1, v0] H = rb Ls xs (d + 1) 112 43 [l0, l1] [] (rn Ls xs d 94 0 [some v0, some v1, some v2] [] H) := rn_call rfl (Nat.le_of_ble_eq_true rfl) (Nat.le_of_ble_eq_true rfl) rfl rfl
theorem e_W_fits_43 : rn Ls xs d 112 43 [l0, l1] [.inl x] H = if h_bo x then some (some (.inl x), H) else none := rn_zret rfl
theorem e_W_fits_44 : rn Ls xs d 112 44 [l0, some (.inl x)] st H = rn Ls xs d 112 45 [l0, some (.inl x)] (.inl x :: st) H := rn_nx rfl rfl
theorem e_W_fits_45 : rn Ls xs (d + 1) 112 45 [l0, l1] [v0] H = rb Ls xs (d + 1) 112 48 [l0, l1] [] (rn Ls xs d 95 0 [some v0] [] H) := rn_call rfl (Nat.le_of_ble_eq_true rfl) (Nat.le_of_ble_eq_true rfl) rfl rfl
theorem e_W_fits_48 : rn Ls xs d 112 48 [l0, l1] [.inl x] H = if h_bo x then some (some (.inl x), H) else none := rn_zret rfl
theorem e_W_fits_49 : rn Ls xs d 112 49 [l0, some (.inl x)] st H = rn Ls xs d 112 50 [l0, some (.inl x)] (.inl x :: st) H := rn_nx rfl rfl
theorem e_W_fits_50 : rn Ls xs d 112 50 [l0, l1]  st H = rn Ls xs d 112 52 [l0, l1] (.inl (-9) :: st) H := rn_nx rfl rfl
theorem e_W_fits_52 : rn Ls xs d 112 52 [l0, l1]  st H = rn Ls xs d 112 54 [l0, l1] (.inl 9 :: st) H := rn_nx rfl rfl
theorem e_W_fits_54 : rn Ls xs (d + 1) 112 54 [l0, l1] [v2, v1, v0] H = rb Ls xs (d + 1) 112 57 [l0, l1] [] (rn Ls xs d 94 0 [some v0, some v1, some v2] [] H) := rn_call rfl (Nat.le_of_ble_eq_true rfl) (Nat.le_of_ble_eq_true rfl) rfl rfl
theorem e_W_fits_57 : rn Ls xs d 112 57 [l0, l1] [.inl x] H = if h_bo x then some (some (.inl x), H) else none := rn_zret rfl
theorem e_W_fits_58 : rn Ls xs d 112 58 [l0, some (.inl x)] st H = rn Ls xs d 112 59 [l0, some (.inl x)] (.inl x :: st) H := rn_nx rfl rfl
theorem e_W_fits_59 : rn Ls xs d 112 59 [l0, l1]  st H = rn Ls xs d 112 60 [l0, l1] (.inl 1 :: st) H := rn_nx rfl rfl
theorem e_W_fits_60 : rn Ls xs d 112 60 [l0, l1]  st H = rn Ls xs d 112 62 [l0, l1] (.inl 99 :: st) H := rn_nx rfl rfl
theorem e_W_fits_62 : rn Ls xs (d + 1) 112 62 [l0, l1] [v2, v1, v0] H = rb Ls xs (d + 1) 112 65 [l0, l1] [] (rn Ls xs d 94 0 [some v0, some v1, some v2] [] H) := rn_call rfl (Nat.le_of_ble_eq_true rfl) (Nat.le_of_ble_eq_true rfl) rfl rfl
theorem e_W_fits_65 : rn Ls xs d 112 65 [l0, l1] [.inl x] H = if h_bo x then some (some (.inl x), H) else none := rn_zret rfl
theorem e_W_fits_66 : rn Ls xs d 112 66 [l0, some (.inl x)] st H = rn Ls xs d 112 67 [l0, some (.inl x)] (.inl x :: st) H := rn_nx rfl rfl
theorem e_W_fits_67 : rn Ls xs d 112 67 [l0, l1]  st H = rn Ls xs d 112 68 [l0, l1] (.inl 0 :: st) H := rn_nx rfl rfl
theorem e_W_fits_68 : rn Ls xs d 112 68 [l0, l1]  st H = rn Ls xs d 112 69 [l0, l1] (.inl 1 :: st) H := rn_nx rfl rfl
theorem e_W_fits_69 : rn Ls xs (d + 1) 112 69 [l0, l1] [v2, v1, v0] H = rb Ls xs (d + 1) 112 72 [l0, l1] [] (rn Ls xs d 94 0 [some v0, some v1, some v2] [] H) := rn_call rfl (Nat.le_of_ble_eq_true rfl) (Nat.le_of_ble_eq_true rfl) rfl rfl
theorem e_W_fits_72 : rn Ls xs d 112 72 [l0, l1] [.inl x] H = if h_bo x then some (some (.inl x), H) else none := rn_zret rfl
theorem e_W_fits_73 : rn Ls xs d 112 73 [l0, l1]  st H = rn Ls xs d 112 74 [l0, l1] (.inl 0 :: st) H := rn_nx rfl rfl
theorem e_W_fits_74 : rn Ls xs d 112 74 [l0, l1] [.inl x] H = if h_bo x then some (some (.inl x), H) else none := rn_zret rfl
theorem e_M_isUp_0 : rn Ls xs d 113 0 [some (.inr u), l1] st H = rn Ls xs d 113 1 [some (.inr u), l1] (.inr u :: st) H := rn_nx rfl rfl
theorem e_M_isUp_1 : rn Ls xs d 113 1 [l0, some (.inl x)] st H = rn Ls xs d 113 2 [l0, some (.inl x)] (.inl x :: st) H := rn_nx rfl rfl
theorem e_M_isUp_2 : rn Ls xs d 113 2 [l0, l1]  st H = rn Ls xs d 113 3 [l0, l1] (.inl 5 :: st) H := rn_nx rfl rfl
theorem e_M_isUp_3 : rn Ls xs (d + 1) 113 3 [l0, l1] [v2, v1, (.inr (.inl (some a)))] (S, I, R) = if h_is S a 9 36 then rb Ls xs (d + 1) 113 6 [l0, l1] [] (rn Ls xs d 105 0 [some (.inr (.inl (some a))), some v1, some v2] [] (S, I, R)) else none := rn_callO rfl rfl (Nat.le_of_ble_eq_true rfl) rfl rfl
theorem e_M_isUp_6 : rn Ls xs d 113 6 [l0, l1]  st H = rn Ls xs d 113 7 [l0, l1] (.inl 1 :: st) H := rn_nx rfl rfl
theorem e_M_isUp_7 : rn Ls xs d 113 7 [l0, l1] (.inl y :: .inl x :: st) H = if x ≠ y then rn Ls xs d 113 14 [l0, l1] st H else rn Ls xs d 113 10 [l0, l1] st H := rn_cmp (p := fun x y => x ≠ y) rfl
theorem e_M_isUp_10 : rn Ls xs d 113 10 [l0, l1]  st H = rn Ls xs d 113 11 [l0, l1] (.inl 1 :: st) H := rn_nx rfl rfl
theorem e_M_isUp_11 : rn Ls xs d 113 11 [l0, l1] st H = rn Ls xs d 113 15 [l0, l1] st H := rn_nx rfl rfl
theorem e_M_isUp_14 : rn Ls xs d 113 14 [l0, l1]  st H = rn Ls xs d 113 15 [l0, l1] (.inl 0 :: st) H := rn_nx rfl rfl
theorem e_M_isUp_15 : rn Ls xs d 113 15 [l0, l1] [.inl x] H = if h_bo x then some (some (.inl x), H) else none := rn_zret rfl
theorem e_M_put_0 : rn Ls xs d 114 0 [some (.inr u), l1, l2, l3] st H = rn Ls xs d 114 1 [some (.inr u), l1, l2, l3] (.inr u :: st) H := rn_nx rfl rfl
theorem e_M_put_1 : rn Ls xs d 114 1 [l0, l1, l2, l3] (.inr (.inl (some a)) :: st) (S, I, R) = if h_is S a 9 36 then rn Ls xs d 114 4 [l0, l1, l2, l3] (.inr (R a 0) :: st) (S, I, R) else none := rn_bc rfl rfl
theorem e_M_put_4 : rn Ls xs d 114 4 [l0, l1, l2, l3]  st H = rn Ls xs d 114 6 [l0, l1, l2, l3] (.inl 8 :: st) H := rn_nx rfl rfl
theorem e_M_put_6 : rn Ls xs d 114 6 [l0, l1, l2, l3]  st H = rn Ls xs d 114 8 [l0, l1, l2, l3] (.inl 6 :: st) H := rn_nx rfl rfl
theorem e_M_put_8 : rn Ls xs d 114 8 [l0, some (.inl x), l2, l3] st H = rn Ls xs d 114 9 [l0, some (.inl x), l2, l3] (.inl x :: st) H := rn_nx rfl rfl
theorem e_M_put_9 : rn Ls xs d 114 9 [l0, l1, l2, l3] (.inl y :: .inl x :: st) H = rn Ls xs d 114 10 [l0, l1, l2, l3] (.inl (x * y) :: st) H := rn_nx rfl rfl
theorem e_M_put_10 : rn Ls xs d 114 10 [l0, l1, l2, l3] (.inl y :: .inl x :: st) H = rn Ls xs d 114 11 [l0, l1, l2, l3] (.inl (x + y) :: st) H := rn_nx rfl rfl
theorem e_M_put_11 : rn Ls xs d 114 11 [l0, l1, some (.inl x), l3] st H = rn Ls xs d 114 12 [l0, l1, some (.inl x), l3] (.inl x :: st) H := rn_nx rfl rfl
theorem e_M_put_12 : rn Ls xs d 114 12 [l0, l1, l2, l3] (.inl y :: .inl x :: st) H = rn Ls xs d 114 13 [l0, l1, l2, l3] (.inl (x + y) :: st) H := rn_nx rfl rfl
theorem e_M_put_13 : rn Ls xs d 114 13 [l0, l1, l2, some (.inl x)] st H = rn Ls xs d 114 14 [l0, l1, l2, some (.inl x)] (.inl x :: st) H := rn_nx rfl rfl
theorem e_M_put_14 : rn Ls xs d 114 14 [l0, l1, l2, l3] (.inl x :: .inl i :: .inr (.inl (some a)) :: st) (S, I, R) = if h_ia S a 0 i then rn Ls xs d 114 15 [l0, l1, l2, l3] st (S, va_up I a (upd (I a) i.toNatClampNeg x), R) else none := rn_bc rfl rfl
theorem e_M_put_15 : rn Ls xs d 114 15 [l0, l1, l2, l3] [] H = some (none, H) := rn_done rfl rfl
theorem e_M_upAt_0 : rn Ls xs d 115 0 [l0, l1, l2, l3, l4]  st H = rn Ls xs d 115 1 [l0, l1, l2, l3, l4] (.inl 0 :: st) H := rn_nx rfl rfl
theorem e_M_upAt_1 : rn Ls xs d 115 1 [l0, l1, l2, l3, l4] (.inl x :: st) H = rn Ls xs d 115 2 [l0, l1, l2, some (.inl x), l4] st H := rn_nx rfl rfl
theorem e_M_upAt_2 : rn Ls xs d 115 2 [l0, l1, l2, l3, l4]  st H = rn Ls xs d 115 3 [l0, l1, l2, l3, l4] (.inl 0 :: st) H := rn_nx rfl rfl
theorem e_M_upAt_3 : rn Ls xs d 115 3 [l0, l1, l2, l3, l4] (.inl x :: st) H = rn Ls xs d 115 5 [l0, l1, l2, l3, some (.inl x)] st H := rn_nx rfl rfl
theorem e_M_upAt_5 : rn Ls xs d 115 5 [l0, l1, l2, l3, some (.inl x)] st H = rn Ls xs d 115 7 [l0, l1, l2, l3, some (.inl x)] (.inl x :: st) H := rn_nx rfl rfl
theorem e_M_upAt_7 : rn Ls xs d 115 7 [some (.inr u), l1, l2, l3, l4] st H = rn Ls xs d 115 8 [some (.inr u), l1, l2, l3, l4] (.inr u :: st) H := rn_nx rfl rfl
theorem e_M_upAt_8 : rn Ls xs d 115 8 [l0, l1, l2, l3, l4] (.inr (.inl (some a)) :: st) (S, I, R) = if h_is S a 9 36 then rn Ls xs d 115 11 [l0, l1, l2, l3, l4] (.inr (R a 0) :: st) (S, I, R) else none := rn_bc rfl rfl
theorem e_M_upAt_11 : rn Ls xs d 115 11 [l0, l1, l2, l3, l4]  st H = rn Ls xs d 115 12 [l0, l1, l2, l3, l4] (.inl 1 :: st) H := rn_nx rfl rfl
theorem e_M_upAt_12 : rn Ls xs d 115 12 [l0, l1, l2, l3, l4] (.inl i :: .inr (.inl (some a)) :: st) (S, I, R) = if h_ia S a 0 i then rn Ls xs d 115 13 [l0, l1, l2, l3, l4] (.inl (I a i.toNatClampNeg) :: st) (S, I, R) else none := rn_bc rfl rfl
theorem e_M_upAt_13 : rn Ls xs d 115 13 [l0, l1, l2, l3, l4] (.inl y :: .inl x :: st) H = if y ≤ x then rn Ls xs d 115 64 [l0, l1, l2, l3, l4] st H else rn Ls xs d 115 16 [l0, l1, l2, l3, l4] st H := rn_cmp (p := fun x y => y ≤ x) rfl
theorem e_M_upAt_16 : rn Ls xs d 115 16 [l0, l1, l2, some (.inl x), l4] st H = rn Ls xs d 115 17 [l0, l1, l2, some (.inl x), l4] (.inl x :: st) H := rn_nx rfl rfl
theorem e_M_upAt_17 : rn Ls xs d 115 17 [some (.inr u), l1, l2, l3, l4] st H = rn Ls xs d 115 18 [some (.inr u), l1, l2, l3, l4] (.inr u :: st) H := rn_nx rfl rfl
theorem e_M_upAt_18 : rn Ls xs d 115 18 [l0, l1, l2, l3, some (.inl x)] st H = rn Ls xs d 115 20 [l0, l1, l2, l3, some (.inl x)] (.inl x :: st) H := rn_nx rfl rfl
theorem e_M_upAt_20 : rn Ls xs (d + 1) 115 20 [l0, l1, l2, l3, l4] [v1, (.inr (.inl (some a))), v2] (S, I, R) = if h_is S a 9 36 then rb Ls xs (d + 1) 115 23 [l0, l1, l2, l3, l4] [v2] (rn Ls xs d 113 0 [some (.inr (.inl (some a))), some v1] [] (S, I, R)) else none := rn_callO rfl rfl (Nat.le_of_ble_eq_true rfl) rfl rfl
theorem e_M_upAt_23 : rn Ls xs d 115 23 [l0, l1, l2, l3, l4] (.inl x :: st) H = if x = 0 then rn Ls xs d 115 55 [l0, l1, l2, l3, l4] st H else rn Ls xs d 115 26 [l0, l1, l2, l3, l4] st H := rn_if (p := fun x => x = 0) rfl
theorem e_M_upAt_26 : rn Ls xs d 115 26 [some (.inr u), l1, l2, l3, l4] st H = rn Ls xs d 115 27 [some (.inr u), l1, l2, l3, l4] (.inr u :: st) H := rn_nx rfl rfl
theorem e_M_upAt_27 : rn Ls xs d 115 27 [l0, l1, l2, l3, some (.inl x)] st H = rn Ls xs d 115 29 [l0, l1, l2, l3, some (.inl x)] (.inl x :: st) H := rn_nx rfl rfl
theorem e_M_upAt_29 : rn Ls xs d 115 29 [l0, l1, l2, l3, l4]  st H = rn Ls xs d 115 30 [l0, l1, l2, l3, l4] (.inl 1 :: st) H := rn_nx rfl rfl
theorem e_M_upAt_30 : rn Ls xs (d + 1) 115 30 [l0, l1, l2, l3, l4] [v2, v1, (.inr (.inl (some a))), v3] (S, I, R) = if h_is S a 9 36 then rb Ls xs (d + 1) 115 33 [l0, l1, l2, l3, l4] [v3] (rn Ls xs d 105 0 [some (.inr (.inl (some a))), some v1, some v2] [] (S, I, R)) else none := rn_callO rfl rfl (Nat.le_of_ble_eq_true rfl) rfl rfl
theorem e_M_upAt_33 : rn Ls xs d 115 33 [l0, some (.inl x), l2, l3, l4] st H = rn Ls xs d 115 34 [l0, some (.inl x), l2, l3, l4] (.inl x :: st) H := rn_nx rfl rfl
theorem e_M_upAt_34 : rn Ls xs d 115 34 [l0, l1, l2, l3, l4] (.inl y :: .inl x :: st) H = if x ≠ y then rn Ls xs d 115 55 [l0, l1, l2, l3, l4] st H else rn Ls xs d 115 37 [l0, l1, l2, l3, l4] st H := rn_cmp (p := fun x y => x ≠ y) rfl
theorem e_M_upAt_37 : rn Ls xs d 115 37 [some (.inr u), l1, l2, l3, l4] st H = rn Ls xs d 115 38 [some (.inr u), l1, l2, l3, l4] (.inr u :: st) H := rn_nx rfl rfl
theorem e_M_upAt_38 : rn Ls xs d 115 38 [l0, l1, l2, l3, some (.inl x)] st H = rn Ls xs d 115 40 [l0, l1, l2, l3, some (.inl x)] (.inl x :: st) H := rn_nx rfl rfl
theorem e_M_upAt_40 : rn Ls xs d 115 40 [l0, l1, l2, l3, l4]  st H = rn Ls xs d 115 41 [l0, l1, l2, l3, l4] (.inl 2 :: st) H := rn_nx rfl rfl
theorem e_M_upAt_41 : rn Ls xs (d + 1) 115 41 [l0, l1, l2, l3, l4] [v2, v1, (.inr (.inl (some a))), v3] (S, I, R) = if h_is S a 9 36 then rb Ls xs (d + 1) 115 44 [l0, l1, l2, l3, l4] [v3] (rn Ls xs d 105 0 [some (.inr (.inl (some a))), some v1, some v2] [] (S, I, R)) else none := rn_callO rfl rfl (Nat.le_of_ble_eq_true rfl) rfl rfl
theorem e_M_upAt_44 : rn Ls xs d 115 44 [l0, l1, some (.inl x), l3, l4] st H = rn Ls xs d 115 45 [l0, l1, some (.inl x), l3, l4] (.inl x :: st) H := rn_nx rfl rfl
theorem e_M_upAt_45 : rn Ls xs d 115 45 [l0, l1, l2, l3, l4] (.inl y :: .inl x :: st) H = if x ≠ y then rn Ls xs d 115 55 [l0, l1, l2, l3, l4] st H else rn Ls xs d 115 48 [l0, l1, l2, l3, l4] st H := rn_cmp (p := fun x y => x ≠ y) rfl
theorem e_M_upAt_48 : rn Ls xs d 115 48 [l0, l1, l2, l3, l4]  st H = rn Ls xs d 115 49 [l0, l1, l2, l3, l4] (.inl 1 :: st) H := rn_nx rfl rfl
theorem e_M_upAt_49 : rn Ls xs d 115 49 [l0, l1, l2, l3, some (.inl x)] st H = rn Ls xs d 115 51 [l0, l1, l2, l3, some (.inl x)] (.inl x :: st) H := rn_nx rfl rfl
theorem e_M_upAt_51 : rn Ls xs d 115 51 [l0, l1, l2, l3, l4] (.inl y :: .inl x :: st) H = rn Ls xs d 115 52 [l0, l1, l2, l3, l4] (.inl (x <<< (y &&& 31)) :: st) H := rn_nx rfl rfl
theorem e_M_upAt_52 : rn Ls xs d 115 52 [l0, l1, l2, l3, l4] st H = rn Ls xs d 115 56 [l0, l1, l2, l3, l4] st H := rn_nx rfl rfl
theorem e_M_upAt_55 : rn Ls xs d 115 55 [l0, l1, l2, l3, l4]  st H = rn Ls xs d 115 56 [l0, l1, l2, l3, l4] (.inl 0 :: st) H := rn_nx rfl rfl
theorem e_M_upAt_56 : rn Ls xs d 115 56 [l0, l1, l2, l3, l4] (.inl y :: .inl x :: st) H = rn Ls xs d 115 57 [l0, l1, l2, l3, l4] (.inl (x ||| y) :: st) H := rn_nx rfl rfl
theorem e_M_upAt_57 : rn Ls xs d 115 57 [l0, l1, l2, l3, l4] (.inl x :: st) H = rn Ls xs d 115 58 [l0, l1, l2, some (.inl x), l4] st H := rn_nx rfl rfl
theorem e_M_upAt_58 : rn Ls xs d 115 58 [l0, l1, l2, l3, some (.inl x)] st H = rn Ls xs d 115 61 [l0, l1, l2, l3, some (.inl (x + 1))] st H := rn_nx rfl rfl
theorem e_M_upAt_61 : rn Ls xs d 115 61 [l0, l1, l2, l3, l4] st H = rn Ls xs d 115 5 [l0, l1, l2, l3, l4] st H := rn_nx rfl rfl
theorem e_M_upAt_64 : rn Ls xs d 115 64 [l0, l1, l2, some (.inl x), l4] st H = rn Ls xs d 115 65 [l0, l1, l2, some (.inl x), l4] (.inl x :: st) H := rn_nx rfl rfl
theorem e_M_upAt_65 : rn Ls xs d 115 65 [l0, l1, l2, l3, l4] [.inl x] H = some (some (.inl x), H) := rn_done rfl rfl
theorem e_JMath_min_0 : rn Ls xs d 116 0 [some (.inl x), l1] st H = rn Ls xs d 116 1 [some (.inl x), l1] (.inl x :: st) H := rn_nx rfl rfl
theorem e_JMath_min_1 : rn Ls xs d 116 1 [l0, some (.inl x)] st H = rn Ls xs d 116 2 [l0, some (.inl x)] (.inl x :: st) H := rn_nx rfl rfl
theorem e_JMath_min_2 : rn Ls xs d 116 2 [l0, l1] (.inl y :: .inl x :: st) H = if y < x then rn Ls xs d 116 9 [l0, l1] st H else rn Ls xs d 116 5 [l0, l1] st H := rn_cmp (p := fun x y => y < x) rfl
theorem e_JMath_min_5 : rn Ls xs d 116 5 [some (.inl x), l1] st H = rn Ls xs d 116 6 [some (.inl x), l1] (.inl x :: st) H := rn_nx rfl rfl
theorem e_JMath_min_6 : rn Ls xs d 116 6 [l0, l1] st H = rn Ls xs d 116 10 [l0, l1] st H := rn_nx rfl rfl
theorem e_JMath_min_9 : rn Ls xs d 116 9 [l0, some (.inl x)] st H = rn Ls xs d 116 10 [l0, some (.inl x)] (.inl x :: st) H := rn_nx rfl rfl
theorem e_JMath_min_10 : rn Ls xs d 116 10 [l0, l1] [.inl x] H = some (some (.inl x), H) := rn_done rfl rfl
theorem e_S_drawWreck_0 : rn Ls xs d 117 0 [some (.inr u), l1, l2, l3, l4, l5] st H = rn Ls xs d 117 1 [some (.inr u), l1, l2, l3, l4, l5] (.inr u :: st) H := rn_nx rfl rfl
theorem e_S_drawWreck_1 : rn Ls xs (d + 1) 117 1 [l0, l1, l2, l3, l4, l5] [(.inr (.inl (some a)))] (S, I, R) = if h_is S a 3 11 then rb Ls xs (d + 1) 117 4 [l0, l1, l2, l3, l4, l5] [] (rn Ls xs d 175 0 [some (.inr (.inl (some a)))] [] (S, I, R)) else none := rn_callO rfl rfl (Nat.le_of_ble_eq_true rfl) rfl rfl
theorem e_S_drawWreck_4 : rn Ls xs d 117 4 [l0, l1, l2, l3, l4, l5]  st H = rn Ls xs d 117 6 [l0, l1, l2, l3, l4, l5] (.inl 6 :: st) H := rn_nx rfl rfl
theorem e_S_drawWreck_6 : rn Ls xs d 117 6 [l0, l1, l2, l3, l4, l5] (.inl y :: .inl x :: st) H = if y = 0 then none else rn Ls xs d 117 7 [l0, l1, l2, l3, l4, l5] (.inl (x - x / y * y) :: st) H := rn_div (f := fun x y => x - x / y * y) rfl
theorem e_S_drawWreck_7 : rn Ls xs d 117 7 [l0, l1, l2, l3, l4, l5] (.inl x :: st) H = rn Ls xs d 117 8 [l0, some (.inl x), l2, l3, l4, l5] st H := rn_nx rfl rfl
theorem e_S_drawWreck_8 : rn Ls xs d 117 8 [some (.inr u), l1, l2, l3, l4, l5] st H = rn Ls xs d 117 9 [some (.inr u), l1, l2, l3, l4, l5] (.inr u :: st) H := rn_nx rfl rfl
theorem e_S_drawWreck_9 : rn Ls xs (d + 1) 117 9 [l0, l1, l2, l3, l4, l5] [(.inr (.inl (some a)))] (S, I, R) = if h_is S a 3 11 then rb Ls xs (d + 1) 117 12 [l0, l1, l2, l3, l4, l5] [] (rn Ls xs d 175 0 [some (.inr (.inl (some a)))] [] (S, I, R)) else none := rn_callO rfl rfl (Nat.le_of_ble_eq_true rfl) rfl rfl
theorem e_S_drawWreck_12 : rn Ls xs d 117 12 [l0, l1, l2, l3, l4, l5]  st H = rn Ls xs d 117 14 [l0, l1, l2, l3, l4, l5] (.inl 8 :: st) H := rn_nx rfl rfl
theorem e_S_drawWreck_14 : rn Ls xs d 117 14 [l0, l1, l2, l3, l4, l5] (.inl y :: .inl x :: st) H = if y = 0 then none else rn Ls xs d 117 15 [l0, l1, l2, l3, l4, l5] (.inl (x - x / y * y) :: st) H := rn_div (f := fun x y => x - x / y * y) rfl
theorem e_S_drawWreck_15 : rn Ls xs d 117 15 [l0, l1, l2, l3, l4, l5] (.inl x :: st) H = rn Ls xs d 117 16 [l0, l1, some (.inl x), l3, l4, l5] st H := rn_nx rfl rfl
theorem e_S_drawWreck_16 : rn Ls xs d 117 16 [some (.inr u), l1, l2, l3, l4, l5] st H = rn Ls xs d 117 17 [some (.inr u), l1, l2, l3, l4, l5] (.inr u :: st) H := rn_nx rfl rfl
theorem e_S_drawWreck_17 : rn Ls xs (d + 1) 117 17 [l0, l1, l2, l3, l4, l5] [(.inr (.inl (some a)))] (S, I, R) = if h_is S a 3 11 then rb Ls xs (d + 1) 117 20 [l0, l1, l2, l3, l4, l5] [] (rn Ls xs d 175 0 [some (.inr (.inl (some a)))] [] (S, I, R)) else none := rn_callO rfl rfl (Nat.le_of_ble_eq_true rfl) rfl rfl
theorem e_S_drawWreck_20 : rn Ls xs d 117 20 [l0, l1, l2, l3, l4, l5]  st H = rn Ls xs d 117 22 [l0, l1, l2, l3, l4, l5] (.inl 30 :: st) H := rn_nx rfl rfl
theorem e_S_drawWreck_22 : rn Ls xs d 117 22 [l0, l1, l2, l3, l4, l5] (.inl y :: .inl x :: st) H = if y = 0 then none else rn Ls xs d 117 23 [l0, l1, l2, l3, l4, l5] (.inl (x - x / y * y) :: st) H := rn_div (f := fun x y => x - x / y * y) rfl
theorem e_S_drawWreck_23 : rn Ls xs d 117 23 [l0, l1, l2, l3, l4, l5] (.inl x :: st) H = rn Ls xs d 117 24 [l0, l1, l2, some (.inl x), l4, l5] st H := rn_nx rfl rfl
theorem e_S_drawWreck_24 : rn Ls xs d 117 24 [some (.inr u), l1, l2, l3, l4, l5] st H = rn Ls xs d 117 25 [some (.inr u), l1, l2, l3, l4, l5] (.inr u :: st) H := rn_nx rfl rfl
theorem e_S_drawWreck_25 : rn Ls xs (d + 1) 117 25 [l0, l1, l2, l3, l4, l5] [(.inr (.inl (some a)))] (S, I, R) = if h_is S a 3 11 then rb Ls xs (d + 1) 117 28 [l0, l1, l2, l3, l4, l5] [] (rn Ls xs d 175 0 [some (.inr (.inl (some a)))] [] (S, I, R)) else none := rn_callO rfl rfl (Nat.le_of_ble_eq_true rfl) rfl rfl
theorem e_S_drawWreck_28 : rn Ls xs d 117 28 [l0, l1, l2, l3, l4, l5]  st H = rn Ls xs d 117 30 [l0, l1, l2, l3, l4, l5] (.inl 19 :: st) H := rn_nx rfl rfl
theorem e_S_drawWreck_30 : rn Ls xs d 117 30 [l0, l1, l2, l3, l4, l5] (.inl y :: .inl x :: st) H = if y = 0 then none else rn Ls xs d 117 31 [l0, l1, l2, l3, l4, l5] (.inl (x - x / y * y) :: st) H := rn_div (f := fun x y => x - x / y * y) rfl
theorem e_S_drawWreck_31 : rn Ls xs d 117 31 [l0, l1, l2, l3, l4, l5]  st H = rn Ls xs d 117 33 [l0, l1, l2, l3, l4, l5] (.inl 9 :: st) H := rn_nx rfl rfl
theorem e_S_drawWreck_33 : rn Ls xs d 117 33 [l0, l1, l2, l3, l4, l5] (.inl y :: .inl x :: st) H = rn Ls xs d 117 34 [l0, l1, l2, l3, l4, l5] (.inl (x - y) :: st) H := rn_nx rfl rfl
theorem e_S_drawWreck_34 : rn Ls xs d 117 34 [l0, l1, l2, l3, l4, l5] (.inl x :: st) H = rn Ls xs d 117 36 [l0, l1, l2, l3, some (.inl x), l5] st H := rn_nx rfl rfl
theorem e_S_drawWreck_36 : rn Ls xs d 117 36 [l0, l1, l2, l3, l4, l5]  st H = rn Ls xs d 117 37 [l0, l1, l2, l3, l4, l5] (.inl 1 :: st) H := rn_nx rfl rfl
theorem e_S_drawWreck_37 : rn Ls xs d 117 37 [some (.inr u), l1, l2, l3, l4, l5] st H = rn Ls xs d 117 38 [some (.inr u), l1, l2, l3, l4, l5] (.inr u :: st) H := rn_nx rfl rfl
theorem e_S_drawWreck_38 : rn Ls xs (d + 1) 117 38 [l0, l1, l2, l3, l4, l5] [(.inr (.inl (some a))), v1] (S, I, R) = if h_is S a 3 11 then rb Ls xs (d + 1) 117 41 [l0, l1, l2, l3, l4, l5] [v1] (rn Ls xs d 175 0 [some (.inr (.inl (some a)))] [] (S, I, R)) else none := rn_callO rfl rfl (Nat.le_of_ble_eq_true rfl) rfl rfl
theorem e_S_drawWreck_41 : rn Ls xs d 117 41 [l0, l1, l2, l3, l4, l5]  st H = rn Ls xs d 117 43 [l0, l1, l2, l3, l4, l5] (.inl 30 :: st) H := rn_nx rfl rfl
theorem e_S_drawWreck_43 : rn Ls xs d 117 43 [l0, l1, l2, l3, l4, l5] (.inl y :: .inl x :: st) H = if y = 0 then none else rn Ls xs d 117 44 [l0, l1, l2, l3, l4, l5] (.inl (x - x / y * y) :: st) H := rn_div (f := fun x y => x - x / y * y) rfl
theorem e_S_drawWreck_44 : rn Ls xs d 117 44 [l0, l1, l2, l3, l4, l5] (.inl y :: .inl x :: st) H = rn Ls xs d 117 45 [l0, l1, l2, l3, l4, l5] (.inl (x + y) :: st) H := rn_nx rfl rfl
theorem e_S_drawWreck_45 : rn Ls xs d 117 45 [l0, l1, l2, l3, l4, l5] (.inl x :: st) H = rn Ls xs d 117 47 [l0, l1, l2, l3, l4, some (.inl x)] st H := rn_nx rfl rfl
theorem e_S_drawWreck_47 : rn Ls xs d 117 47 [some (.inr u), l1, l2, l3, l4, l5] st H = rn Ls xs d 117 48 [some (.inr u), l1, l2, l3, l4, l5] (.inr u :: st) H := rn_nx rfl rfl
theorem e_S_drawWreck_48 : rn Ls xs d 117 48 [l0, some (.inl x), l2, l3, l4, l5] st H = rn Ls xs d 117 49 [l0, some (.inl x), l2, l3, l4, l5] (.inl x :: st) H := rn_nx rfl rfl
theorem e_S_drawWreck_49 : rn Ls xs d 117 49 [l0, l1, some (.inl x), l3, l4, l5] st H = rn Ls xs d 117 50 [l0, l1, some (.inl x), l3, l4, l5] (.inl x :: st) H := rn_nx rfl rfl
theorem e_S_drawWreck_50 : rn Ls xs d 117 50 [l0, l1, l2, some (.inl x), l4, l5] st H = rn Ls xs d 117 51 [l0, l1, l2, some (.inl x), l4, l5] (.inl x :: st) H := rn_nx rfl rfl
theorem e_S_drawWreck_51 : rn Ls xs d 117 51 [l0, l1, l2, l3, some (.inl x), l5] st H = rn Ls xs d 117 53 [l0, l1, l2, l3, some (.inl x), l5] (.inl x :: st) H := rn_nx rfl rfl
theorem e_S_drawWreck_53 : rn Ls xs d 117 53 [l0, l1, l2, l3, l4, some (.inl x)] st H = rn Ls xs d 117 55 [l0, l1, l2, l3, l4, some (.inl x)] (.inl x :: st) H := rn_nx rfl rfl
theorem e_S_drawWreck_55 : rn Ls xs (d + 1) 117 55 [l0, l1, l2, l3, l4, l5] [v5, v4, v3, v2, v1, (.inr (.inl (some a)))] (S, I, R) = if h_is S a 3 11 then rb Ls xs (d + 1) 117 58 [l0, l1, l2, l3, l4, l5] [] (rn Ls xs d 96 0 [some (.inr (.inl (some a))), some v1, some v2, some v3, some v4, some v5, none] [] (S, I, R)) else none := rn_callO rfl rfl (Nat.le_of_ble_eq_true rfl) rfl rfl
theorem e_S_drawWreck_58 : rn Ls xs d 117 58 [l0, l1, l2, l3, l4, l5] (v :: st) H = rn Ls xs d 117 59 [l0, l1, l2, l3, l4, l5] st H := rn_nx rfl rfl
theorem e_S_drawWreck_59 : rn Ls xs d 117 59 [l0, l1, l2, l3, l4, l5] [] H = some (none, H) := rn_done rfl rfl
theorem e_M_draw_0 : rn Ls xs d 118 0 [some (.inr u)] st H = rn Ls xs d 118 1 [some (.inr u)] (.inr u :: st) H := rn_nx rfl rfl
theorem e_M_draw_1 : rn Ls xs d 118 1 [l0] (.inr (.inl (some a)) :: st) (S, I, R) = if h_is S a 9 36 then rn Ls xs d 118 4 [l0] (.inr (R a 0) :: st) (S, I, R) else none := rn_bc rfl rfl
theorem e_M_draw_4 : rn Ls xs d 118 4 [l0]  st H = rn Ls xs d 118 5 [l0] (.inl 0 :: st) H := rn_nx rfl rfl
theorem e_M_draw_5 : rn Ls xs d 118 5 [some (.inr u)] st H = rn Ls xs d 118 6 [some (.inr u)] (.inr u :: st) H := rn_nx rfl rfl
theorem e_M_draw_6 : rn Ls xs d 118 6 [l0] (.inr (.inl (some a)) :: st) (S, I, R) = if h_is S a 9 36 then rn Ls xs d 118 9 [l0] (.inr (R a 0) :: st) (S, I, R) else none := rn_bc rfl rfl
theorem e_M_draw_9 : rn Ls xs d 118 9 [l0]  st H = rn Ls xs d 118 10 [l0] (.inl 0 :: st) H := rn_nx rfl rfl
theorem e_M_draw_10 : rn Ls xs d 118 10 [l0] (.inl i :: .inr (.inl (some a)) :: st) (S, I, R) = if h_ia S a 0 i then rn Ls xs d 118 11 [l0] (.inl (I a i.toNatClampNeg) :: st) (S, I, R) else none := rn_bc rfl rfl
theorem e_M_draw_11 : rn Ls xs d 118 11 [l0]  st H = rn Ls xs d 118 13 [l0] (.inl 1103515245 :: st) H := rn_nx rfl rfl
theorem e_M_draw_13 : rn Ls xs d 118 13 [l0] (.inl y :: .inl x :: st) H = rn Ls xs d 118 14 [l0] (.inl (x * y) :: st) H := rn_nx rfl rfl
theorem e_M_draw_14 : rn Ls xs d 118 14 [l0]  st H = rn Ls xs d 118 17 [l0] (.inl 12345 :: st) H := rn_nx rfl rfl
theorem e_M_draw_17 : rn Ls xs d 118 17 [l0] (.inl y :: .inl x :: st) H = rn Ls xs d 118 18 [l0] (.inl (x + y) :: st) H := rn_nx rfl rfl
theorem e_M_draw_18 : rn Ls xs d 118 18 [l0] (.inl x :: .inl i :: .inr (.inl (some a)) :: st) (S, I, R) = if h_ia S a 0 i then rn Ls xs d 118 19 [l0] st (S, va_up I a (upd (I a) i.toNatClampNeg x), R) else none := rn_bc rfl rfl
theorem e_M_draw_19 : rn Ls xs d 118 19 [some (.inr u)] st H = rn Ls xs d 118 20 [some (.inr u)] (.inr u :: st) H := rn_nx rfl rfl
theorem e_M_draw_20 : rn Ls xs d 118 20 [l0] (.inr (.inl (some a)) :: st) (S, I, R) = if h_is S a 9 36 then rn Ls xs d 118 23 [l0] (.inr (R a 0) :: st) (S, I, R) else none := rn_bc rfl rfl
theorem e_M_draw_23 : rn Ls xs d 118 23 [l0]  st H = rn Ls xs d 118 24 [l0] (.inl 0 :: st) H := rn_nx rfl rfl
theorem e_M_draw_24 : rn Ls xs d 118 24 [l0] (.inl i :: .inr (.inl (some a)) :: st) (S, I, R) = if h_ia S a 0 i then rn Ls xs d 118 25 [l0] (.inl (I a i.toNatClampNeg) :: st) (S, I, R) else none := rn_bc rfl rfl
theorem e_M_draw_25 : rn Ls xs d 118 25 [l0]  st H = rn Ls xs d 118 27 [l0] (.inl 8 :: st) H := rn_nx rfl rfl
theorem e_M_draw_27 : rn Ls xs d 118 27 [l0] (.inl y :: .inl x :: st) H = rn Ls xs d 118 28 [l0] (.inl ((x.toUInt32 >>> (y.toUInt32 &&& Int32.toUInt32 31)).toInt32) :: st) H := rn_nx rfl rfl
theorem e_M_draw_28 : rn Ls xs d 118 28 [l0] [.inl x] H = some (some (.inl x), H) := rn_done rfl rfl
theorem e_S_passHours_0 : rn Ls xs d 119 0 [l0, l1, l2]  st H = rn Ls xs d 119 1 [l0, l1, l2] (.inl 0 :: st) H := rn_nx rfl rfl
theorem e_S_passHours_1 : rn Ls xs d 119 1 [l0, l1, l2] (.inl x :: st) H = rn Ls xs d 119 2 [l0, l1, some (.inl x)] st H := rn_nx rfl rfl
theorem e_S_passHours_2 : rn Ls xs d 119 2 [l0, l1, some (.inl x)] st H = rn Ls xs d 119 3 [l0, l1, some (.inl x)] (.inl x :: st) H := rn_nx rfl rfl
theorem e_S_passHours_3 : rn Ls xs d 119 3 [l0, some (.inl x), l2] st H = rn Ls xs d 119 4 [l0, some (.inl x), l2] (.inl x :: st) H := rn_nx rfl rfl
theorem e_S_passHours_4 : rn Ls xs d 119 4 [l0, l1, l2] (.inl y :: .inl x :: st) H = if y ≤ x then rn Ls xs d 119 35 [l0, l1, l2] st H else rn Ls xs d 119 7 [l0, l1, l2] st H := rn_cmp (p := fun x y => y ≤ x) rfl
theorem e_S_passHours_7 : rn Ls xs d 119 7 [some (.inr u), l1, l2] st H = rn Ls xs d 119 8 [some (.inr u), l1, l2] (.inr u :: st) H := rn_nx rfl rfl
theorem e_S_passHours_8 : rn Ls xs (d + 1) 119 8 [l0, l1, l2] [(.inr (.inl (some a)))] (S, I, R) = if h_is S a 3 11 then rb Ls xs (d + 1) 119 11 [l0, l1, l2] [] (rn Ls xs d 176 0 [some (.inr (.inl (some a))), none, none] [] (S, I, R)) else none := rn_callO rfl rfl (Nat.le_of_ble_eq_true rfl) rfl rfl
theorem e_S_passHours_11 : rn Ls xs d 119 11 [some (.inr u), l1, l2] st H = rn Ls xs d 119 12 [some (.inr u), l1, l2] (.inr u :: st) H := rn_nx rfl rfl
theorem e_S_passHours_12 : rn Ls xs (d + 1) 119 12 [l0, l1, l2] [(.inr (.inl (some a)))] (S, I, R) = if h_is S a 3 11 then rb Ls xs (d + 1) 119 15 [l0, l1, l2] [] (rn Ls xs d 177 0 [some (.inr (.inl (some a))), none, none, none, none, none] [] (S, I, R)) else none := rn_callO rfl rfl (Nat.le_of_ble_eq_true rfl) rfl rfl
theorem e_S_passHours_15 : rn Ls xs d 119 15 [some (.inr u), l1, l2] st H = rn Ls xs d 119 16 [some (.inr u), l1, l2] (.inr u :: st) H := rn_nx rfl rfl
theorem e_S_passHours_16 : rn Ls xs (d + 1) 119 16 [l0, l1, l2] [(.inr (.inl (some a)))] (S, I, R) = if h_is S a 3 11 then rb Ls xs (d + 1) 119 19 [l0, l1, l2] [] (rn Ls xs d 178 0 [some (.inr (.inl (some a))), none] [] (S, I, R)) else none := rn_callO rfl rfl (Nat.le_of_ble_eq_true rfl) rfl rfl
theorem e_S_passHours_19 : rn Ls xs d 119 19 [some (.inr u), l1, l2] st H = rn Ls xs d 119 20 [some (.inr u), l1, l2] (.inr u :: st) H := rn_nx rfl rfl
theorem e_S_passHours_20 : rn Ls xs d 119 20 [l0, l1, l2] (v :: st) H = rn Ls xs d 119 21 [l0, l1, l2] (v :: v :: st) H := rn_nx rfl rfl
theorem e_S_passHours_21 : rn Ls xs d 119 21 [l0, l1, l2] (.inr (.inl (some a)) :: st) (S, I, R) = if h_is S a 3 11 then rn Ls xs d 119 24 [l0, l1, l2] (.inl (I a 9) :: st) (S, I, R) else none := rn_bc rfl rfl
theorem e_S_passHours_24 : rn Ls xs d 119 24 [l0, l1, l2]  st H = rn Ls xs d 119 25 [l0, l1, l2] (.inl 1 :: st) H := rn_nx rfl rfl
theorem e_S_passHours_25 : rn Ls xs d 119 25 [l0, l1, l2] (.inl y :: .inl x :: st) H = rn Ls xs d 119 26 [l0, l1, l2] (.inl (x + y) :: st) H := rn_nx rfl rfl
theorem e_S_passHours_26 : rn Ls xs d 119 26 [l0, l1, l2] (.inl x :: .inr (.inl (some a)) :: st) (S, I, R) = if h_is S a 3 11 then rn Ls xs d 119 29 [l0, l1, l2] st (S, va_up I a (upd (I a) 9 x), R) else none := rn_bc rfl rfl
theorem e_S_passHours_29 : rn Ls xs d 119 29 [l0, l1, some (.inl x)] st H = rn Ls xs d 119 32 [l0, l1, some (.inl (x + 1))] st H := rn_nx rfl rfl
theorem e_S_passHours_32 : rn Ls xs d 119 32 [l0, l1, l2] st H = rn Ls xs d 119 2 [l0, l1, l2] st H := rn_nx rfl rfl
theorem e_S_passHours_35 : rn Ls xs d 119 35 [l0, l1, l2] [] H = some (none, H) := rn_done rfl rfl
theorem e_M_within_0 : rn Ls xs d 120 0 [some (.inl x), l1, l2] st H = rn Ls xs d 120 1 [some (.inl x), l1, l2] (.inl x :: st) H := rn_nx rfl rfl
theorem e_M_within_1 : rn Ls xs d 120 1 [l0, some (.inl x), l2] st H = rn Ls xs d 120 2 [l0, some (.inl x), l2] (.inl x :: st) H := rn_nx rfl rfl
theorem e_M_within_2 : rn Ls xs d 120 2 [l0, l1, l2] (.inl y :: .inl x :: st) H = if y ≤ x then rn Ls xs d 120 9 [l0, l1, l2] st H else rn Ls xs d 120 5 [l0, l1, l2] st H := rn_cmp (p := fun x y => y ≤ x) rfl
theorem e_M_within_5 : rn Ls xs d 120 5 [l0, some (.inl x), l2] st H = rn Ls xs d 120 6 [l0, some (.inl x), l2] (.inl x :: st) H := rn_nx rfl rfl
theorem e_M_within_6 : rn Ls xs d 120 6 [l0, l1, l2] st H = rn Ls xs d 120 19 [l0, l1, l2] st H := rn_nx rfl rfl
theorem e_M_within_9 : rn Ls xs d 120 9 [some (.inl x), l1, l2] st H = rn Ls xs d 120 10 [some (.inl x), l1, l2] (.inl x :: st) H := rn_nx rfl rfl
theorem e_M_within_10 : rn Ls xs d 120 10 [l0, l1, some (.inl x)] st H = rn Ls xs d 120 11 [l0, l1, some (.inl x)] (.inl x :: st) H := rn_nx rfl rfl
theorem e_M_within_11 : rn Ls xs d 120 11 [l0, l1, l2] (.inl y :: .inl x :: st) H = if x ≤ y then rn Ls xs d 120 18 [l0, l1, l2] st H else rn Ls xs d 120 14 [l0, l1, l2] st H := rn_cmp (p := fun x y => x ≤ y) rfl
theorem e_M_within_14 : rn Ls xs d 120 14 [l0, l1, some (.inl x)] st H = rn Ls xs d 120 15 [l0, l1, some (.inl x)] (.inl x :: st) H := rn_nx rfl rfl
theorem e_M_within_15 : rn Ls xs d 120 15 [l0, l1, l2] st H = rn Ls xs d 120 19 [l0, l1, l2] st H := rn_nx rfl rfl
theorem e_M_within_18 : rn Ls xs d 120 18 [some (.inl x), l1, l2] st H = rn Ls xs d 120 19 [some (.inl x), l1, l2] (.inl x :: st) H := rn_nx rfl rfl
theorem e_M_within_19 : rn Ls xs d 120 19 [l0, l1, l2] [.inl x] H = some (some (.inl x), H) := rn_done rfl rfl
theorem e_M_goesOn_0 : rn Ls xs d 121 0 [l0, l1, l2]  st H = rn Ls xs d 121 1 [l0, l1, l2] (.inl 0 :: st) H := rn_nx rfl rfl
theorem e_M_goesOn_1 : rn Ls xs d 121 1 [l0, l1, l2] (.inl x :: st) H = rn Ls xs d 121 2 [l0, l1, some (.inl x)] st H := rn_nx rfl rfl
theorem e_M_goesOn_2 : rn Ls xs d 121 2 [l0, l1, some (.inl x)] st H = rn Ls xs d 121 3 [l0, l1, some (.inl x)] (.inl x :: st) H := rn_nx rfl rfl
theorem e_M_goesOn_3 : rn Ls xs d 121 3 [l0, some (.inl x), l2] st H = rn Ls xs d 121 4 [l0, some (.inl x), l2] (.inl x :: st) H := rn_nx rfl rfl
theorem e_M_goesOn_4 : rn Ls xs d 121 4 [l0, l1, l2] (.inl y :: .inl x :: st) H = if y ≤ x then rn Ls xs d 121 17 [l0, l1, l2] st H else rn Ls xs d 121 7 [l0, l1, l2] st H := rn_cmp (p := fun x y => y ≤ x) rfl
theorem e_M_goesOn_7 : rn Ls xs d 121 7 [some (.inr u), l1, l2] st H = rn Ls xs d 121 8 [some (.inr u), l1, l2] (.inr u :: st) H := rn_nx rfl rfl
theorem e_M_goesOn_8 : rn Ls xs (d + 1) 121 8 [l0, l1, l2] [(.inr (.inl (some a)))] (S, I, R) = if h_is S a 9 36 then rb Ls xs (d + 1) 121 11 [l0, l1, l2] [] (rn Ls xs d 131 0 [some (.inr (.inl (some a))), none, none, none] [] (S, I, R)) else none := rn_callO rfl rfl (Nat.le_of_ble_eq_true rfl) rfl rfl
theorem e_M_goesOn_11 : rn Ls xs d 121 11 [l0, l1, some (.inl x)] st H = rn Ls xs d 121 14 [l0, l1, some (.inl (x + 1))] st H := rn_nx rfl rfl
theorem e_M_goesOn_14 : rn Ls xs d 121 14 [l0, l1, l2] st H = rn Ls xs d 121 2 [l0, l1, l2] st H := rn_nx rfl rfl
theorem e_M_goesOn_17 : rn Ls xs d 121 17 [l0, l1, l2] [] H = some (none, H) := rn_done rfl rfl
theorem e_S_upSet_0 : rn Ls xs d 122 0 [l0, l1, l2]  st H = rn Ls xs d 122 1 [l0, l1, l2] (.inl 0 :: st) H := rn_nx rfl rfl
theorem e_S_upSet_1 : rn Ls xs d 122 1 [l0, l1, l2] (.inl x :: st) H = rn Ls xs d 122 2 [l0, some (.inl x), l2] st H := rn_nx rfl rfl
theorem e_S_upSet_2 : rn Ls xs d 122 2 [l0, l1, l2]  st H = rn Ls xs d 122 3 [l0, l1, l2] (.inl 0 :: st) H := rn_nx rfl rfl
theorem e_S_upSet_3 : rn Ls xs d 122 3 [l0, l1, l2] (.inl x :: st) H = rn Ls xs d 122 4 [l0, l1, some (.inl x)] st H := rn_nx rfl rfl
theorem e_S_upSet_4 : rn Ls xs d 122 4 [l0, l1, some (.inl x)] st H = rn Ls xs d 122 5 [l0, l1, some (.inl x)] (.inl x :: st) H := rn_nx rfl rfl
theorem e_S_upSet_5 : rn Ls xs d 122 5 [some (.inr u), l1, l2] st H = rn Ls xs d 122 6 [some (.inr u), l1, l2] (.inr u :: st) H := rn_nx rfl rfl
theorem e_S_upSet_6 : rn Ls xs d 122 6 [l0, l1, l2] (.inr (.inl (some a)) :: st) (S, I, R) = if h_is S a 3 11 then rn Ls xs d 122 9 [l0, l1, l2] (.inl (I a 3) :: st) (S, I, R) else none := rn_bc rfl rfl
theorem e_S_upSet_9 : rn Ls xs d 122 9 [l0, l1, l2] (.inl y :: .inl x :: st) H = if y ≤ x then rn Ls xs d 122 36 [l0, l1, l2] st H else rn Ls xs d 122 12 [l0, l1, l2] st H := rn_cmp (p := fun x y => y ≤ x) rfl
theorem e_S_upSet_12 : rn Ls xs d 122 12 [some (.inr u), l1, l2] st H = rn Ls xs d 122 13 [some (.inr u), l1, l2] (.inr u :: st) H := rn_nx rfl rfl
theorem e_S_upSet_13 : rn Ls xs d 122 13 [l0, l1, l2] (.inr (.inl (some a)) :: st) (S, I, R) = if h_is S a 3 11 then rn Ls xs d 122 16 [l0, l1, l2] (.inr (R a 0) :: st) (S, I, R) else none := rn_bc rfl rfl
theorem e_S_upSet_16 : rn Ls xs d 122 16 [l0, l1, some (.inl x)] st H = rn Ls xs d 122 17 [l0, l1, some (.inl x)] (.inl x :: st) H := rn_nx rfl rfl
theorem e_S_upSet_17 : rn Ls xs d 122 17 [l0, l1, l2] (.inl i :: .inr (.inl (some a)) :: st) (S, I, R) = if h_ia S a 4 i then (match R a i.toNatClampNeg with | .inl o => rn Ls xs d 122 18 [l0, l1, l2] (.inr (.inl o) :: st) (S, I, R) | .inr _ => none) else none := rn_aald rfl
theorem e_S_upSet_18 : rn Ls xs d 122 18 [l0, l1, l2] (.inr (.inl (some a)) :: st) (S, I, R) = if h_is S a 7 6 then rn Ls xs d 122 21 [l0, l1, l2] (.inl (I a 5) :: st) (S, I, R) else none := rn_bc rfl rfl
theorem e_S_upSet_21 : rn Ls xs d 122 21 [l0, l1, l2] (.inl x :: st) H = if x = 0 then rn Ls xs d 122 30 [l0, l1, l2] st H else rn Ls xs d 122 24 [l0, l1, l2] st H := rn_if (p := fun x => x = 0) rfl
theorem e_S_upSet_24 : rn Ls xs d 122 24 [l0, some (.inl x), l2] st H = rn Ls xs d 122 25 [l0, some (.inl x), l2] (.inl x :: st) H := rn_nx rfl rfl
theorem e_S_upSet_25 : rn Ls xs d 122 25 [l0, l1, l2]  st H = rn Ls xs d 122 26 [l0, l1, l2] (.inl 1 :: st) H := rn_nx rfl rfl
theorem e_S_upSet_26 : rn Ls xs d 122 26 [l0, l1, some (.inl x)] st H = rn Ls xs d 122 27 [l0, l1, some (.inl x)] (.inl x :: st) H := rn_nx rfl rfl
theorem e_S_upSet_27 : rn Ls xs d 122 27 [l0, l1, l2] (.inl y :: .inl x :: st) H = rn Ls xs d 122 28 [l0, l1, l2] (.inl (x <<< (y &&& 31)) :: st) H := rn_nx rfl rfl
theorem e_S_upSet_28 : rn Ls xs d 122 28 [l0, l1, l2] (.inl y :: .inl x :: st) H = rn Ls xs d 122 29 [l0, l1, l2] (.inl (x ||| y) :: st) H := rn_nx rfl rfl
theorem e_S_upSet_29 : rn Ls xs d 122 29 [l0, l1, l2] (.inl x :: st) H = rn Ls xs d 122 30 [l0, some (.inl x), l2] st H := rn_nx rfl rfl
theorem e_S_upSet_30 : rn Ls xs d 122 30 [l0, l1, some (.inl x)] st H = rn Ls xs d 122 33 [l0, l1, some (.inl (x + 1))] st H := rn_nx rfl rfl
theorem e_S_upSet_33 : rn Ls xs d 122 33 [l0, l1, l2] st H = rn Ls xs d 122 4 [l0, l1, l2] st H := rn_nx rfl rfl
theorem e_S_upSet_36 : rn Ls xs d 122 36 [l0, some (.inl x), l2] st H = rn Ls xs d 122 37 [l0, some (.inl x), l2] (.inl x :: st) H := rn_nx rfl rfl
theorem e_S_upSet_37 : rn Ls xs d 122 37 [l0, l1, l2] [.inl x] H = some (some (.inl x), H) := rn_done rfl rfl
theorem e_S_upMass_0 : rn Ls xs d 123 0 [l0, l1, l2]  st H = rn Ls xs d 123 1 [l0, l1, l2] (.inl 0 :: st) H := rn_nx rfl rfl
theorem e_S_upMass_1 : rn Ls xs d 123 1 [l0, l1, l2] (.inl x :: st) H = rn Ls xs d 123 2 [l0, some (.inl x), l2] st H := rn_nx rfl rfl
theorem e_S_upMass_2 : rn Ls xs d 123 2 [l0, l1, l2]  st H = rn Ls xs d 123 3 [l0, l1, l2] (.inl 0 :: st) H := rn_nx rfl rfl
theorem e_S_upMass_3 : rn Ls xs d 123 3 [l0, l1, l2] (.inl x :: st) H = rn Ls xs d 123 4 [l0, l1, some (.inl x)] st H := rn_nx rfl rfl
theorem e_S_upMass_4 : rn Ls xs d 123 4 [l0, l1, some (.inl x)] st H = rn Ls xs d 123 5 [l0, l1, some (.inl x)] (.inl x :: st) H := rn_nx rfl rfl
theorem e_S_upMass_5 : rn Ls xs d 123 5 [some (.inr u), l1, l2] st H = rn Ls xs d 123 6 [some (.inr u), l1, l2] (.inr u :: st) H := rn_nx rfl rfl
theorem e_S_upMass_6 : rn Ls xs d 123 6 [l0, l1, l2] (.inr (.inl (some a)) :: st) (S, I, R) = if h_is S a 3 11 then rn Ls xs d 123 9 [l0, l1, l2] (.inl (I a 3) :: st) (S, I, R) else none := rn_bc rfl rfl
theorem e_S_upMass_9 : rn Ls xs d 123 9 [l0, l1, l2] (.inl y :: .inl x :: st) H = if y ≤ x then rn Ls xs d 123 46 [l0, l1, l2] st H else rn Ls xs d 123 12 [l0, l1, l2] st H := rn_cmp (p := fun x y => y ≤ x) rfl
theorem e_S_upMass_12 : rn Ls xs d 123 12 [l0, some (.inl x), l2] st H = rn Ls xs d 123 13 [l0, some (.inl x), l2] (.inl x :: st) H := rn_nx rfl rfl
theorem e_S_upMass_13 : rn Ls xs d 123 13 [some (.inr u), l1, l2] st H = rn Ls xs d 123 14 [some (.inr u), l1, l2] (.inr u :: st) H := rn_nx rfl rfl
theorem e_S_upMass_14 : rn Ls xs d 123 14 [l0, l1, l2] (.inr (.inl (some a)) :: st) (S, I, R) = if h_is S a 3 11 then rn Ls xs d 123 17 [l0, l1, l2] (.inr (R a 0) :: st) (S, I, R) else none := rn_bc rfl rfl
theorem e_S_upMass_17 : rn Ls xs d 123 17 [l0, l1, some (.inl x)] st H = rn Ls xs d 123 18 [l0, l1, some (.inl x)] (.inl x :: st) H := rn_nx rfl rfl
theorem e_S_upMass_18 : rn Ls xs d 123 18 [l0, l1, l2] (.inl i :: .inr (.inl (some a)) :: st) (S, I, R) = if h_ia S a 4 i then (match R a i.toNatClampNeg with | .inl o => rn Ls xs d 123 19 [l0, l1, l2] (.inr (.inl o) :: st) (S, I, R) | .inr _ => none) else none := rn_aald rfl
theorem e_S_upMass_19 : rn Ls xs d 123 19 [l0, l1, l2] (.inr (.inl (some a)) :: st) (S, I, R) = if h_is S a 7 6 then rn Ls xs d 123 22 [l0, l1, l2] (.inl (I a 5) :: st) (S, I, R) else none := rn_bc rfl rfl
theorem e_S_upMass_22 : rn Ls xs d 123 22 [l0, l1, l2] (.inl x :: st) H = if x = 0 then rn Ls xs d 123 37 [l0, l1, l2] st H else rn Ls xs d 123 25 [l0, l1, l2] st H := rn_if (p := fun x => x = 0) rfl
theorem e_S_upMass_25 : rn Ls xs d 123 25 [some (.inr u), l1, l2] st H = rn Ls xs d 123 26 [some (.inr u), l1, l2] (.inr u :: st) H := rn_nx rfl rfl
theorem e_S_upMass_26 : rn Ls xs d 123 26 [l0, l1, l2] (.inr (.inl (some a)) :: st) (S, I, R) = if h_is S a 3 11 then rn Ls xs d 123 29 [l0, l1, l2] (.inr (R a 0) :: st) (S, I, R) else none := rn_bc rfl rfl
theorem e_S_upMass_29 : rn Ls xs d 123 29 [l0, l1, some (.inl x)] st H = rn Ls xs d 123 30 [l0, l1, some (.inl x)] (.inl x :: st) H := rn_nx rfl rfl
theorem e_S_upMass_30 : rn Ls xs d 123 30 [l0, l1, l2] (.inl i :: .inr (.inl (some a)) :: st) (S, I, R) = if h_ia S a 4 i then (match R a i.toNatClampNeg with | .inl o => rn Ls xs d 123 31 [l0, l1, l2] (.inr (.inl o) :: st) (S, I, R) | .inr _ => none) else none := rn_aald rfl
theorem e_S_upMass_31 : rn Ls xs d 123 31 [l0, l1, l2] (.inr (.inl (some a)) :: st) (S, I, R) = if h_is S a 7 6 then rn Ls xs d 123 34 [l0, l1, l2] (.inl (I a 4) :: st) (S, I, R) else none := rn_bc rfl rfl
theorem e_S_upMass_34 : rn Ls xs d 123 34 [l0, l1, l2] st H = rn Ls xs d 123 38 [l0, l1, l2] st H := rn_nx rfl rfl
theorem e_S_upMass_37 : rn Ls xs d 123 37 [l0, l1, l2]  st H = rn Ls xs d 123 38 [l0, l1, l2] (.inl 0 :: st) H := rn_nx rfl rfl
theorem e_S_upMass_38 : rn Ls xs d 123 38 [l0, l1, l2] (.inl y :: .inl x :: st) H = rn Ls xs d 123 39 [l0, l1, l2] (.inl (x + y) :: st) H := rn_nx rfl rfl
theorem e_S_upMass_39 : rn Ls xs d 123 39 [l0, l1, l2] (.inl x :: st) H = rn Ls xs d 123 40 [l0, some (.inl x), l2] st H := rn_nx rfl rfl
theorem e_S_upMass_40 : rn Ls xs d 123 40 [l0, l1, some (.inl x)] st H = rn Ls xs d 123 43 [l0, l1, some (.inl (x + 1))] st H := rn_nx rfl rfl
theorem e_S_upMass_43 : rn Ls xs d 123 43 [l0, l1, l2] st H = rn Ls xs d 123 4 [l0, l1, l2] st H := rn_nx rfl rfl
theorem e_S_upMass_46 : rn Ls xs d 123 46 [l0, some (.inl x), l2] st H = rn Ls xs d 123 47 [l0, some (.inl x), l2] (.inl x :: st) H := rn_nx rfl rfl
theorem e_S_upMass_47 : rn Ls xs d 123 47 [l0, l1, l2] [.inl x] H = some (some (.inl x), H) := rn_done rfl rfl
theorem e_S_upHeights_0 : rn Ls xs d 124 0 [l0, l1, l2]  st H = rn Ls xs d 124 1 [l0, l1, l2] (.inl 0 :: st) H := rn_nx rfl rfl
theorem e_S_upHeights_1 : rn Ls xs d 124 1 [l0, l1, l2] (.inl x :: st) H = rn Ls xs d 124 2 [l0, some (.inl x), l2] st H := rn_nx rfl rfl
theorem e_S_upHeights_2 : rn Ls xs d 124 2 [l0, l1, l2]  st H = rn Ls xs d 124 3 [l0, l1, l2] (.inl 0 :: st) H := rn_nx rfl rfl
theorem e_S_upHeights_3 : rn Ls xs d 124 3 [l0, l1, l2] (.inl x :: st) H = rn Ls xs d 124 4 [l0, l1, some (.inl x)] st H := rn_nx rfl rfl
theorem e_S_upHeights_4 : rn Ls xs d 124 4 [l0, l1, some (.inl x)] st H = rn Ls xs d 124 5 [l0, l1, some (.inl x)] (.inl x :: st) H := rn_nx rfl rfl
theorem e_S_upHeights_5 : rn Ls xs d 124 5 [some (.inr u), l1, l2] st H = rn Ls xs d 124 6 [some (.inr u), l1, l2] (.inr u :: st) H := rn_nx rfl rfl
theorem e_S_upHeights_6 : rn Ls xs d 124 6 [l0, l1, l2] (.inr (.inl (some a)) :: st) (S, I, R) = if h_is S a 3 11 then rn Ls xs d 124 9 [l0, l1, l2] (.inl (I a 3) :: st) (S, I, R) else none := rn_bc rfl rfl
theorem e_S_upHeights_9 : rn Ls xs d 124 9 [l0, l1, l2] (.inl y :: .inl x :: st) H = if y ≤ x then rn Ls xs d 124 48 [l0, l1, l2] st H else rn Ls xs d 124 12 [l0, l1, l2] st H := rn_cmp (p := fun x y => y ≤ x) rfl
theorem e_S_upHeights_12 : rn Ls xs d 124 12 [l0, some (.inl x), l2] st H = rn Ls xs d 124 13 [l0, some (.inl x), l2] (.inl x :: st) H := rn_nx rfl rfl
theorem e_S_upHeights_13 : rn Ls xs d 124 13 [some (.inr u), l1, l2] st H = rn Ls xs d 124 14 [some (.inr u), l1, l2] (.inr u :: st) H := rn_nx rfl rfl
theorem e_S_upHeights_14 : rn Ls xs d 124 14 [l0, l1, l2] (.inr (.inl (some a)) :: st) (S, I, R) = if h_is S a 3 11 then rn Ls xs d 124 17 [l0, l1, l2] (.inr (R a 0) :: st) (S, I, R) else none := rn_bc rfl rfl
theorem e_S_upHeights_17 : rn Ls xs d 124 17 [l0, l1, some (.inl x)] st H = rn Ls xs d 124 18 [l0, l1, some (.inl x)] (.inl x :: st) H := rn_nx rfl rfl
theorem e_S_upHeights_18 : rn Ls xs d 124 18 [l0, l1, l2] (.inl i :: .inr (.inl (some a)) :: st) (S, I, R) = if h_ia S a 4 i then (match R a i.toNatClampNeg with | .inl o => rn Ls xs d 124 19 [l0, l1, l2] (.inr (.inl o) :: st) (S, I, R) | .inr _ => none) else none := rn_aald rfl
theorem e_S_upHeights_19 : rn Ls xs d 124 19 [l0, l1, l2] (.inr (.inl (some a)) :: st) (S, I, R) = if h_is S a 7 6 then rn Ls xs d 124 22 [l0, l1, l2] (.inl (I a 5) :: st) (S, I, R) else none := rn_bc rfl rfl
theorem e_S_upHeights_22 : rn Ls xs d 124 22 [l0, l1, l2] (.inl x :: st) H = if x = 0 then rn Ls xs d 124 39 [l0, l1, l2] st H else rn Ls xs d 124 25 [l0, l1, l2] st H := rn_if (p := fun x => x = 0) rfl
theorem e_S_upHeights_25 : rn Ls xs d 124 25 [l0, l1, l2]  st H = rn Ls xs d 124 26 [l0, l1, l2] (.inl 1 :: st) H := rn_nx rfl rfl
theorem e_S_upHeights_26 : rn Ls xs d 124 26 [some (.inr u), l1, l2] st H = rn Ls xs d 124 27 [some (.inr u), l1, l2] (.inr u :: st) H := rn_nx rfl rfl
theorem e_S_upHeights_27 : rn Ls xs d 124 27 [l0, l1, l2] (.inr (.inl (some a)) :: st) (S, I, R) = if h_is S a 3 11 then rn Ls xs d 124 30 [l0, l1, l2] (.inr (R a 0) :: st) (S, I, R) else none := rn_bc rfl rfl
theorem e_S_upHeights_30 : rn Ls xs d 124 30 [l0, l1, some (.inl x)] st H = rn Ls xs d 124 31 [l0, l1, some (.inl x)] (.inl x :: st) H := rn_nx rfl rfl
theorem e_S_upHeights_31 : rn Ls xs d 124 31 [l0, l1, l2] (.inl i :: .inr (.inl (some a)) :: st) (S, I, R) = if h_ia S a 4 i then (match R a i.toNatClampNeg with | .inl o => rn Ls xs d 124 32 [l0, l1, l2] (.inr (.inl o) :: st) (S, I, R) | .inr _ => none) else none := rn_aald rfl
theorem e_S_upHeights_32 : rn Ls xs d 124 32 [l0, l1, l2] (.inr (.inl (some a)) :: st) (S, I, R) = if h_is S a 7 6 then rn Ls xs d 124 35 [l0, l1, l2] (.inl (I a 1) :: st) (S, I, R) else none := rn_bc rfl rfl
theorem e_S_upHeights_35 : rn Ls xs d 124 35 [l0, l1, l2] (.inl y :: .inl x :: st) H = rn Ls xs d 124 36 [l0, l1, l2] (.inl (x <<< (y &&& 31)) :: st) H := rn_nx rfl rfl
theorem e_S_upHeights_36 : rn Ls xs d 124 36 [l0, l1, l2] st H = rn Ls xs d 124 40 [l0, l1, l2] st H := rn_nx rfl rfl
theorem e_S_upHeights_39 : rn Ls xs d 124 39 [l0, l1, l2]  st H = rn Ls xs d 124 40 [l0, l1, l2] (.inl 0 :: st) H := rn_nx rfl rfl
theorem e_S_upHeights_40 : rn Ls xs d 124 40 [l0, l1, l2] (.inl y :: .inl x :: st) H = rn Ls xs d 124 41 [l0, l1, l2] (.inl (x ||| y) :: st) H := rn_nx rfl rfl
theorem e_S_upHeights_41 : rn Ls xs d 124 41 [l0, l1, l2] (.inl x :: st) H = rn Ls xs d 124 42 [l0, some (.inl x), l2] st H := rn_nx rfl rfl
theorem e_S_upHeights_42 : rn Ls xs d 124 42 [l0, l1, some (.inl x)] st H = rn Ls xs d 124 45 [l0, l1, some (.inl (x + 1))] st H := rn_nx rfl rfl
theorem e_S_upHeights_45 : rn Ls xs d 124 45 [l0, l1, l2] st H = rn Ls xs d 124 4 [l0, l1, l2] st H := rn_nx rfl rfl
theorem e_S_upHeights_48 : rn Ls xs d 124 48 [l0, some (.inl x), l2] st H = rn Ls xs d 124 49 [l0, some (.inl x), l2] (.inl x :: st) H := rn_nx rfl rfl
theorem e_S_upHeights_49 : rn Ls xs d 124 49 [l0, l1, l2] [.inl x] H = some (some (.inl x), H) := rn_done rfl rfl
theorem e_M_ups_0 : rn Ls xs d 125 0 [l0, l1, l2, l3]  st H = rn Ls xs d 125 1 [l0, l1, l2, l3] (.inl 0 :: st) H := rn_nx rfl rfl
theorem e_M_ups_1 : rn Ls xs d 125 1 [l0, l1, l2, l3] (.inl x :: st) H = rn Ls xs d 125 2 [l0, l1, some (.inl x), l3] st H := rn_nx rfl rfl
theorem e_M_ups_2 : rn Ls xs d 125 2 [l0, l1, l2, l3]  st H = rn Ls xs d 125 3 [l0, l1, l2, l3] (.inl 0 :: st) H := rn_nx rfl rfl
theorem e_M_ups_3 : rn Ls xs d 125 3 [l0, l1, l2, l3] (.inl x :: st) H = rn Ls xs d 125 4 [l0, l1, l2, some (.inl x)] st H := rn_nx rfl rfl
theorem e_M_ups_4 : rn Ls xs d 125 4 [l0, l1, l2, some (.inl x)] st H = rn Ls xs d 125 5 [l0, l1, l2, some (.inl x)] (.inl x :: st) H := rn_nx rfl rfl
theorem e_M_ups_5 : rn Ls xs d 125 5 [some (.inr u), l1, l2, l3] st H = rn Ls xs d 125 6 [some (.inr u), l1, l2, l3] (.inr u :: st) H := rn_nx rfl rfl
theorem e_M_ups_6 : rn Ls xs d 125 6 [l0, l1, l2, l3] (.inr (.inl (some a)) :: st) (S, I, R) = if h_is S a 9 36 then rn Ls xs d 125 9 [l0, l1, l2, l3] (.inr (R a 0) :: st) (S, I, R) else none := rn_bc rfl rfl
theorem e_M_ups_9 : rn Ls xs d 125 9 [l0, l1, l2, l3]  st H = rn Ls xs d 125 10 [l0, l1, l2, l3] (.inl 1 :: st) H := rn_nx rfl rfl
theorem e_M_ups_10 : rn Ls xs d 125 10 [l0, l1, l2, l3] (.inl i :: .inr (.inl (some a)) :: st) (S, I, R) = if h_ia S a 0 i then rn Ls xs d 125 11 [l0, l1, l2, l3] (.inl (I a i.toNatClampNeg) :: st) (S, I, R) else none := rn_bc rfl rfl
theorem e_M_ups_11 : rn Ls xs d 125 11 [l0, l1, l2, l3] (.inl y :: .inl x :: st) H = if y ≤ x then rn Ls xs d 125 94 [l0, l1, l2, l3] st H else rn Ls xs d 125 14 [l0, l1, l2, l3] st H := rn_cmp (p := fun x y => y ≤ x) rfl
theorem e_M_ups_14 : rn Ls xs d 125 14 [some (.inr u), l1, l2, l3] st H = rn Ls xs d 125 15 [some (.inr u), l1, l2, l3] (.inr u :: st) H := rn_nx rfl rfl
theorem e_M_ups_15 : rn Ls xs d 125 15 [l0, l1, l2, some (.inl x)] st H = rn Ls xs d 125 16 [l0, l1, l2, some (.inl x)] (.inl x :: st) H := rn_nx rfl rfl
theorem e_M_ups_16 : rn Ls xs (d + 1) 125 16 [l0, l1, l2, l3] [v1, (.inr (.inl (some a)))] (S, I, R) = if h_is S a 9 36 then rb Ls xs (d + 1) 125 19 [l0, l1, l2, l3] [] (rn Ls xs d 113 0 [some (.inr (.inl (some a))), some v1] [] (S, I, R)) else none := rn_callO rfl rfl (Nat.le_of_ble_eq_true rfl) rfl rfl
theorem e_M_ups_19 : rn Ls xs d 125 19 [l0, l1, l2, l3] (.inl x :: st) H = if x = 0 then rn Ls xs d 125 88 [l0, l1, l2, l3] st H else rn Ls xs d 125 22 [l0, l1, l2, l3] st H := rn_if (p := fun x => x = 0) rfl
theorem e_M_ups_22 : rn Ls xs d 125 22 [l0, some (.inl x), l2, l3] st H = rn Ls xs d 125 23 [l0, some (.inl x), l2, l3] (.inl x :: st) H := rn_nx rfl rfl
theorem e_M_ups_23 : rn Ls xs d 125 23 [l0, l1, l2, l3] (.inl x :: st) H = if x ≠ 0 then rn Ls xs d 125 32 [l0, l1, l2, l3] st H else rn Ls xs d 125 26 [l0, l1, l2, l3] st H := rn_if (p := fun x => x ≠ 0) rfl
theorem e_M_ups_26 : rn Ls xs d 125 26 [l0, l1, some (.inl x), l3] st H = rn Ls xs d 125 27 [l0, l1, some (.inl x), l3] (.inl x :: st) H := rn_nx rfl rfl
theorem e_M_ups_27 : rn Ls xs d 125 27 [l0, l1, l2, l3]  st H = rn Ls xs d 125 28 [l0, l1, l2, l3] (.inl 1 :: st) H := rn_nx rfl rfl
theorem e_M_ups_28 : rn Ls xs d 125 28 [l0, l1, l2, l3] (.inl y :: .inl x :: st) H = rn Ls xs d 125 29 [l0, l1, l2, l3] (.inl (x + y) :: st) H := rn_nx rfl rfl
theorem e_M_ups_29 : rn Ls xs d 125 29 [l0, l1, l2, l3] st H = rn Ls xs d 125 87 [l0, l1, l2, l3] st H := rn_nx rfl rfl
theorem e_M_ups_32 : rn Ls xs d 125 32 [l0, some (.inl x), l2, l3] st H = rn Ls xs d 125 33 [l0, some (.inl x), l2, l3] (.inl x :: st) H := rn_nx rfl rfl
theorem e_M_ups_33 : rn Ls xs d 125 33 [l0, l1, l2, l3]  st H = rn Ls xs d 125 34 [l0, l1, l2, l3] (.inl 1 :: st) H := rn_nx rfl rfl
theorem e_M_ups_34 : rn Ls xs d 125 34 [l0, l1, l2, l3] (.inl y :: .inl x :: st) H = if x ≠ y then rn Ls xs d 125 45 [l0, l1, l2, l3] st H else rn Ls xs d 125 37 [l0, l1, l2, l3] st H := rn_cmp (p := fun x y => x ≠ y) rfl
theorem e_M_ups_37 : rn Ls xs d 125 37 [l0, l1, some (.inl x), l3] st H = rn Ls xs d 125 38 [l0, l1, some (.inl x), l3] (.inl x :: st) H := rn_nx rfl rfl
theorem e_M_ups_38 : rn Ls xs d 125 38 [l0, l1, l2, l3]  st H = rn Ls xs d 125 39 [l0, l1, l2, l3] (.inl 1 :: st) H := rn_nx rfl rfl
theorem e_M_ups_39 : rn Ls xs d 125 39 [l0, l1, l2, some (.inl x)] st H = rn Ls xs d 125 40 [l0, l1, l2, some (.inl x)] (.inl x :: st) H := rn_nx rfl rfl
theorem e_M_ups_40 : rn Ls xs d 125 40 [l0, l1, l2, l3] (.inl y :: .inl x :: st) H = rn Ls xs d 125 41 [l0, l1, l2, l3] (.inl (x <<< (y &&& 31)) :: st) H := rn_nx rfl rfl
theorem e_M_ups_41 : rn Ls xs d 125 41 [l0, l1, l2, l3] (.inl y :: .inl x :: st) H = rn Ls xs d 125 42 [l0, l1, l2, l3] (.inl (x ||| y) :: st) H := rn_nx rfl rfl
theorem e_M_ups_42 : rn Ls xs d 125 42 [l0, l1, l2, l3] st H = rn Ls xs d 125 87 [l0, l1, l2, l3] st H := rn_nx rfl rfl
theorem e_M_ups_45 : rn Ls xs d 125 45 [l0, some (.inl x), l2, l3] st H = rn Ls xs d 125 46 [l0, some (.inl x), l2, l3] (.inl x :: st) H := rn_nx rfl rfl
theorem e_M_ups_46 : rn Ls xs d 125 46 [l0, l1, l2, l3]  st H = rn Ls xs d 125 47 [l0, l1, l2, l3] (.inl 2 :: st) H := rn_nx rfl rfl
theorem e_M_ups_47 : rn Ls xs d 125 47 [l0, l1, l2, l3] (.inl y :: .inl x :: st) H = if x ≠ y then rn Ls xs d 125 61 [l0, l1, l2, l3] st H else rn Ls xs d 125 50 [l0, l1, l2, l3] st H := rn_cmp (p := fun x y => x ≠ y) rfl
theorem e_M_ups_50 : rn Ls xs d 125 50 [l0, l1, some (.inl x), l3] st H = rn Ls xs d 125 51 [l0, l1, some (.inl x), l3] (.inl x :: st) H := rn_nx rfl rfl
theorem e_M_ups_51 : rn Ls xs d 125 51 [some (.inr u), l1, l2, l3] st H = rn Ls xs d 125 52 [some (.inr u), l1, l2, l3] (.inr u :: st) H := rn_nx rfl rfl
theorem e_M_ups_52 : rn Ls xs d 125 52 [l0, l1, l2, some (.inl x)] st H = rn Ls xs d 125 53 [l0, l1, l2, some (.inl x)] (.inl x :: st) H := rn_nx rfl rfl
theorem e_M_ups_53 : rn Ls xs d 125 53 [l0, l1, l2, l3]  st H = rn Ls xs d 125 54 [l0, l1, l2, l3] (.inl 4 :: st) H := rn_nx rfl rfl
theorem e_M_ups_54 : rn Ls xs (d + 1) 125 54 [l0, l1, l2, l3] [v2, v1, (.inr (.inl (some a))), v3] (S, I, R) = if h_is S a 9 36 then rb Ls xs (d + 1) 125 57 [l0, l1, l2, l3] [v3] (rn Ls xs d 105 0 [some (.inr (.inl (some a))), some v1, some v2] [] (S, I, R)) else none := rn_callO rfl rfl (Nat.le_of_ble_eq_true rfl) rfl rfl
theorem e_M_ups_57 : rn Ls xs d 125 57 [l0, l1, l2, l3] (.inl y :: .inl x :: st) H = rn Ls xs d 125 58 [l0, l1, l2, l3] (.inl (x + y) :: st) H := rn_nx rfl rfl
theorem e_M_ups_58 : rn Ls xs d 125 58 [l0, l1, l2, l3] st H = rn Ls xs d 125 87 [l0, l1, l2, l3] st H := rn_nx rfl rfl
theorem e_M_ups_61 : rn Ls xs d 125 61 [l0, some (.inl x), l2, l3] st H = rn Ls xs d 125 62 [l0, some (.inl x), l2, l3] (.inl x :: st) H := rn_nx rfl rfl
theorem e_M_ups_62 : rn Ls xs d 125 62 [l0, l1, l2, l3]  st H = rn Ls xs d 125 63 [l0, l1, l2, l3] (.inl 3 :: st) H := rn_nx rfl rfl
theorem e_M_ups_63 : rn Ls xs d 125 63 [l0, l1, l2, l3] (.inl y :: .inl x :: st) H = if x ≠ y then rn Ls xs d 125 79 [l0, l1, l2, l3] st H else rn Ls xs d 125 66 [l0, l1, l2, l3] st H := rn_cmp (p := fun x y => x ≠ y) rfl
theorem e_M_ups_66 : rn Ls xs d 125 66 [l0, l1, some (.inl x), l3] st H = rn Ls xs d 125 67 [l0, l1, some (.inl x), l3] (.inl x :: st) H := rn_nx rfl rfl
theorem e_M_ups_67 : rn Ls xs d 125 67 [l0, l1, l2, l3]  st H = rn Ls xs d 125 68 [l0, l1, l2, l3] (.inl 1 :: st) H := rn_nx rfl rfl
theorem e_M_ups_68 : rn Ls xs d 125 68 [some (.inr u), l1, l2, l3] st H = rn Ls xs d 125 69 [some (.inr u), l1, l2, l3] (.inr u :: st) H := rn_nx rfl rfl
theorem e_M_ups_69 : rn Ls xs d 125 69 [l0, l1, l2, some (.inl x)] st H = rn Ls xs d 125 70 [l0, l1, l2, some (.inl x)] (.inl x :: st) H := rn_nx rfl rfl
theorem e_M_ups_70 : rn Ls xs d 125 70 [l0, l1, l2, l3]  st H = rn Ls xs d 125 71 [l0, l1, l2, l3] (.inl 1 :: st) H := rn_nx rfl rfl
theorem e_M_ups_71 : rn Ls xs (d + 1) 125 71 [l0, l1, l2, l3] [v2, v1, (.inr (.inl (some a))), v3, v4] (S, I, R) = if h_is S a 9 36 then rb Ls xs (d + 1) 125 74 [l0, l1, l2, l3] [v3, v4] (rn Ls xs d 105 0 [some (.inr (.inl (some a))), some v1, some v2] [] (S, I, R)) else none := rn_callO rfl rfl (Nat.le_of_ble_eq_true rfl) rfl rfl
theorem e_M_ups_74 : rn Ls xs d 125 74 [l0, l1, l2, l3] (.inl y :: .inl x :: st) H = rn Ls xs d 125 75 [l0, l1, l2, l3] (.inl (x <<< (y &&& 31)) :: st) H := rn_nx rfl rfl
theorem e_M_ups_75 : rn Ls xs d 125 75 [l0, l1, l2, l3] (.inl y :: .inl x :: st) H = rn Ls xs d 125 76 [l0, l1, l2, l3] (.inl (x ||| y) :: st) H := rn_nx rfl rfl
theorem e_M_ups_76 : rn Ls xs d 125 76 [l0, l1, l2, l3] st H = rn Ls xs d 125 87 [l0, l1, l2, l3] st H := rn_nx rfl rfl
theorem e_M_ups_79 : rn Ls xs d 125 79 [l0, l1, some (.inl x), l3] st H = rn Ls xs d 125 80 [l0, l1, some (.inl x), l3] (.inl x :: st) H := rn_nx rfl rfl
theorem e_M_ups_80 : rn Ls xs d 125 80 [some (.inr u), l1, l2, l3] st H = rn Ls xs d 125 81 [some (.inr u), l1, l2, l3] (.inr u :: st) H := rn_nx rfl rfl
theorem e_M_ups_81 : rn Ls xs d 125 81 [l0, l1, l2, some (.inl x)] st H = rn Ls xs d 125 82 [l0, l1, l2, some (.inl x)] (.inl x :: st) H := rn_nx rfl rfl
theorem e_M_ups_82 : rn Ls xs d 125 82 [l0, l1, l2, l3]  st H = rn Ls xs d 125 83 [l0, l1, l2, l3] (.inl 2 :: st) H := rn_nx rfl rfl
theorem e_M_ups_83 : rn Ls xs (d + 1) 125 83 [l0, l1, l2, l3] [v2, v1, (.inr (.inl (some a))), v3] (S, I, R) = if h_is S a 9 36 then rb Ls xs (d + 1) 125 86 [l0, l1, l2, l3] [v3] (rn Ls xs d 105 0 [some (.inr (.inl (some a))), some v1, some v2] [] (S, I, R)) else none := rn_callO rfl rfl (Nat.le_of_ble_eq_true rfl) rfl rfl
theorem e_M_ups_86 : rn Ls xs d 125 86 [l0, l1, l2, l3] (.inl y :: .inl x :: st) H = rn Ls xs d 125 87 [l0, l1, l2, l3] (.inl (x + y) :: st) H := rn_nx rfl rfl
theorem e_M_ups_87 : rn Ls xs d 125 87 [l0, l1, l2, l3] (.inl x :: st) H = rn Ls xs d 125 88 [l0, l1, some (.inl x), l3] st H := rn_nx rfl rfl
theorem e_M_ups_88 : rn Ls xs d 125 88 [l0, l1, l2, some (.inl x)] st H = rn Ls xs d 125 91 [l0, l1, l2, some (.inl (x + 1))] st H := rn_nx rfl rfl
theorem e_M_ups_91 : rn Ls xs d 125 91 [l0, l1, l2, l3] st H = rn Ls xs d 125 4 [l0, l1, l2, l3] st H := rn_nx rfl rfl
theorem e_M_ups_94 : rn Ls xs d 125 94 [l0, l1, some (.inl x), l3] st H = rn Ls xs d 125 95 [l0, l1, some (.inl x), l3] (.inl x :: st) H := rn_nx rfl rfl
theorem e_M_ups_95 : rn Ls xs d 125 95 [l0, l1, l2, l3] [.inl x] H = some (some (.inl x), H) := rn_done rfl rfl
theorem e_F_behindHours_0 : rn Ls xs d 126 0 [some (.inr u), l1, l2] st H = rn Ls xs d 126 1 [some (.inr u), l1, l2] (.inr u :: st) H := rn_nx rfl rfl
theorem e_F_behindHours_1 : rn Ls xs d 126 1 [l0, l1, l2] (.inr (.inl (some a)) :: st) (S, I, R) = if h_is S a 0 5 then rn Ls xs d 126 4 [l0, l1, l2] (.inr (R a 0) :: st) (S, I, R) else none := rn_bc rfl rfl
theorem e_F_behindHours_4 : rn Ls xs d 126 4 [l0, some (.inr u), l2] st H = rn Ls xs d 126 5 [l0, some (.inr u), l2] (.inr u :: st) H := rn_nx rfl rfl
theorem e_F_behindHours_5 : rn Ls xs (d + 1) 126 5 [l0, l1, l2] [v1, (.inr (.inl (some a)))] (S, I, R) = if h_is S a 3 11 then rb Ls xs (d + 1) 126 8 [l0, l1, l2] [] (rn Ls xs d 172 0 [some (.inr (.inl (some a))), some v1, none] [] (S, I, R)) else none := rn_callO rfl rfl (Nat.le_of_ble_eq_true rfl) rfl rfl
theorem e_F_behindHours_8 : rn Ls xs d 126 8 [some (.inr u), l1, l2] st H = rn Ls xs d 126 9 [some (.inr u), l1, l2] (.inr u :: st) H := rn_nx rfl rfl
theorem e_F_behindHours_9 : rn Ls xs d 126 9 [l0, l1, l2] (.inr (.inl (some a)) :: st) (S, I, R) = if h_is S a 0 5 then rn Ls xs d 126 12 [l0, l1, l2] (.inr (R a 0) :: st) (S, I, R) else none := rn_bc rfl rfl
theorem e_F_behindHours_12 : rn Ls xs d 126 12 [l0, l1, some (.inl x)] st H = rn Ls xs d 126 13 [l0, l1, some (.inl x)] (.inl x :: st) H := rn_nx rfl rfl
theorem e_F_behindHours_13 : rn Ls xs (d + 1) 126 13 [l0, l1, l2] [v1, (.inr (.inl (some a)))] (S, I, R) = if h_is S a 3 11 then rb Ls xs (d + 1) 126 16 [l0, l1, l2] [] (rn Ls xs d 119 0 [some (.inr (.inl (some a))), some v1, none] [] (S, I, R)) else none := rn_callO rfl rfl (Nat.le_of_ble_eq_true rfl) rfl rfl
theorem e_F_behindHours_16 : rn Ls xs d 126 16 [some (.inr u), l1, l2] st H = rn Ls xs d 126 17 [some (.inr u), l1, l2] (.inr u :: st) H := rn_nx rfl rfl
theorem e_F_behindHours_17 : rn Ls xs d 126 17 [l0, l1, l2] (.inr (.inl (some a)) :: st) (S, I, R) = if h_is S a 0 5 then rn Ls xs d 126 20 [l0, l1, l2] (.inr (R a 0) :: st) (S, I, R) else none := rn_bc rfl rfl
theorem e_F_behindHours_20 : rn Ls xs d 126 20 [l0, l1, l2] [.inr u] H = some (some (.inr u), H) := rn_done rfl rfl
end EQ

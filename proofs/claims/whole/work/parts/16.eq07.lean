section EQ
variable {Ls : Nat} {xs : Nat → Int32} {d : Nat} {l0 l1 l2 l3 l4 l5 l6 l7 l8 l9 l10 l11 l12 : Option mV} {st : List mV} {H : mH} {S : mS} {I : mI} {R : mR} {x y z i : Int32} {a b : Nat} {k : Nat} {v w : mV} {u : mr} {v0 v1 v2 v3 v4 v5 v6 v7 v8 v9 v10 v11 : mV}
theorem e_K_hardFrom_0 : rn Ls xs d 174 0 [some (.inr u), l1] st H = rn Ls xs d 174 1 [some (.inr u), l1] (.inr u :: st) H := rn_nx rfl rfl
theorem e_K_hardFrom_1 : rn Ls xs d 174 1 [l0, l1] (.inr (.inl (some a)) :: st) (S, I, R) = if h_is S a 7 6 then rn Ls xs d 174 4 [l0, l1] (.inl (I a 0) :: st) (S, I, R) else none := rn_bc rfl rfl
theorem e_K_hardFrom_4 : rn Ls xs d 174 4 [l0, l1] (.inl x :: st) H = if x = 1 then rn Ls xs d 174 40 [l0, l1] st H else if x = 2 then rn Ls xs d 174 52 [l0, l1] st H else if x = 3 then rn Ls xs d 174 45 [l0, l1] st H else if x = 4 then rn Ls xs d 174 61 [l0, l1] st H else if x = 5 then rn Ls xs d 174 63 [l0, l1] st H else rn Ls xs d 174 67 [l0, l1] st H := (rn_nx rfl rfl).trans (rn_tc rfl rfl (rn_tc rfl rfl (rn_tc rfl rfl (rn_tc rfl rfl (rn_tc rfl rfl (rn_tn))))))
theorem e_K_hardFrom_40 : rn Ls xs d 174 40 [l0, some (.inl x)] st H = rn Ls xs d 174 41 [l0, some (.inl x)] (.inl x :: st) H := rn_nx rfl rfl
theorem e_K_hardFrom_41 : rn Ls xs d 174 41 [l0, l1]  st H = rn Ls xs d 174 43 [l0, l1] (.inl 10 :: st) H := rn_nx rfl rfl
theorem e_K_hardFrom_43 : rn Ls xs d 174 43 [l0, l1] (.inl y :: .inl x :: st) H = rn Ls xs d 174 44 [l0, l1] (.inl (x + y) :: st) H := rn_nx rfl rfl
theorem e_K_hardFrom_44 : rn Ls xs d 174 44 [l0, l1] [.inl x] H = some (some (.inl x), H) := rn_done rfl rfl
theorem e_K_hardFrom_45 : rn Ls xs d 174 45 [l0, some (.inl x)] st H = rn Ls xs d 174 46 [l0, some (.inl x)] (.inl x :: st) H := rn_nx rfl rfl
theorem e_K_hardFrom_46 : rn Ls xs d 174 46 [l0, l1]  st H = rn Ls xs d 174 48 [l0, l1] (.inl 10 :: st) H := rn_nx rfl rfl
theorem e_K_hardFrom_48 : rn Ls xs d 174 48 [l0, l1] (.inl y :: .inl x :: st) H = rn Ls xs d 174 49 [l0, l1] (.inl (x + y) :: st) H := rn_nx rfl rfl
theorem e_K_hardFrom_49 : rn Ls xs d 174 49 [l0, l1]  st H = rn Ls xs d 174 50 [l0, l1] (.inl 2 :: st) H := rn_nx rfl rfl
theorem e_K_hardFrom_50 : rn Ls xs d 174 50 [l0, l1] (.inl y :: .inl x :: st) H = if y = 0 then none else rn Ls xs d 174 51 [l0, l1] (.inl (x / y) :: st) H := rn_div (f := fun x y => x / y) rfl
theorem e_K_hardFrom_51 : rn Ls xs d 174 51 [l0, l1] [.inl x] H = some (some (.inl x), H) := rn_done rfl rfl
theorem e_K_hardFrom_52 : rn Ls xs d 174 52 [l0, l1]  st H = rn Ls xs d 174 53 [l0, l1] (.inl 0 :: st) H := rn_nx rfl rfl
theorem e_K_hardFrom_53 : rn Ls xs d 174 53 [l0, some (.inl x)] st H = rn Ls xs d 174 54 [l0, some (.inl x)] (.inl x :: st) H := rn_nx rfl rfl
theorem e_K_hardFrom_54 : rn Ls xs d 174 54 [l0, l1]  st H = rn Ls xs d 174 56 [l0, l1] (.inl 9 :: st) H := rn_nx rfl rfl
theorem e_K_hardFrom_56 : rn Ls xs d 174 56 [l0, l1] (.inl y :: .inl x :: st) H = rn Ls xs d 174 57 [l0, l1] (.inl (x - y) :: st) H := rn_nx rfl rfl
theorem e_K_hardFrom_57 : rn Ls xs (d + 1) 174 57 [l0, l1] [v1, v0] H = rb Ls xs (d + 1) 174 60 [l0, l1] [] (rn Ls xs d 206 0 [some v0, some v1] [] H) := rn_call rfl (Nat.le_of_ble_eq_true rfl) (Nat.le_of_ble_eq_true rfl) rfl rfl
theorem e_K_hardFrom_60 : rn Ls xs d 174 60 [l0, l1] [.inl x] H = some (some (.inl x), H) := rn_done rfl rfl
theorem e_K_hardFrom_61 : rn Ls xs d 174 61 [l0, l1]  st H = rn Ls xs d 174 62 [l0, l1] (.inl 0 :: st) H := rn_nx rfl rfl
theorem e_K_hardFrom_62 : rn Ls xs d 174 62 [l0, l1] [.inl x] H = some (some (.inl x), H) := rn_done rfl rfl
theorem e_K_hardFrom_63 : rn Ls xs d 174 63 [l0, l1]  st H = rn Ls xs d 174 64 [l0, l1] (.inl 2 :: st) H := rn_nx rfl rfl
theorem e_K_hardFrom_64 : rn Ls xs d 174 64 [l0, some (.inl x)] st H = rn Ls xs d 174 65 [l0, some (.inl x)] (.inl x :: st) H := rn_nx rfl rfl
theorem e_K_hardFrom_65 : rn Ls xs d 174 65 [l0, l1] (.inl y :: .inl x :: st) H = rn Ls xs d 174 66 [l0, l1] (.inl (x * y) :: st) H := rn_nx rfl rfl
theorem e_K_hardFrom_66 : rn Ls xs d 174 66 [l0, l1] [.inl x] H = some (some (.inl x), H) := rn_done rfl rfl
theorem e_K_hardFrom_67 : rn Ls xs d 174 67 [l0, some (.inl x)] st H = rn Ls xs d 174 68 [l0, some (.inl x)] (.inl x :: st) H := rn_nx rfl rfl
theorem e_K_hardFrom_68 : rn Ls xs d 174 68 [l0, l1] [.inl x] H = some (some (.inl x), H) := rn_done rfl rfl
theorem e_S_draw_0 : rn Ls xs d 175 0 [some (.inr u)] st H = rn Ls xs d 175 1 [some (.inr u)] (.inr u :: st) H := rn_nx rfl rfl
theorem e_S_draw_1 : rn Ls xs d 175 1 [some (.inr u)] st H = rn Ls xs d 175 2 [some (.inr u)] (.inr u :: st) H := rn_nx rfl rfl
theorem e_S_draw_2 : rn Ls xs d 175 2 [l0] (.inr (.inl (some a)) :: st) (S, I, R) = if h_is S a 3 11 then rn Ls xs d 175 5 [l0] (.inl (I a 10) :: st) (S, I, R) else none := rn_bc rfl rfl
theorem e_S_draw_5 : rn Ls xs d 175 5 [l0]  st H = rn Ls xs d 175 7 [l0] (.inl 1103515245 :: st) H := rn_nx rfl rfl
theorem e_S_draw_7 : rn Ls xs d 175 7 [l0] (.inl y :: .inl x :: st) H = rn Ls xs d 175 8 [l0] (.inl (x * y) :: st) H := rn_nx rfl rfl
theorem e_S_draw_8 : rn Ls xs d 175 8 [l0]  st H = rn Ls xs d 175 11 [l0] (.inl 12345 :: st) H := rn_nx rfl rfl
theorem e_S_draw_11 : rn Ls xs d 175 11 [l0] (.inl y :: .inl x :: st) H = rn Ls xs d 175 12 [l0] (.inl (x + y) :: st) H := rn_nx rfl rfl
theorem e_S_draw_12 : rn Ls xs d 175 12 [l0] (.inl x :: .inr (.inl (some a)) :: st) (S, I, R) = if h_is S a 3 11 then rn Ls xs d 175 15 [l0] st (S, va_up I a (upd (I a) 10 x), R) else none := rn_bc rfl rfl
theorem e_S_draw_15 : rn Ls xs d 175 15 [some (.inr u)] st H = rn Ls xs d 175 16 [some (.inr u)] (.inr u :: st) H := rn_nx rfl rfl
theorem e_S_draw_16 : rn Ls xs d 175 16 [l0] (.inr (.inl (some a)) :: st) (S, I, R) = if h_is S a 3 11 then rn Ls xs d 175 19 [l0] (.inl (I a 10) :: st) (S, I, R) else none := rn_bc rfl rfl
theorem e_S_draw_19 : rn Ls xs d 175 19 [l0]  st H = rn Ls xs d 175 21 [l0] (.inl 8 :: st) H := rn_nx rfl rfl
theorem e_S_draw_21 : rn Ls xs d 175 21 [l0] (.inl y :: .inl x :: st) H = rn Ls xs d 175 22 [l0] (.inl ((x.toUInt32 >>> (y.toUInt32 &&& Int32.toUInt32 31)).toInt32) :: st) H := rn_nx rfl rfl
theorem e_S_draw_22 : rn Ls xs d 175 22 [l0] [.inl x] H = some (some (.inl x), H) := rn_done rfl rfl
theorem e_S_goAll_0 : rn Ls xs d 176 0 [l0, l1, l2]  st H = rn Ls xs d 176 1 [l0, l1, l2] (.inl 0 :: st) H := rn_nx rfl rfl
theorem e_S_goAll_1 : rn Ls xs d 176 1 [l0, l1, l2] (.inl x :: st) H = rn Ls xs d 176 2 [l0, some (.inl x), l2] st H := rn_nx rfl rfl
theorem e_S_goAll_2 : rn Ls xs d 176 2 [l0, some (.inl x), l2] st H = rn Ls xs d 176 3 [l0, some (.inl x), l2] (.inl x :: st) H := rn_nx rfl rfl
theorem e_S_goAll_3 : rn Ls xs d 176 3 [some (.inr u), l1, l2] st H = rn Ls xs d 176 4 [some (.inr u), l1, l2] (.inr u :: st) H := rn_nx rfl rfl
theorem e_S_goAll_4 : rn Ls xs d 176 4 [l0, l1, l2] (.inr (.inl (some a)) :: st) (S, I, R) = if h_is S a 3 11 then rn Ls xs d 176 7 [l0, l1, l2] (.inl (I a 3) :: st) (S, I, R) else none := rn_bc rfl rfl
theorem e_S_goAll_7 : rn Ls xs d 176 7 [l0, l1, l2] (.inl y :: .inl x :: st) H = if y ≤ x then rn Ls xs d 176 52 [l0, l1, l2] st H else rn Ls xs d 176 10 [l0, l1, l2] st H := rn_cmp (p := fun x y => y ≤ x) rfl
theorem e_S_goAll_10 : rn Ls xs d 176 10 [some (.inr u), l1, l2] st H = rn Ls xs d 176 11 [some (.inr u), l1, l2] (.inr u :: st) H := rn_nx rfl rfl
theorem e_S_goAll_11 : rn Ls xs d 176 11 [l0, l1, l2] (.inr (.inl (some a)) :: st) (S, I, R) = if h_is S a 3 11 then rn Ls xs d 176 14 [l0, l1, l2] (.inr (R a 0) :: st) (S, I, R) else none := rn_bc rfl rfl
theorem e_S_goAll_14 : rn Ls xs d 176 14 [l0, some (.inl x), l2] st H = rn Ls xs d 176 15 [l0, some (.inl x), l2] (.inl x :: st) H := rn_nx rfl rfl
theorem e_S_goAll_15 : rn Ls xs d 176 15 [l0, l1, l2] (.inl i :: .inr (.inl (some a)) :: st) (S, I, R) = if h_ia S a 4 i then (match R a i.toNatClampNeg with | .inl o => rn Ls xs d 176 16 [l0, l1, l2] (.inr (.inl o) :: st) (S, I, R) | .inr _ => none) else none := rn_aald rfl
theorem e_S_goAll_16 : rn Ls xs d 176 16 [l0, l1, l2] (.inr u :: st) H = rn Ls xs d 176 17 [l0, l1, some (.inr u)] st H := rn_nx rfl rfl
theorem e_S_goAll_17 : rn Ls xs d 176 17 [l0, l1, some (.inr u)] st H = rn Ls xs d 176 18 [l0, l1, some (.inr u)] (.inr u :: st) H := rn_nx rfl rfl
theorem e_S_goAll_18 : rn Ls xs d 176 18 [l0, l1, l2] (.inr (.inl (some a)) :: st) (S, I, R) = if h_is S a 7 6 then rn Ls xs d 176 21 [l0, l1, l2] (.inl (I a 5) :: st) (S, I, R) else none := rn_bc rfl rfl
theorem e_S_goAll_21 : rn Ls xs d 176 21 [l0, l1, l2] (.inl x :: st) H = if x = 0 then rn Ls xs d 176 46 [l0, l1, l2] st H else rn Ls xs d 176 24 [l0, l1, l2] st H := rn_if (p := fun x => x = 0) rfl
theorem e_S_goAll_24 : rn Ls xs d 176 24 [l0, l1, some (.inr u)] st H = rn Ls xs d 176 25 [l0, l1, some (.inr u)] (.inr u :: st) H := rn_nx rfl rfl
theorem e_S_goAll_25 : rn Ls xs d 176 25 [l0, l1, some (.inr u)] st H = rn Ls xs d 176 26 [l0, l1, some (.inr u)] (.inr u :: st) H := rn_nx rfl rfl
theorem e_S_goAll_26 : rn Ls xs d 176 26 [l0, l1, l2] (.inr (.inl (some a)) :: st) (S, I, R) = if h_is S a 7 6 then rn Ls xs d 176 29 [l0, l1, l2] (.inl (I a 2) :: st) (S, I, R) else none := rn_bc rfl rfl
theorem e_S_goAll_29 : rn Ls xs d 176 29 [l0, l1, some (.inr u)] st H = rn Ls xs d 176 30 [l0, l1, some (.inr u)] (.inr u :: st) H := rn_nx rfl rfl
theorem e_S_goAll_30 : rn Ls xs d 176 30 [some (.inr u), l1, l2] st H = rn Ls xs d 176 31 [some (.inr u), l1, l2] (.inr u :: st) H := rn_nx rfl rfl
theorem e_S_goAll_31 : rn Ls xs d 176 31 [l0, l1, l2] (.inr (.inl (some a)) :: st) (S, I, R) = if h_is S a 3 11 then rn Ls xs d 176 34 [l0, l1, l2] (.inl (I a 9) :: st) (S, I, R) else none := rn_bc rfl rfl
theorem e_S_goAll_34 : rn Ls xs (d + 1) 176 34 [l0, l1, l2] [v1, (.inr (.inl (some a))), v2, v3] (S, I, R) = if h_is S a 7 6 then rb Ls xs (d + 1) 176 37 [l0, l1, l2] [v2, v3] (rn Ls xs d 102 0 [some (.inr (.inl (some a))), some v1] [] (S, I, R)) else none := rn_callO rfl rfl (Nat.le_of_ble_eq_true rfl) rfl rfl
theorem e_S_goAll_37 : rn Ls xs d 176 37 [l0, l1, l2] (.inl y :: .inl x :: st) H = rn Ls xs d 176 38 [l0, l1, l2] (.inl (x + y) :: st) H := rn_nx rfl rfl
theorem e_S_goAll_38 : rn Ls xs d 176 38 [l0, l1, l2]  st H = rn Ls xs d 176 40 [l0, l1, l2] (.inl 30 :: st) H := rn_nx rfl rfl
theorem e_S_goAll_40 : rn Ls xs (d + 1) 176 40 [l0, l1, l2] [v1, v0, v2] H = rb Ls xs (d + 1) 176 43 [l0, l1, l2] [v2] (rn Ls xs d 188 0 [some v0, some v1, none] [] H) := rn_call rfl (Nat.le_of_ble_eq_true rfl) (Nat.le_of_ble_eq_true rfl) rfl rfl
theorem e_S_goAll_43 : rn Ls xs d 176 43 [l0, l1, l2] (.inl x :: .inr (.inl (some a)) :: st) (S, I, R) = if h_is S a 7 6 then rn Ls xs d 176 46 [l0, l1, l2] st (S, va_up I a (upd (I a) 2 x), R) else none := rn_bc rfl rfl
theorem e_S_goAll_46 : rn Ls xs d 176 46 [l0, some (.inl x), l2] st H = rn Ls xs d 176 49 [l0, some (.inl (x + 1)), l2] st H := rn_nx rfl rfl
theorem e_S_goAll_49 : rn Ls xs d 176 49 [l0, l1, l2] st H = rn Ls xs d 176 2 [l0, l1, l2] st H := rn_nx rfl rfl
theorem e_S_goAll_52 : rn Ls xs d 176 52 [l0, l1, l2] [] H = some (none, H) := rn_done rfl rfl
theorem e_S_meetAll_0 : rn Ls xs d 177 0 [some (.inr u), l1, l2, l3, l4, l5] st H = rn Ls xs d 177 1 [some (.inr u), l1, l2, l3, l4, l5] (.inr u :: st) H := rn_nx rfl rfl
theorem e_S_meetAll_1 : rn Ls xs d 177 1 [l0, l1, l2, l3, l4, l5] (.inr (.inl (some a)) :: st) (S, I, R) = if h_is S a 3 11 then rn Ls xs d 177 4 [l0, l1, l2, l3, l4, l5] (.inl (I a 3) :: st) (S, I, R) else none := rn_bc rfl rfl
theorem e_S_meetAll_4 : rn Ls xs d 177 4 [l0, l1, l2, l3, l4, l5] (.inl x :: st) H = rn Ls xs d 177 5 [l0, some (.inl x), l2, l3, l4, l5] st H := rn_nx rfl rfl
theorem e_S_meetAll_5 : rn Ls xs d 177 5 [l0, l1, l2, l3, l4, l5]  st H = rn Ls xs d 177 6 [l0, l1, l2, l3, l4, l5] (.inl 0 :: st) H := rn_nx rfl rfl
theorem e_S_meetAll_6 : rn Ls xs d 177 6 [l0, l1, l2, l3, l4, l5] (.inl x :: st) H = rn Ls xs d 177 7 [l0, l1, some (.inl x), l3, l4, l5] st H := rn_nx rfl rfl
theorem e_S_meetAll_7 : rn Ls xs d 177 7 [l0, l1, some (.inl x), l3, l4, l5] st H = rn Ls xs d 177 8 [l0, l1, some (.inl x), l3, l4, l5] (.inl x :: st) H := rn_nx rfl rfl
theorem e_S_meetAll_8 : rn Ls xs d 177 8 [l0, some (.inl x), l2, l3, l4, l5] st H = rn Ls xs d 177 9 [l0, some (.inl x), l2, l3, l4, l5] (.inl x :: st) H := rn_nx rfl rfl
theorem e_S_meetAll_9 : rn Ls xs d 177 9 [l0, l1, l2, l3, l4, l5] (.inl y :: .inl x :: st) H = if y ≤ x then rn Ls xs d 177 114 [l0, l1, l2, l3, l4, l5] st H else rn Ls xs d 177 12 [l0, l1, l2, l3, l4, l5] st H := rn_cmp (p := fun x y => y ≤ x) rfl
theorem e_S_meetAll_12 : rn Ls xs d 177 12 [some (.inr u), l1, l2, l3, l4, l5] st H = rn Ls xs d 177 13 [some (.inr u), l1, l2, l3, l4, l5] (.inr u :: st) H := rn_nx rfl rfl
theorem e_S_meetAll_13 : rn Ls xs d 177 13 [l0, l1, l2, l3, l4, l5] (.inr (.inl (some a)) :: st) (S, I, R) = if h_is S a 3 11 then rn Ls xs d 177 16 [l0, l1, l2, l3, l4, l5] (.inr (R a 0) :: st) (S, I, R) else none := rn_bc rfl rfl
theorem e_S_meetAll_16 : rn Ls xs d 177 16 [l0, l1, some (.inl x), l3, l4, l5] st H = rn Ls xs d 177 17 [l0, l1, some (.inl x), l3, l4, l5] (.inl x :: st) H := rn_nx rfl rfl
theorem e_S_meetAll_17 : rn Ls xs d 177 17 [l0, l1, l2, l3, l4, l5] (.inl i :: .inr (.inl (some a)) :: st) (S, I, R) = if h_ia S a 4 i then (match R a i.toNatClampNeg with | .inl o => rn Ls xs d 177 18 [l0, l1, l2, l3, l4, l5] (.inr (.inl o) :: st) (S, I, R) | .inr _ => none) else none := rn_aald rfl
theorem e_S_meetAll_18 : rn Ls xs d 177 18 [l0, l1, l2, l3, l4, l5] (.inr u :: st) H = rn Ls xs d 177 19 [l0, l1, l2, some (.inr u), l4, l5] st H := rn_nx rfl rfl
theorem e_S_meetAll_19 : rn Ls xs d 177 19 [l0, l1, some (.inl x), l3, l4, l5] st H = rn Ls xs d 177 20 [l0, l1, some (.inl x), l3, l4, l5] (.inl x :: st) H := rn_nx rfl rfl
theorem e_S_meetAll_20 : rn Ls xs d 177 20 [l0, l1, l2, l3, l4, l5]  st H = rn Ls xs d 177 21 [l0, l1, l2, l3, l4, l5] (.inl 1 :: st) H := rn_nx rfl rfl
theorem e_S_meetAll_21 : rn Ls xs d 177 21 [l0, l1, l2, l3, l4, l5] (.inl y :: .inl x :: st) H = rn Ls xs d 177 22 [l0, l1, l2, l3, l4, l5] (.inl (x + y) :: st) H := rn_nx rfl rfl
theorem e_S_meetAll_22 : rn Ls xs d 177 22 [l0, l1, l2, l3, l4, l5] (.inl x :: st) H = rn Ls xs d 177 24 [l0, l1, l2, l3, some (.inl x), l5] st H := rn_nx rfl rfl
theorem e_S_meetAll_24 : rn Ls xs d 177 24 [l0, l1, l2, l3, some (.inl x), l5] st H = rn Ls xs d 177 26 [l0, l1, l2, l3, some (.inl x), l5] (.inl x :: st) H := rn_nx rfl rfl
theorem e_S_meetAll_26 : rn Ls xs d 177 26 [l0, some (.inl x), l2, l3, l4, l5] st H = rn Ls xs d 177 27 [l0, some (.inl x), l2, l3, l4, l5] (.inl x :: st) H := rn_nx rfl rfl
theorem e_S_meetAll_27 : rn Ls xs d 177 27 [l0, l1, l2, l3, l4, l5] (.inl y :: .inl x :: st) H = if y ≤ x then rn Ls xs d 177 108 [l0, l1, l2, l3, l4, l5] st H else rn Ls xs d 177 30 [l0, l1, l2, l3, l4, l5] st H := rn_cmp (p := fun x y => y ≤ x) rfl
theorem e_S_meetAll_30 : rn Ls xs d 177 30 [l0, l1, l2, some (.inr u), l4, l5] st H = rn Ls xs d 177 31 [l0, l1, l2, some (.inr u), l4, l5] (.inr u :: st) H := rn_nx rfl rfl
theorem e_S_meetAll_31 : rn Ls xs d 177 31 [l0, l1, l2, l3, l4, l5] (.inr (.inl (some a)) :: st) (S, I, R) = if h_is S a 7 6 then rn Ls xs d 177 34 [l0, l1, l2, l3, l4, l5] (.inl (I a 5) :: st) (S, I, R) else none := rn_bc rfl rfl
theorem e_S_meetAll_34 : rn Ls xs d 177 34 [l0, l1, l2, l3, l4, l5] (.inl x :: st) H = if x = 0 then rn Ls xs d 177 108 [l0, l1, l2, l3, l4, l5] st H else rn Ls xs d 177 37 [l0, l1, l2, l3, l4, l5] st H := rn_if (p := fun x => x = 0) rfl
theorem e_S_meetAll_37 : rn Ls xs d 177 37 [some (.inr u), l1, l2, l3, l4, l5] st H = rn Ls xs d 177 38 [some (.inr u), l1, l2, l3, l4, l5] (.inr u :: st) H := rn_nx rfl rfl
theorem e_S_meetAll_38 : rn Ls xs d 177 38 [l0, l1, l2, l3, l4, l5] (.inr (.inl (some a)) :: st) (S, I, R) = if h_is S a 3 11 then rn Ls xs d 177 41 [l0, l1, l2, l3, l4, l5] (.inr (R a 0) :: st) (S, I, R) else none := rn_bc rfl rfl
theorem e_S_meetAll_41 : rn Ls xs d 177 41 [l0, l1, l2, l3, some (.inl x), l5] st H = rn Ls xs d 177 43 [l0, l1, l2, l3, some (.inl x), l5] (.inl x :: st) H := rn_nx rfl rfl
theorem e_S_meetAll_43 : rn Ls xs d 177 43 [l0, l1, l2, l3, l4, l5] (.inl i :: .inr (.inl (some a)) :: st) (S, I, R) = if h_ia S a 4 i then (match R a i.toNatClampNeg with | .inl o => rn Ls xs d 177 44 [l0, l1, l2, l3, l4, l5] (.inr (.inl o) :: st) (S, I, R) | .inr _ => none) else none := rn_aald rfl
theorem e_S_meetAll_44 : rn Ls xs d 177 44 [l0, l1, l2, l3, l4, l5] (.inr u :: st) H = rn Ls xs d 177 46 [l0, l1, l2, l3, l4, some (.inr u)] st H := rn_nx rfl rfl
theorem e_S_meetAll_46 : rn Ls xs d 177 46 [l0, l1, l2, some (.inr u), l4, l5] st H = rn Ls xs d 177 47 [l0, l1, l2, some (.inr u), l4, l5] (.inr u :: st) H := rn_nx rfl rfl
theorem e_S_meetAll_47 : rn Ls xs d 177 47 [l0, l1, l2, l3, l4, l5] (.inr (.inl (some a)) :: st) (S, I, R) = if h_is S a 7 6 then rn Ls xs d 177 50 [l0, l1, l2, l3, l4, l5] (.inl (I a 2) :: st) (S, I, R) else none := rn_bc rfl rfl
theorem e_S_meetAll_50 : rn Ls xs d 177 50 [l0, l1, l2, l3, l4, some (.inr u)] st H = rn Ls xs d 177 52 [l0, l1, l2, l3, l4, some (.inr u)] (.inr u :: st) H := rn_nx rfl rfl
theorem e_S_meetAll_52 : rn Ls xs d 177 52 [l0, l1, l2, l3, l4, l5] (.inr (.inl (some a)) :: st) (S, I, R) = if h_is S a 7 6 then rn Ls xs d 177 55 [l0, l1, l2, l3, l4, l5] (.inl (I a 2) :: st) (S, I, R) else none := rn_bc rfl rfl
theorem e_S_meetAll_55 : rn Ls xs d 177 55 [l0, l1, l2, l3, l4, l5] (.inl y :: .inl x :: st) H = if x ≠ y then rn Ls xs d 177 102 [l0, l1, l2, l3, l4, l5] st H else rn Ls xs d 177 58 [l0, l1, l2, l3, l4, l5] st H := rn_cmp (p := fun x y => x ≠ y) rfl
theorem e_S_meetAll_58 : rn Ls xs d 177 58 [l0, l1, l2, some (.inr u), l4, l5] st H = rn Ls xs d 177 59 [l0, l1, l2, some (.inr u), l4, l5] (.inr u :: st) H := rn_nx rfl rfl
theorem e_S_meetAll_59 : rn Ls xs d 177 59 [l0, l1, l2, l3, l4, l5] (.inr (.inl (some a)) :: st) (S, I, R) = if h_is S a 7 6 then rn Ls xs d 177 62 [l0, l1, l2, l3, l4, l5] (.inl (I a 1) :: st) (S, I, R) else none := rn_bc rfl rfl
theorem e_S_meetAll_62 : rn Ls xs d 177 62 [l0, l1, l2, l3, l4, some (.inr u)] st H = rn Ls xs d 177 64 [l0, l1, l2, l3, l4, some (.inr u)] (.inr u :: st) H := rn_nx rfl rfl
theorem e_S_meetAll_64 : rn Ls xs d 177 64 [l0, l1, l2, l3, l4, l5] (.inr (.inl (some a)) :: st) (S, I, R) = if h_is S a 7 6 then rn Ls xs d 177 67 [l0, l1, l2, l3, l4, l5] (.inl (I a 1) :: st) (S, I, R) else none := rn_bc rfl rfl
theorem e_S_meetAll_67 : rn Ls xs d 177 67 [l0, l1, l2, l3, l4, l5] (.inl y :: .inl x :: st) H = if x ≠ y then rn Ls xs d 177 102 [l0, l1, l2, l3, l4, l5] st H else rn Ls xs d 177 70 [l0, l1, l2, l3, l4, l5] st H := rn_cmp (p := fun x y => x ≠ y) rfl
theorem e_S_meetAll_70 : rn Ls xs d 177 70 [l0, l1, l2, l3, l4, some (.inr u)] st H = rn Ls xs d 177 72 [l0, l1, l2, l3, l4, some (.inr u)] (.inr u :: st) H := rn_nx rfl rfl
theorem e_S_meetAll_72 : rn Ls xs d 177 72 [l0, l1, l2, l3, l4, l5] (.inr (.inl (some a)) :: st) (S, I, R) = if h_is S a 7 6 then rn Ls xs d 177 75 [l0, l1, l2, l3, l4, l5] (.inl (I a 5) :: st) (S, I, R) else none := rn_bc rfl rfl
theorem e_S_meetAll_75 : rn Ls xs d 177 75 [l0, l1, l2, l3, l4, l5] (.inl x :: st) H = if x = 0 then rn Ls xs d 177 102 [l0, l1, l2, l3, l4, l5] st H else rn Ls xs d 177 78 [l0, l1, l2, l3, l4, l5] st H := rn_if (p := fun x => x = 0) rfl
theorem e_S_meetAll_78 : rn Ls xs d 177 78 [some (.inr u), l1, l2, l3, l4, l5] st H = rn Ls xs d 177 79 [some (.inr u), l1, l2, l3, l4, l5] (.inr u :: st) H := rn_nx rfl rfl
theorem e_S_meetAll_79 : rn Ls xs d 177 79 [some (.inr u), l1, l2, l3, l4, l5] st H = rn Ls xs d 177 80 [some (.inr u), l1, l2, l3, l4, l5] (.inr u :: st) H := rn_nx rfl rfl
theorem e_S_meetAll_80 : rn Ls xs d 177 80 [l0, l1, l2, some (.inr u), l4, l5] st H = rn Ls xs d 177 81 [l0, l1, l2, some (.inr u), l4, l5] (.inr u :: st) H := rn_nx rfl rfl
theorem e_S_meetAll_81 : rn Ls xs (d + 1) 177 81 [l0, l1, l2, l3, l4, l5] [v1, (.inr (.inl (some a))), v2] (S, I, R) = if h_is S a 3 11 then rb Ls xs (d + 1) 177 84 [l0, l1, l2, l3, l4, l5] [v2] (rn Ls xs d 101 0 [some (.inr (.inl (some a))), some v1, none, none] [] (S, I, R)) else none := rn_callO rfl rfl (Nat.le_of_ble_eq_true rfl) rfl rfl
theorem e_S_meetAll_84 : rn Ls xs d 177 84 [some (.inr u), l1, l2, l3, l4, l5] st H = rn Ls xs d 177 85 [some (.inr u), l1, l2, l3, l4, l5] (.inr u :: st) H := rn_nx rfl rfl
theorem e_S_meetAll_85 : rn Ls xs d 177 85 [l0, l1, l2, l3, l4, some (.inr u)] st H = rn Ls xs d 177 87 [l0, l1, l2, l3, l4, some (.inr u)] (.inr u :: st) H := rn_nx rfl rfl
theorem e_S_meetAll_87 : rn Ls xs (d + 1) 177 87 [l0, l1, l2, l3, l4, l5] [v1, (.inr (.inl (some a))), v2, v3] (S, I, R) = if h_is S a 3 11 then rb Ls xs (d + 1) 177 90 [l0, l1, l2, l3, l4, l5] [v2, v3] (rn Ls xs d 101 0 [some (.inr (.inl (some a))), some v1, none, none] [] (S, I, R)) else none := rn_callO rfl rfl (Nat.le_of_ble_eq_true rfl) rfl rfl
theorem e_S_meetAll_90 : rn Ls xs d 177 90 [l0, l1, l2, l3, l4, l5] (.inl y :: .inl x :: st) H = if y ≤ x then rn Ls xs d 177 97 [l0, l1, l2, l3, l4, l5] st H else rn Ls xs d 177 93 [l0, l1, l2, l3, l4, l5] st H := rn_cmp (p := fun x y => y ≤ x) rfl
theorem e_S_meetAll_93 : rn Ls xs d 177 93 [l0, l1, l2, some (.inr u), l4, l5] st H = rn Ls xs d 177 94 [l0, l1, l2, some (.inr u), l4, l5] (.inr u :: st) H := rn_nx rfl rfl
theorem e_S_meetAll_94 : rn Ls xs d 177 94 [l0, l1, l2, l3, l4, l5] st H = rn Ls xs d 177 99 [l0, l1, l2, l3, l4, l5] st H := rn_nx rfl rfl
theorem e_S_meetAll_97 : rn Ls xs d 177 97 [l0, l1, l2, l3, l4, some (.inr u)] st H = rn Ls xs d 177 99 [l0, l1, l2, l3, l4, some (.inr u)] (.inr u :: st) H := rn_nx rfl rfl
theorem e_S_meetAll_99 : rn Ls xs (d + 1) 177 99 [l0, l1, l2, l3, l4, l5] [v1, (.inr (.inl (some a)))] (S, I, R) = if h_is S a 3 11 then rb Ls xs (d + 1) 177 102 [l0, l1, l2, l3, l4, l5] [] (rn Ls xs d 208 0 [some (.inr (.inl (some a))), some v1, none] [] (S, I, R)) else none := rn_callO rfl rfl (Nat.le_of_ble_eq_true rfl) rfl rfl
theorem e_S_meetAll_102 : rn Ls xs d 177 102 [l0, l1, l2, l3, some (.inl x), l5] st H = rn Ls xs d 177 105 [l0, l1, l2, l3, some (.inl (x + 1)), l5] st H := rn_nx rfl rfl
theorem e_S_meetAll_105 : rn Ls xs d 177 105 [l0, l1, l2, l3, l4, l5] st H = rn Ls xs d 177 24 [l0, l1, l2, l3, l4, l5] st H := rn_nx rfl rfl
theorem e_S_meetAll_108 : rn Ls xs d 177 108 [l0, l1, some (.inl x), l3, l4, l5] st H = rn Ls xs d 177 111 [l0, l1, some (.inl (x + 1)), l3, l4, l5] st H := rn_nx rfl rfl
theorem e_S_meetAll_111 : rn Ls xs d 177 111 [l0, l1, l2, l3, l4, l5] st H = rn Ls xs d 177 7 [l0, l1, l2, l3, l4, l5] st H := rn_nx rfl rfl
theorem e_S_meetAll_114 : rn Ls xs d 177 114 [l0, l1, l2, l3, l4, l5] [] H = some (none, H) := rn_done rfl rfl
theorem e_S_sinkByLot_0 : rn Ls xs d 178 0 [some (.inr u), l1] st H = rn Ls xs d 178 1 [some (.inr u), l1] (.inr u :: st) H := rn_nx rfl rfl
theorem e_S_sinkByLot_1 : rn Ls xs (d + 1) 178 1 [l0, l1] [(.inr (.inl (some a)))] (S, I, R) = if h_is S a 3 11 then rb Ls xs (d + 1) 178 4 [l0, l1] [] (rn Ls xs d 175 0 [some (.inr (.inl (some a)))] [] (S, I, R)) else none := rn_callO rfl rfl (Nat.le_of_ble_eq_true rfl) rfl rfl
theorem e_S_sinkByLot_4 : rn Ls xs d 178 4 [l0, l1]  st H = rn Ls xs d 178 6 [l0, l1] (.inl 100 :: st) H := rn_nx rfl rfl
theorem e_S_sinkByLot_6 : rn Ls xs d 178 6 [l0, l1] (.inl y :: .inl x :: st) H = if y = 0 then none else rn Ls xs d 178 7 [l0, l1] (.inl (x - x / y * y) :: st) H := rn_div (f := fun x y => x - x / y * y) rfl
theorem e_S_sinkByLot_7 : rn Ls xs d 178 7 [some (.inr u), l1] st H = rn Ls xs d 178 8 [some (.inr u), l1] (.inr u :: st) H := rn_nx rfl rfl
theorem e_S_sinkByLot_8 : rn Ls xs d 178 8 [l0, l1] (.inr (.inl (some a)) :: st) (S, I, R) = if h_is S a 3 11 then rn Ls xs d 178 11 [l0, l1] (.inl (I a 5) :: st) (S, I, R) else none := rn_bc rfl rfl
theorem e_S_sinkByLot_11 : rn Ls xs d 178 11 [l0, l1] (.inl y :: .inl x :: st) H = if y ≤ x then rn Ls xs d 178 21 [l0, l1] st H else rn Ls xs d 178 14 [l0, l1] st H := rn_cmp (p := fun x y => y ≤ x) rfl
theorem e_S_sinkByLot_14 : rn Ls xs d 178 14 [some (.inr u), l1] st H = rn Ls xs d 178 15 [some (.inr u), l1] (.inr u :: st) H := rn_nx rfl rfl
theorem e_S_sinkByLot_15 : rn Ls xs d 178 15 [l0, l1] (.inr (.inl (some a)) :: st) (S, I, R) = if h_is S a 3 11 then rn Ls xs d 178 18 [l0, l1] (.inl (I a 3) :: st) (S, I, R) else none := rn_bc rfl rfl
theorem e_S_sinkByLot_18 : rn Ls xs d 178 18 [l0, l1] (.inl x :: st) H = if x ≠ 0 then rn Ls xs d 178 22 [l0, l1] st H else rn Ls xs d 178 21 [l0, l1] st H := rn_if (p := fun x => x ≠ 0) rfl
theorem e_S_sinkByLot_21 : rn Ls xs d 178 21 [l0, l1] [] H = some (none, H) := rn_done rfl rfl
theorem e_S_sinkByLot_22 : rn Ls xs d 178 22 [some (.inr u), l1] st H = rn Ls xs d 178 23 [some (.inr u), l1] (.inr u :: st) H := rn_nx rfl rfl
theorem e_S_sinkByLot_23 : rn Ls xs d 178 23 [l0, l1] (.inr (.inl (some a)) :: st) (S, I, R) = if h_is S a 3 11 then rn Ls xs d 178 26 [l0, l1] (.inr (R a 0) :: st) (S, I, R) else none := rn_bc rfl rfl
theorem e_S_sinkByLot_26 : rn Ls xs d 178 26 [some (.inr u), l1] st H = rn Ls xs d 178 27 [some (.inr u), l1] (.inr u :: st) H := rn_nx rfl rfl
theorem e_S_sinkByLot_27 : rn Ls xs (d + 1) 178 27 [l0, l1] [(.inr (.inl (some a))), v1] (S, I, R) = if h_is S a 3 11 then rb Ls xs (d + 1) 178 30 [l0, l1] [v1] (rn Ls xs d 175 0 [some (.inr (.inl (some a)))] [] (S, I, R)) else none := rn_callO rfl rfl (Nat.le_of_ble_eq_true rfl) rfl rfl
theorem e_S_sinkByLot_30 : rn Ls xs d 178 30 [some (.inr u), l1] st H = rn Ls xs d 178 31 [some (.inr u), l1] (.inr u :: st) H := rn_nx rfl rfl
theorem e_S_sinkByLot_31 : rn Ls xs d 178 31 [l0, l1] (.inr (.inl (some a)) :: st) (S, I, R) = if h_is S a 3 11 then rn Ls xs d 178 34 [l0, l1] (.inl (I a 3) :: st) (S, I, R) else none := rn_bc rfl rfl
theorem e_S_sinkByLot_34 : rn Ls xs d 178 34 [l0, l1] (.inl y :: .inl x :: st) H = if y = 0 then none else rn Ls xs d 178 35 [l0, l1] (.inl (x - x / y * y) :: st) H := rn_div (f := fun x y => x - x / y * y) rfl
theorem e_S_sinkByLot_35 : rn Ls xs d 178 35 [l0, l1] (.inl i :: .inr (.inl (some a)) :: st) (S, I, R) = if h_ia S a 4 i then (match R a i.toNatClampNeg with | .inl o => rn Ls xs d 178 36 [l0, l1] (.inr (.inl o) :: st) (S, I, R) | .inr _ => none) else none := rn_aald rfl
theorem e_S_sinkByLot_36 : rn Ls xs d 178 36 [l0, l1] (.inr u :: st) H = rn Ls xs d 178 37 [l0, some (.inr u)] st H := rn_nx rfl rfl
theorem e_S_sinkByLot_37 : rn Ls xs d 178 37 [l0, some (.inr u)] st H = rn Ls xs d 178 38 [l0, some (.inr u)] (.inr u :: st) H := rn_nx rfl rfl
theorem e_S_sinkByLot_38 : rn Ls xs d 178 38 [l0, l1] (.inr (.inl (some a)) :: st) (S, I, R) = if h_is S a 7 6 then rn Ls xs d 178 41 [l0, l1] (.inl (I a 5) :: st) (S, I, R) else none := rn_bc rfl rfl
theorem e_S_sinkByLot_41 : rn Ls xs d 178 41 [l0, l1] (.inl x :: st) H = if x ≠ 0 then rn Ls xs d 178 45 [l0, l1] st H else rn Ls xs d 178 44 [l0, l1] st H := rn_if (p := fun x => x ≠ 0) rfl
theorem e_S_sinkByLot_44 : rn Ls xs d 178 44 [l0, l1] [] H = some (none, H) := rn_done rfl rfl
theorem e_S_sinkByLot_45 : rn Ls xs d 178 45 [l0, some (.inr u)] st H = rn Ls xs d 178 46 [l0, some (.inr u)] (.inr u :: st) H := rn_nx rfl rfl
theorem e_S_sinkByLot_46 : rn Ls xs d 178 46 [l0, l1] (.inr (.inl (some a)) :: st) (S, I, R) = if h_is S a 7 6 then rn Ls xs d 178 49 [l0, l1] (.inl (I a 1) :: st) (S, I, R) else none := rn_bc rfl rfl
theorem e_S_sinkByLot_49 : rn Ls xs d 178 49 [l0, l1] (.inl x :: st) H = if x ≤ 0 then rn Ls xs d 178 65 [l0, l1] st H else rn Ls xs d 178 52 [l0, l1] st H := rn_if (p := fun x => x ≤ 0) rfl
theorem e_S_sinkByLot_52 : rn Ls xs d 178 52 [l0, some (.inr u)] st H = rn Ls xs d 178 53 [l0, some (.inr u)] (.inr u :: st) H := rn_nx rfl rfl
theorem e_S_sinkByLot_53 : rn Ls xs d 178 53 [l0, l1] (v :: st) H = rn Ls xs d 178 54 [l0, l1] (v :: v :: st) H := rn_nx rfl rfl
theorem e_S_sinkByLot_54 : rn Ls xs d 178 54 [l0, l1] (.inr (.inl (some a)) :: st) (S, I, R) = if h_is S a 7 6 then rn Ls xs d 178 57 [l0, l1] (.inl (I a 1) :: st) (S, I, R) else none := rn_bc rfl rfl
theorem e_S_sinkByLot_57 : rn Ls xs d 178 57 [l0, l1]  st H = rn Ls xs d 178 58 [l0, l1] (.inl 1 :: st) H := rn_nx rfl rfl
theorem e_S_sinkByLot_58 : rn Ls xs d 178 58 [l0, l1] (.inl y :: .inl x :: st) H = rn Ls xs d 178 59 [l0, l1] (.inl (x - y) :: st) H := rn_nx rfl rfl
theorem e_S_sinkByLot_59 : rn Ls xs d 178 59 [l0, l1] (.inl x :: .inr (.inl (some a)) :: st) (S, I, R) = if h_is S a 7 6 then rn Ls xs d 178 62 [l0, l1] st (S, va_up I a (upd (I a) 1 x), R) else none := rn_bc rfl rfl
theorem e_S_sinkByLot_62 : rn Ls xs d 178 62 [l0, l1] st H = rn Ls xs d 178 80 [l0, l1] st H := rn_nx rfl rfl
theorem e_S_sinkByLot_65 : rn Ls xs d 178 65 [l0, some (.inr u)] st H = rn Ls xs d 178 66 [l0, some (.inr u)] (.inr u :: st) H := rn_nx rfl rfl
theorem e_S_sinkByLot_66 : rn Ls xs d 178 66 [l0, l1]  st H = rn Ls xs d 178 67 [l0, l1] (.inl 0 :: st) H := rn_nx rfl rfl
theorem e_S_sinkByLot_67 : rn Ls xs d 178 67 [l0, l1] (.inl x :: .inr (.inl (some a)) :: st) (S, I, R) = if h_is S a 7 6 && h_bo x then rn Ls xs d 178 70 [l0, l1] st (S, va_up I a (upd (I a) 5 x), R) else none := rn_bc rfl rfl
theorem e_S_sinkByLot_70 : rn Ls xs d 178 70 [some (.inr u), l1] st H = rn Ls xs d 178 71 [some (.inr u), l1] (.inr u :: st) H := rn_nx rfl rfl
theorem e_S_sinkByLot_71 : rn Ls xs d 178 71 [l0, l1] (v :: st) H = rn Ls xs d 178 72 [l0, l1] (v :: v :: st) H := rn_nx rfl rfl
theorem e_S_sinkByLot_72 : rn Ls xs d 178 72 [l0, l1] (.inr (.inl (some a)) :: st) (S, I, R) = if h_is S a 3 11 then rn Ls xs d 178 75 [l0, l1] (.inl (I a 7) :: st) (S, I, R) else none := rn_bc rfl rfl
theorem e_S_sinkByLot_75 : rn Ls xs d 178 75 [l0, l1]  st H = rn Ls xs d 178 76 [l0, l1] (.inl 1 :: st) H := rn_nx rfl rfl
theorem e_S_sinkByLot_76 : rn Ls xs d 178 76 [l0, l1] (.inl y :: .inl x :: st) H = rn Ls xs d 178 77 [l0, l1] (.inl (x + y) :: st) H := rn_nx rfl rfl
theorem e_S_sinkByLot_77 : rn Ls xs d 178 77 [l0, l1] (.inl x :: .inr (.inl (some a)) :: st) (S, I, R) = if h_is S a 3 11 then rn Ls xs d 178 80 [l0, l1] st (S, va_up I a (upd (I a) 7 x), R) else none := rn_bc rfl rfl
theorem e_S_sinkByLot_80 : rn Ls xs d 178 80 [l0, l1] [] H = some (none, H) := rn_done rfl rfl
theorem e_M_doMeet_0 : rn Ls xs d 179 0 [some (.inr u), l1, l2] st H = rn Ls xs d 179 1 [some (.inr u), l1, l2] (.inr u :: st) H := rn_nx rfl rfl
theorem e_M_doMeet_1 : rn Ls xs d 179 1 [l0, some (.inl x), l2] st H = rn Ls xs d 179 2 [l0, some (.inl x), l2] (.inl x :: st) H := rn_nx rfl rfl
theorem e_M_doMeet_2 : rn Ls xs (d + 1) 179 2 [l0, l1, l2] [v1, (.inr (.inl (some a)))] (S, I, R) = if h_is S a 9 36 then rb Ls xs (d + 1) 179 5 [l0, l1, l2] [] (rn Ls xs d 113 0 [some (.inr (.inl (some a))), some v1] [] (S, I, R)) else none := rn_callO rfl rfl (Nat.le_of_ble_eq_true rfl) rfl rfl
theorem e_M_doMeet_5 : rn Ls xs d 179 5 [l0, l1, l2] (.inl x :: st) H = if x = 0 then rn Ls xs d 179 50 [l0, l1, l2] st H else rn Ls xs d 179 8 [l0, l1, l2] st H := rn_if (p := fun x => x = 0) rfl
theorem e_M_doMeet_8 : rn Ls xs d 179 8 [some (.inr u), l1, l2] st H = rn Ls xs d 179 9 [some (.inr u), l1, l2] (.inr u :: st) H := rn_nx rfl rfl
theorem e_M_doMeet_9 : rn Ls xs d 179 9 [l0, l1, some (.inl x)] st H = rn Ls xs d 179 10 [l0, l1, some (.inl x)] (.inl x :: st) H := rn_nx rfl rfl
theorem e_M_doMeet_10 : rn Ls xs (d + 1) 179 10 [l0, l1, l2] [v1, (.inr (.inl (some a)))] (S, I, R) = if h_is S a 9 36 then rb Ls xs (d + 1) 179 13 [l0, l1, l2] [] (rn Ls xs d 113 0 [some (.inr (.inl (some a))), some v1] [] (S, I, R)) else none := rn_callO rfl rfl (Nat.le_of_ble_eq_true rfl) rfl rfl
theorem e_M_doMeet_13 : rn Ls xs d 179 13 [l0, l1, l2] (.inl x :: st) H = if x = 0 then rn Ls xs d 179 50 [l0, l1, l2] st H else rn Ls xs d 179 16 [l0, l1, l2] st H := rn_if (p := fun x => x = 0) rfl
theorem e_M_doMeet_16 : rn Ls xs d 179 16 [some (.inr u), l1, l2] st H = rn Ls xs d 179 17 [some (.inr u), l1, l2] (.inr u :: st) H := rn_nx rfl rfl
theorem e_M_doMeet_17 : rn Ls xs d 179 17 [l0, some (.inl x), l2] st H = rn Ls xs d 179 18 [l0, some (.inl x), l2] (.inl x :: st) H := rn_nx rfl rfl
theorem e_M_doMeet_18 : rn Ls xs d 179 18 [l0, l1, l2]  st H = rn Ls xs d 179 19 [l0, l1, l2] (.inl 1 :: st) H := rn_nx rfl rfl
theorem e_M_doMeet_19 : rn Ls xs (d + 1) 179 19 [l0, l1, l2] [v2, v1, (.inr (.inl (some a)))] (S, I, R) = if h_is S a 9 36 then rb Ls xs (d + 1) 179 22 [l0, l1, l2] [] (rn Ls xs d 105 0 [some (.inr (.inl (some a))), some v1, some v2] [] (S, I, R)) else none := rn_callO rfl rfl (Nat.le_of_ble_eq_true rfl) rfl rfl
theorem e_M_doMeet_22 : rn Ls xs d 179 22 [some (.inr u), l1, l2] st H = rn Ls xs d 179 23 [some (.inr u), l1, l2] (.inr u :: st) H := rn_nx rfl rfl
theorem e_M_doMeet_23 : rn Ls xs d 179 23 [l0, l1, some (.inl x)] st H = rn Ls xs d 179 24 [l0, l1, some (.inl x)] (.inl x :: st) H := rn_nx rfl rfl
theorem e_M_doMeet_24 : rn Ls xs d 179 24 [l0, l1, l2]  st H = rn Ls xs d 179 25 [l0, l1, l2] (.inl 1 :: st) H := rn_nx rfl rfl
theorem e_M_doMeet_25 : rn Ls xs (d + 1) 179 25 [l0, l1, l2] [v2, v1, (.inr (.inl (some a))), v3] (S, I, R) = if h_is S a 9 36 then rb Ls xs (d + 1) 179 28 [l0, l1, l2] [v3] (rn Ls xs d 105 0 [some (.inr (.inl (some a))), some v1, some v2] [] (S, I, R)) else none := rn_callO rfl rfl (Nat.le_of_ble_eq_true rfl) rfl rfl
theorem e_M_doMeet_28 : rn Ls xs d 179 28 [l0, l1, l2] (.inl y :: .inl x :: st) H = if x ≠ y then rn Ls xs d 179 50 [l0, l1, l2] st H else rn Ls xs d 179 31 [l0, l1, l2] st H := rn_cmp (p := fun x y => x ≠ y) rfl
theorem e_M_doMeet_31 : rn Ls xs d 179 31 [some (.inr u), l1, l2] st H = rn Ls xs d 179 32 [some (.inr u), l1, l2] (.inr u :: st) H := rn_nx rfl rfl
theorem e_M_doMeet_32 : rn Ls xs d 179 32 [l0, some (.inl x), l2] st H = rn Ls xs d 179 33 [l0, some (.inl x), l2] (.inl x :: st) H := rn_nx rfl rfl
theorem e_M_doMeet_33 : rn Ls xs d 179 33 [l0, l1, l2]  st H = rn Ls xs d 179 34 [l0, l1, l2] (.inl 2 :: st) H := rn_nx rfl rfl
theorem e_M_doMeet_34 : rn Ls xs (d + 1) 179 34 [l0, l1, l2] [v2, v1, (.inr (.inl (some a)))] (S, I, R) = if h_is S a 9 36 then rb Ls xs (d + 1) 179 37 [l0, l1, l2] [] (rn Ls xs d 105 0 [some (.inr (.inl (some a))), some v1, some v2] [] (S, I, R)) else none := rn_callO rfl rfl (Nat.le_of_ble_eq_true rfl) rfl rfl
theorem e_M_doMeet_37 : rn Ls xs d 179 37 [some (.inr u), l1, l2] st H = rn Ls xs d 179 38 [some (.inr u), l1, l2] (.inr u :: st) H := rn_nx rfl rfl
theorem e_M_doMeet_38 : rn Ls xs d 179 38 [l0, l1, some (.inl x)] st H = rn Ls xs d 179 39 [l0, l1, some (.inl x)] (.inl x :: st) H := rn_nx rfl rfl
theorem e_M_doMeet_39 : rn Ls xs d 179 39 [l0, l1, l2]  st H = rn Ls xs d 179 40 [l0, l1, l2] (.inl 2 :: st) H := rn_nx rfl rfl
theorem e_M_doMeet_40 : rn Ls xs (d + 1) 179 40 [l0, l1, l2] [v2, v1, (.inr (.inl (some a))), v3] (S, I, R) = if h_is S a 9 36 then rb Ls xs (d + 1) 179 43 [l0, l1, l2] [v3] (rn Ls xs d 105 0 [some (.inr (.inl (some a))), some v1, some v2] [] (S, I, R)) else none := rn_callO rfl rfl (Nat.le_of_ble_eq_true rfl) rfl rfl
theorem e_M_doMeet_43 : rn Ls xs d 179 43 [l0, l1, l2] (.inl y :: .inl x :: st) H = if x ≠ y then rn Ls xs d 179 50 [l0, l1, l2] st H else rn Ls xs d 179 46 [l0, l1, l2] st H := rn_cmp (p := fun x y => x ≠ y) rfl
theorem e_M_doMeet_46 : rn Ls xs d 179 46 [l0, l1, l2]  st H = rn Ls xs d 179 47 [l0, l1, l2] (.inl 1 :: st) H := rn_nx rfl rfl
theorem e_M_doMeet_47 : rn Ls xs d 179 47 [l0, l1, l2] st H = rn Ls xs d 179 51 [l0, l1, l2] st H := rn_nx rfl rfl
theorem e_M_doMeet_50 : rn Ls xs d 179 50 [l0, l1, l2]  st H = rn Ls xs d 179 51 [l0, l1, l2] (.inl 0 :: st) H := rn_nx rfl rfl
theorem e_M_doMeet_51 : rn Ls xs d 179 51 [l0, l1, l2] [.inl x] H = if h_bo x then some (some (.inl x), H) else none := rn_zret rfl
theorem e_M_breaks_0 : rn Ls xs d 180 0 [some (.inr u), l1, l2, l3] st H = rn Ls xs d 180 1 [some (.inr u), l1, l2, l3] (.inr u :: st) H := rn_nx rfl rfl
theorem e_M_breaks_1 : rn Ls xs d 180 1 [l0, l1, l2, l3] (.inr (.inl (some a)) :: st) (S, I, R) = if h_is S a 9 36 then rn Ls xs d 180 4 [l0, l1, l2, l3] (.inr (R a 0) :: st) (S, I, R) else none := rn_bc rfl rfl
theorem e_M_breaks_4 : rn Ls xs d 180 4 [l0, l1, l2, l3]  st H = rn Ls xs d 180 5 [l0, l1, l2, l3] (.inl 4 :: st) H := rn_nx rfl rfl
theorem e_M_breaks_5 : rn Ls xs d 180 5 [l0, l1, l2, l3] (v :: w :: st) H = rn Ls xs d 180 6 [l0, l1, l2, l3] (v :: w :: v :: w :: st) H := rn_nx rfl rfl
theorem e_M_breaks_6 : rn Ls xs d 180 6 [l0, l1, l2, l3] (.inl i :: .inr (.inl (some a)) :: st) (S, I, R) = if h_ia S a 0 i then rn Ls xs d 180 7 [l0, l1, l2, l3] (.inl (I a i.toNatClampNeg) :: st) (S, I, R) else none := rn_bc rfl rfl
theorem e_M_breaks_7 : rn Ls xs d 180 7 [l0, l1, l2, l3]  st H = rn Ls xs d 180 8 [l0, l1, l2, l3] (.inl 1 :: st) H := rn_nx rfl rfl
theorem e_M_breaks_8 : rn Ls xs d 180 8 [l0, l1, l2, l3] (.inl y :: .inl x :: st) H = rn Ls xs d 180 9 [l0, l1, l2, l3] (.inl (x + y) :: st) H := rn_nx rfl rfl
theorem e_M_breaks_9 : rn Ls xs d 180 9 [l0, l1, l2, l3] (.inl x :: .inl i :: .inr (.inl (some a)) :: st) (S, I, R) = if h_ia S a 0 i then rn Ls xs d 180 10 [l0, l1, l2, l3] st (S, va_up I a (upd (I a) i.toNatClampNeg x), R) else none := rn_bc rfl rfl
theorem e_M_breaks_10 : rn Ls xs d 180 10 [some (.inr u), l1, l2, l3] st H = rn Ls xs d 180 11 [some (.inr u), l1, l2, l3] (.inr u :: st) H := rn_nx rfl rfl
theorem e_M_breaks_11 : rn Ls xs d 180 11 [l0, some (.inl x), l2, l3] st H = rn Ls xs d 180 12 [l0, some (.inl x), l2, l3] (.inl x :: st) H := rn_nx rfl rfl
theorem e_M_breaks_12 : rn Ls xs d 180 12 [l0, l1, l2, l3]  st H = rn Ls xs d 180 13 [l0, l1, l2, l3] (.inl 4 :: st) H := rn_nx rfl rfl
theorem e_M_breaks_13 : rn Ls xs (d + 1) 180 13 [l0, l1, l2, l3] [v2, v1, (.inr (.inl (some a)))] (S, I, R) = if h_is S a 9 36 then rb Ls xs (d + 1) 180 16 [l0, l1, l2, l3] [] (rn Ls xs d 105 0 [some (.inr (.inl (some a))), some v1, some v2] [] (S, I, R)) else none := rn_callO rfl rfl (Nat.le_of_ble_eq_true rfl) rfl rfl
theorem e_M_breaks_16 : rn Ls xs d 180 16 [l0, l1, l2, l3] (.inl x :: st) H = rn Ls xs d 180 17 [l0, l1, some (.inl x), l3] st H := rn_nx rfl rfl
theorem e_M_breaks_17 : rn Ls xs d 180 17 [l0, l1, some (.inl x), l3] st H = rn Ls xs d 180 18 [l0, l1, some (.inl x), l3] (.inl x :: st) H := rn_nx rfl rfl
theorem e_M_breaks_18 : rn Ls xs d 180 18 [l0, l1, l2, l3]  st H = rn Ls xs d 180 19 [l0, l1, l2, l3] (.inl 1 :: st) H := rn_nx rfl rfl
theorem e_M_breaks_19 : rn Ls xs d 180 19 [l0, l1, l2, l3] (.inl y :: .inl x :: st) H = if x ≠ y then rn Ls xs d 180 30 [l0, l1, l2, l3] st H else rn Ls xs d 180 22 [l0, l1, l2, l3] st H := rn_cmp (p := fun x y => x ≠ y) rfl
theorem e_M_breaks_22 : rn Ls xs d 180 22 [some (.inr u), l1, l2, l3] st H = rn Ls xs d 180 23 [some (.inr u), l1, l2, l3] (.inr u :: st) H := rn_nx rfl rfl
theorem e_M_breaks_23 : rn Ls xs d 180 23 [l0, some (.inl x), l2, l3] st H = rn Ls xs d 180 24 [l0, some (.inl x), l2, l3] (.inl x :: st) H := rn_nx rfl rfl
theorem e_M_breaks_24 : rn Ls xs d 180 24 [l0, l1, l2, l3]  st H = rn Ls xs d 180 25 [l0, l1, l2, l3] (.inl 5 :: st) H := rn_nx rfl rfl
theorem e_M_breaks_25 : rn Ls xs d 180 25 [l0, l1, l2, l3]  st H = rn Ls xs d 180 26 [l0, l1, l2, l3] (.inl 0 :: st) H := rn_nx rfl rfl
theorem e_M_breaks_26 : rn Ls xs (d + 1) 180 26 [l0, l1, l2, l3] [v3, v2, v1, (.inr (.inl (some a)))] (S, I, R) = if h_is S a 9 36 then rb Ls xs (d + 1) 180 29 [l0, l1, l2, l3] [] (rn Ls xs d 114 0 [some (.inr (.inl (some a))), some v1, some v2, some v3] [] (S, I, R)) else none := rn_callO rfl rfl (Nat.le_of_ble_eq_true rfl) rfl rfl
theorem e_M_breaks_29 : rn Ls xs d 180 29 [l0, l1, l2, l3] [] H = some (none, H) := rn_done rfl rfl
theorem e_M_breaks_30 : rn Ls xs d 180 30 [some (.inr u), l1, l2, l3] st H = rn Ls xs d 180 31 [some (.inr u), l1, l2, l3] (.inr u :: st) H := rn_nx rfl rfl
theorem e_M_breaks_31 : rn Ls xs d 180 31 [l0, some (.inl x), l2, l3] st H = rn Ls xs d 180 32 [l0, some (.inl x), l2, l3] (.inl x :: st) H := rn_nx rfl rfl
theorem e_M_breaks_32 : rn Ls xs d 180 32 [l0, l1, l2, l3]  st H = rn Ls xs d 180 33 [l0, l1, l2, l3] (.inl 4 :: st) H := rn_nx rfl rfl
theorem e_M_breaks_33 : rn Ls xs d 180 33 [l0, l1, some (.inl x), l3] st H = rn Ls xs d 180 34 [l0, l1, some (.inl x), l3] (.inl x :: st) H := rn_nx rfl rfl
theorem e_M_breaks_34 : rn Ls xs d 180 34 [l0, l1, l2, l3]  st H = rn Ls xs d 180 35 [l0, l1, l2, l3] (.inl 2 :: st) H := rn_nx rfl rfl
theorem e_M_breaks_35 : rn Ls xs d 180 35 [l0, l1, l2, l3] (.inl y :: .inl x :: st) H = if y = 0 then none else rn Ls xs d 180 36 [l0, l1, l2, l3] (.inl (x / y) :: st) H := rn_div (f := fun x y => x / y) rfl
theorem e_M_breaks_36 : rn Ls xs (d + 1) 180 36 [l0, l1, l2, l3] [v3, v2, v1, (.inr (.inl (some a)))] (S, I, R) = if h_is S a 9 36 then rb Ls xs (d + 1) 180 39 [l0, l1, l2, l3] [] (rn Ls xs d 114 0 [some (.inr (.inl (some a))), some v1, some v2, some v3] [] (S, I, R)) else none := rn_callO rfl rfl (Nat.le_of_ble_eq_true rfl) rfl rfl
theorem e_M_breaks_39 : rn Ls xs d 180 39 [some (.inr u), l1, l2, l3] st H = rn Ls xs d 180 40 [some (.inr u), l1, l2, l3] (.inr u :: st) H := rn_nx rfl rfl
theorem e_M_breaks_40 : rn Ls xs d 180 40 [l0, l1, l2, l3] (.inr (.inl (some a)) :: st) (S, I, R) = if h_is S a 9 36 then rn Ls xs d 180 43 [l0, l1, l2, l3] (.inr (R a 0) :: st) (S, I, R) else none := rn_bc rfl rfl
theorem e_M_breaks_43 : rn Ls xs d 180 43 [l0, l1, l2, l3]  st H = rn Ls xs d 180 44 [l0, l1, l2, l3] (.inl 1 :: st) H := rn_nx rfl rfl
theorem e_M_breaks_44 : rn Ls xs d 180 44 [l0, l1, l2, l3] (.inl i :: .inr (.inl (some a)) :: st) (S, I, R) = if h_ia S a 0 i then rn Ls xs d 180 45 [l0, l1, l2, l3] (.inl (I a i.toNatClampNeg) :: st) (S, I, R) else none := rn_bc rfl rfl
theorem e_M_breaks_45 : rn Ls xs d 180 45 [l0, l1, l2, l3]  st H = rn Ls xs d 180 47 [l0, l1, l2, l3] (.inl 14 :: st) H := rn_nx rfl rfl
theorem e_M_breaks_47 : rn Ls xs d 180 47 [l0, l1, l2, l3] (.inl y :: .inl x :: st) H = if y ≤ x then rn Ls xs d 180 88 [l0, l1, l2, l3] st H else rn Ls xs d 180 50 [l0, l1, l2, l3] st H := rn_cmp (p := fun x y => y ≤ x) rfl
theorem e_M_breaks_50 : rn Ls xs d 180 50 [some (.inr u), l1, l2, l3] st H = rn Ls xs d 180 51 [some (.inr u), l1, l2, l3] (.inr u :: st) H := rn_nx rfl rfl
theorem e_M_breaks_51 : rn Ls xs d 180 51 [l0, l1, l2, l3]  st H = rn Ls xs d 180 52 [l0, l1, l2, l3] (.inl 2 :: st) H := rn_nx rfl rfl
theorem e_M_breaks_52 : rn Ls xs d 180 52 [some (.inr u), l1, l2, l3] st H = rn Ls xs d 180 53 [some (.inr u), l1, l2, l3] (.inr u :: st) H := rn_nx rfl rfl
theorem e_M_breaks_53 : rn Ls xs d 180 53 [l0, some (.inl x), l2, l3] st H = rn Ls xs d 180 54 [l0, some (.inl x), l2, l3] (.inl x :: st) H := rn_nx rfl rfl
theorem e_M_breaks_54 : rn Ls xs d 180 54 [l0, l1, l2, l3]  st H = rn Ls xs d 180 55 [l0, l1, l2, l3] (.inl 1 :: st) H := rn_nx rfl rfl
theorem e_M_breaks_55 : rn Ls xs (d + 1) 180 55 [l0, l1, l2, l3] [v2, v1, (.inr (.inl (some a))), v3, v4] (S, I, R) = if h_is S a 9 36 then rb Ls xs (d + 1) 180 58 [l0, l1, l2, l3] [v3, v4] (rn Ls xs d 105 0 [some (.inr (.inl (some a))), some v1, some v2] [] (S, I, R)) else none := rn_callO rfl rfl (Nat.le_of_ble_eq_true rfl) rfl rfl
theorem e_M_breaks_58 : rn Ls xs d 180 58 [some (.inr u), l1, l2, l3] st H = rn Ls xs d 180 59 [some (.inr u), l1, l2, l3] (.inr u :: st) H := rn_nx rfl rfl
theorem e_M_breaks_59 : rn Ls xs d 180 59 [l0, some (.inl x), l2, l3] st H = rn Ls xs d 180 60 [l0, some (.inl x), l2, l3] (.inl x :: st) H := rn_nx rfl rfl
theorem e_M_breaks_60 : rn Ls xs d 180 60 [l0, l1, l2, l3]  st H = rn Ls xs d 180 61 [l0, l1, l2, l3] (.inl 2 :: st) H := rn_nx rfl rfl
theorem e_M_breaks_61 : rn Ls xs (d + 1) 180 61 [l0, l1, l2, l3] [v2, v1, (.inr (.inl (some a))), v3, v4, v5] (S, I, R) = if h_is S a 9 36 then rb Ls xs (d + 1) 180 64 [l0, l1, l2, l3] [v3, v4, v5] (rn Ls xs d 105 0 [some (.inr (.inl (some a))), some v1, some v2] [] (S, I, R)) else none := rn_callO rfl rfl (Nat.le_of_ble_eq_true rfl) rfl rfl
theorem e_M_breaks_64 : rn Ls xs d 180 64 [some (.inr u), l1, l2, l3] st H = rn Ls xs d 180 65 [some (.inr u), l1, l2, l3] (.inr u :: st) H := rn_nx rfl rfl
theorem e_M_breaks_65 : rn Ls xs d 180 65 [l0, some (.inl x), l2, l3] st H = rn Ls xs d 180 66 [l0, some (.inl x), l2, l3] (.inl x :: st) H := rn_nx rfl rfl
theorem e_M_breaks_66 : rn Ls xs d 180 66 [l0, l1, l2, l3]  st H = rn Ls xs d 180 67 [l0, l1, l2, l3] (.inl 3 :: st) H := rn_nx rfl rfl
theorem e_M_breaks_67 : rn Ls xs (d + 1) 180 67 [l0, l1, l2, l3] [v2, v1, (.inr (.inl (some a))), v3, v4, v5, v6] (S, I, R) = if h_is S a 9 36 then rb Ls xs (d + 1) 180 70 [l0, l1, l2, l3] [v3, v4, v5, v6] (rn Ls xs d 105 0 [some (.inr (.inl (some a))), some v1, some v2] [] (S, I, R)) else none := rn_callO rfl rfl (Nat.le_of_ble_eq_true rfl) rfl rfl
theorem e_M_breaks_70 : rn Ls xs d 180 70 [l0, l1, l2, l3]  st H = rn Ls xs d 180 71 [l0, l1, l2, l3] (.inl 1 :: st) H := rn_nx rfl rfl
theorem e_M_breaks_71 : rn Ls xs d 180 71 [l0, l1, l2, l3] (.inl y :: .inl x :: st) H = rn Ls xs d 180 72 [l0, l1, l2, l3] (.inl (x + y) :: st) H := rn_nx rfl rfl
theorem e_M_breaks_72 : rn Ls xs d 180 72 [l0, l1, l2, l3]  st H = rn Ls xs d 180 74 [l0, l1, l2, l3] (.inl (-9) :: st) H := rn_nx rfl rfl
theorem e_M_breaks_74 : rn Ls xs d 180 74 [l0, l1, l2, l3]  st H = rn Ls xs d 180 76 [l0, l1, l2, l3] (.inl 9 :: st) H := rn_nx rfl rfl
theorem e_M_breaks_76 : rn Ls xs (d + 1) 180 76 [l0, l1, l2, l3] [v2, v1, v0, v3, v4, v5, v6] H = rb Ls xs (d + 1) 180 79 [l0, l1, l2, l3] [v3, v4, v5, v6] (rn Ls xs d 120 0 [some v0, some v1, some v2] [] H) := rn_call rfl (Nat.le_of_ble_eq_true rfl) (Nat.le_of_ble_eq_true rfl) rfl rfl
theorem e_M_breaks_79 : rn Ls xs d 180 79 [l0, l1, some (.inl x), l3] st H = rn Ls xs d 180 80 [l0, l1, some (.inl x), l3] (.inl x :: st) H := rn_nx rfl rfl
theorem e_M_breaks_80 : rn Ls xs d 180 80 [l0, l1, some (.inl x), l3] st H = rn Ls xs d 180 81 [l0, l1, some (.inl x), l3] (.inl x :: st) H := rn_nx rfl rfl
theorem e_M_breaks_81 : rn Ls xs d 180 81 [l0, l1, l2, l3]  st H = rn Ls xs d 180 82 [l0, l1, l2, l3] (.inl 2 :: st) H := rn_nx rfl rfl
theorem e_M_breaks_82 : rn Ls xs d 180 82 [l0, l1, l2, l3] (.inl y :: .inl x :: st) H = if y = 0 then none else rn Ls xs d 180 83 [l0, l1, l2, l3] (.inl (x / y) :: st) H := rn_div (f := fun x y => x / y) rfl
theorem e_M_breaks_83 : rn Ls xs d 180 83 [l0, l1, l2, l3] (.inl y :: .inl x :: st) H = rn Ls xs d 180 84 [l0, l1, l2, l3] (.inl (x - y) :: st) H := rn_nx rfl rfl
theorem e_M_breaks_84 : rn Ls xs (d + 1) 180 84 [l0, l1, l2, l3] [v5, v4, v3, v2, v1, (.inr (.inl (some a)))] (S, I, R) = if h_is S a 9 36 then rb Ls xs (d + 1) 180 87 [l0, l1, l2, l3] [] (rn Ls xs d 99 0 [some (.inr (.inl (some a))), some v1, some v2, some v3, some v4, some v5, none] [] (S, I, R)) else none := rn_callO rfl rfl (Nat.le_of_ble_eq_true rfl) rfl rfl
theorem e_M_breaks_87 : rn Ls xs d 180 87 [l0, l1, l2, l3] (.inl x :: st) H = rn Ls xs d 180 88 [l0, l1, l2, some (.inl x)] st H := rn_nx rfl rfl
theorem e_M_breaks_88 : rn Ls xs d 180 88 [l0, l1, l2, l3] [] H = some (none, H) := rn_done rfl rfl
theorem e_M_sinks_0 : rn Ls xs d 181 0 [some (.inr u), l1] st H = rn Ls xs d 181 1 [some (.inr u), l1] (.inr u :: st) H := rn_nx rfl rfl
theorem e_M_sinks_1 : rn Ls xs d 181 1 [l0, some (.inl x)] st H = rn Ls xs d 181 2 [l0, some (.inl x)] (.inl x :: st) H := rn_nx rfl rfl
theorem e_M_sinks_2 : rn Ls xs (d + 1) 181 2 [l0, l1] [v1, (.inr (.inl (some a)))] (S, I, R) = if h_is S a 9 36 then rb Ls xs (d + 1) 181 5 [l0, l1] [] (rn Ls xs d 113 0 [some (.inr (.inl (some a))), some v1] [] (S, I, R)) else none := rn_callO rfl rfl (Nat.le_of_ble_eq_true rfl) rfl rfl
theorem e_M_sinks_5 : rn Ls xs d 181 5 [l0, l1] (.inl x :: st) H = if x ≠ 0 then rn Ls xs d 181 9 [l0, l1] st H else rn Ls xs d 181 8 [l0, l1] st H := rn_if (p := fun x => x ≠ 0) rfl
theorem e_M_sinks_8 : rn Ls xs d 181 8 [l0, l1] [] H = some (none, H) := rn_done rfl rfl
theorem e_M_sinks_9 : rn Ls xs d 181 9 [some (.inr u), l1] st H = rn Ls xs d 181 10 [some (.inr u), l1] (.inr u :: st) H := rn_nx rfl rfl
theorem e_M_sinks_10 : rn Ls xs d 181 10 [l0, some (.inl x)] st H = rn Ls xs d 181 11 [l0, some (.inl x)] (.inl x :: st) H := rn_nx rfl rfl
theorem e_M_sinks_11 : rn Ls xs d 181 11 [l0, l1]  st H = rn Ls xs d 181 12 [l0, l1] (.inl 1 :: st) H := rn_nx rfl rfl
theorem e_M_sinks_12 : rn Ls xs (d + 1) 181 12 [l0, l1] [v2, v1, (.inr (.inl (some a)))] (S, I, R) = if h_is S a 9 36 then rb Ls xs (d + 1) 181 15 [l0, l1] [] (rn Ls xs d 105 0 [some (.inr (.inl (some a))), some v1, some v2] [] (S, I, R)) else none := rn_callO rfl rfl (Nat.le_of_ble_eq_true rfl) rfl rfl
theorem e_M_sinks_15 : rn Ls xs d 181 15 [l0, l1] (.inl x :: st) H = if x ≠ 0 then rn Ls xs d 181 38 [l0, l1] st H else rn Ls xs d 181 18 [l0, l1] st H := rn_if (p := fun x => x ≠ 0) rfl
theorem e_M_sinks_18 : rn Ls xs d 181 18 [some (.inr u), l1] st H = rn Ls xs d 181 19 [some (.inr u), l1] (.inr u :: st) H := rn_nx rfl rfl
theorem e_M_sinks_19 : rn Ls xs d 181 19 [l0, some (.inl x)] st H = rn Ls xs d 181 20 [l0, some (.inl x)] (.inl x :: st) H := rn_nx rfl rfl
theorem e_M_sinks_20 : rn Ls xs d 181 20 [l0, l1]  st H = rn Ls xs d 181 21 [l0, l1] (.inl 5 :: st) H := rn_nx rfl rfl
theorem e_M_sinks_21 : rn Ls xs d 181 21 [l0, l1]  st H = rn Ls xs d 181 22 [l0, l1] (.inl 0 :: st) H := rn_nx rfl rfl
theorem e_M_sinks_22 : rn Ls xs (d + 1) 181 22 [l0, l1] [v3, v2, v1, (.inr (.inl (some a)))] (S, I, R) = if h_is S a 9 36 then rb Ls xs (d + 1) 181 25 [l0, l1] [] (rn Ls xs d 114 0 [some (.inr (.inl (some a))), some v1, some v2, some v3] [] (S, I, R)) else none := rn_callO rfl rfl (Nat.le_of_ble_eq_true rfl) rfl rfl
theorem e_M_sinks_25 : rn Ls xs d 181 25 [some (.inr u), l1] st H = rn Ls xs d 181 26 [some (.inr u), l1] (.inr u :: st) H := rn_nx rfl rfl
theorem e_M_sinks_26 : rn Ls xs d 181 26 [l0, l1] (.inr (.inl (some a)) :: st) (S, I, R) = if h_is S a 9 36 then rn Ls xs d 181 29 [l0, l1] (.inr (R a 0) :: st) (S, I, R) else none := rn_bc rfl rfl
theorem e_M_sinks_29 : rn Ls xs d 181 29 [l0, l1]  st H = rn Ls xs d 181 30 [l0, l1] (.inl 5 :: st) H := rn_nx rfl rfl
theorem e_M_sinks_30 : rn Ls xs d 181 30 [l0, l1] (v :: w :: st) H = rn Ls xs d 181 31 [l0, l1] (v :: w :: v :: w :: st) H := rn_nx rfl rfl
theorem e_M_sinks_31 : rn Ls xs d 181 31 [l0, l1] (.inl i :: .inr (.inl (some a)) :: st) (S, I, R) = if h_ia S a 0 i then rn Ls xs d 181 32 [l0, l1] (.inl (I a i.toNatClampNeg) :: st) (S, I, R) else none := rn_bc rfl rfl
theorem e_M_sinks_32 : rn Ls xs d 181 32 [l0, l1]  st H = rn Ls xs d 181 33 [l0, l1] (.inl 1 :: st) H := rn_nx rfl rfl
theorem e_M_sinks_33 : rn Ls xs d 181 33 [l0, l1] (.inl y :: .inl x :: st) H = rn Ls xs d 181 34 [l0, l1] (.inl (x + y) :: st) H := rn_nx rfl rfl
theorem e_M_sinks_34 : rn Ls xs d 181 34 [l0, l1] (.inl x :: .inl i :: .inr (.inl (some a)) :: st) (S, I, R) = if h_ia S a 0 i then rn Ls xs d 181 35 [l0, l1] st (S, va_up I a (upd (I a) i.toNatClampNeg x), R) else none := rn_bc rfl rfl
theorem e_M_sinks_35 : rn Ls xs d 181 35 [l0, l1] st H = rn Ls xs d 181 52 [l0, l1] st H := rn_nx rfl rfl
theorem e_M_sinks_38 : rn Ls xs d 181 38 [some (.inr u), l1] st H = rn Ls xs d 181 39 [some (.inr u), l1] (.inr u :: st) H := rn_nx rfl rfl
theorem e_M_sinks_39 : rn Ls xs d 181 39 [l0, some (.inl x)] st H = rn Ls xs d 181 40 [l0, some (.inl x)] (.inl x :: st) H := rn_nx rfl rfl
theorem e_M_sinks_40 : rn Ls xs d 181 40 [l0, l1]  st H = rn Ls xs d 181 41 [l0, l1] (.inl 1 :: st) H := rn_nx rfl rfl
theorem e_M_sinks_41 : rn Ls xs d 181 41 [some (.inr u), l1] st H = rn Ls xs d 181 42 [some (.inr u), l1] (.inr u :: st) H := rn_nx rfl rfl
theorem e_M_sinks_42 : rn Ls xs d 181 42 [l0, some (.inl x)] st H = rn Ls xs d 181 43 [l0, some (.inl x)] (.inl x :: st) H := rn_nx rfl rfl
theorem e_M_sinks_43 : rn Ls xs d 181 43 [l0, l1]  st H = rn Ls xs d 181 44 [l0, l1] (.inl 1 :: st) H := rn_nx rfl rfl
theorem e_M_sinks_44 : rn Ls xs (d + 1) 181 44 [l0, l1] [v2, v1, (.inr (.inl (some a))), v3, v4, v5] (S, I, R) = if h_is S a 9 36 then rb Ls xs (d + 1) 181 47 [l0, l1] [v3, v4, v5] (rn Ls xs d 105 0 [some (.inr (.inl (some a))), some v1, some v2] [] (S, I, R)) else none := rn_callO rfl rfl (Nat.le_of_ble_eq_true rfl) rfl rfl
theorem e_M_sinks_47 : rn Ls xs d 181 47 [l0, l1]  st H = rn Ls xs d 181 48 [l0, l1] (.inl 1 :: st) H := rn_nx rfl rfl
theorem e_M_sinks_48 : rn Ls xs d 181 48 [l0, l1] (.inl y :: .inl x :: st) H = rn Ls xs d 181 49 [l0, l1] (.inl (x - y) :: st) H := rn_nx rfl rfl
theorem e_M_sinks_49 : rn Ls xs (d + 1) 181 49 [l0, l1] [v3, v2, v1, (.inr (.inl (some a)))] (S, I, R) = if h_is S a 9 36 then rb Ls xs (d + 1) 181 52 [l0, l1] [] (rn Ls xs d 114 0 [some (.inr (.inl (some a))), some v1, some v2, some v3] [] (S, I, R)) else none := rn_callO rfl rfl (Nat.le_of_ble_eq_true rfl) rfl rfl
theorem e_M_sinks_52 : rn Ls xs d 181 52 [l0, l1] [] H = some (none, H) := rn_done rfl rfl
theorem e_JArrays_fill_0 : rn Ls xs d 182 0 [l0, l1, l2, l3]  st H = rn Ls xs d 182 1 [l0, l1, l2, l3] (.inl 0 :: st) H := rn_nx rfl rfl
theorem e_JArrays_fill_1 : rn Ls xs d 182 1 [l0, l1, l2, l3] (.inl x :: st) H = rn Ls xs d 182 2 [l0, l1, some (.inl x), l3] st H := rn_nx rfl rfl
theorem e_JArrays_fill_2 : rn Ls xs d 182 2 [some (.inr u), l1, l2, l3] st H = rn Ls xs d 182 3 [some (.inr u), l1, l2, l3] (.inr u :: st) H := rn_nx rfl rfl
theorem e_JArrays_fill_3 : rn Ls xs d 182 3 [l0, l1, l2, l3] (.inr (.inl (some a)) :: st) (S, I, R) = if h_is S a (100 + 0) (S.1 a).2 then rn Ls xs d 182 4 [l0, l1, l2, l3] (.inl (Int32.ofNat (S.1 a).2) :: st) (S, I, R) else none := rn_bc rfl rfl
theorem e_JArrays_fill_4 : rn Ls xs d 182 4 [l0, l1, l2, l3] (.inl x :: st) H = rn Ls xs d 182 5 [l0, l1, l2, some (.inl x)] st H := rn_nx rfl rfl
theorem e_JArrays_fill_5 : rn Ls xs d 182 5 [l0, l1, some (.inl x), l3] st H = rn Ls xs d 182 6 [l0, l1, some (.inl x), l3] (.inl x :: st) H := rn_nx rfl rfl
theorem e_JArrays_fill_6 : rn Ls xs d 182 6 [l0, l1, l2, some (.inl x)] st H = rn Ls xs d 182 7 [l0, l1, l2, some (.inl x)] (.inl x :: st) H := rn_nx rfl rfl
theorem e_JArrays_fill_7 : rn Ls xs d 182 7 [l0, l1, l2, l3] (.inl y :: .inl x :: st) H = if y ≤ x then rn Ls xs d 182 20 [l0, l1, l2, l3] st H else rn Ls xs d 182 10 [l0, l1, l2, l3] st H := rn_cmp (p := fun x y => y ≤ x) rfl
theorem e_JArrays_fill_10 : rn Ls xs d 182 10 [some (.inr u), l1, l2, l3] st H = rn Ls xs d 182 11 [some (.inr u), l1, l2, l3] (.inr u :: st) H := rn_nx rfl rfl
theorem e_JArrays_fill_11 : rn Ls xs d 182 11 [l0, l1, some (.inl x), l3] st H = rn Ls xs d 182 12 [l0, l1, some (.inl x), l3] (.inl x :: st) H := rn_nx rfl rfl
theorem e_JArrays_fill_12 : rn Ls xs d 182 12 [l0, some (.inl x), l2, l3] st H = rn Ls xs d 182 13 [l0, some (.inl x), l2, l3] (.inl x :: st) H := rn_nx rfl rfl
theorem e_JArrays_fill_13 : rn Ls xs d 182 13 [l0, l1, l2, l3] (.inl x :: .inl i :: .inr (.inl (some a)) :: st) (S, I, R) = if h_ia S a 0 i then rn Ls xs d 182 14 [l0, l1, l2, l3] st (S, va_up I a (upd (I a) i.toNatClampNeg x), R) else none := rn_bc rfl rfl
theorem e_JArrays_fill_14 : rn Ls xs d 182 14 [l0, l1, some (.inl x), l3] st H = rn Ls xs d 182 17 [l0, l1, some (.inl (x + 1)), l3] st H := rn_nx rfl rfl
theorem e_JArrays_fill_17 : rn Ls xs d 182 17 [l0, l1, l2, l3] st H = rn Ls xs d 182 5 [l0, l1, l2, l3] st H := rn_nx rfl rfl
theorem e_JArrays_fill_20 : rn Ls xs d 182 20 [l0, l1, l2, l3] [] H = some (none, H) := rn_done rfl rfl
theorem e_F_blockAt_0 : rn Ls xs d 183 0 [l0, l1, l2, l3, l4]  st H = rn Ls xs d 183 1 [l0, l1, l2, l3, l4] (.inl 0 :: st) H := rn_nx rfl rfl
theorem e_F_blockAt_1 : rn Ls xs d 183 1 [l0, l1, l2, l3, l4] (.inl x :: st) H = rn Ls xs d 183 2 [l0, l1, some (.inl x), l3, l4] st H := rn_nx rfl rfl
theorem e_F_blockAt_2 : rn Ls xs d 183 2 [l0, l1, some (.inl x), l3, l4] st H = rn Ls xs d 183 3 [l0, l1, some (.inl x), l3, l4] (.inl x :: st) H := rn_nx rfl rfl
theorem e_F_blockAt_3 : rn Ls xs d 183 3 [some (.inr u), l1, l2, l3, l4] st H = rn Ls xs d 183 4 [some (.inr u), l1, l2, l3, l4] (.inr u :: st) H := rn_nx rfl rfl
theorem e_F_blockAt_4 : rn Ls xs d 183 4 [l0, l1, l2, l3, l4] (.inr (.inl (some a)) :: st) (S, I, R) = if h_is S a 0 5 then rn Ls xs d 183 7 [l0, l1, l2, l3, l4] (.inr (R a 0) :: st) (S, I, R) else none := rn_bc rfl rfl
theorem e_F_blockAt_7 : rn Ls xs d 183 7 [l0, l1, l2, l3, l4] (.inr (.inl (some a)) :: st) (S, I, R) = if h_is S a 3 11 then rn Ls xs d 183 10 [l0, l1, l2, l3, l4] (.inl (I a 3) :: st) (S, I, R) else none := rn_bc rfl rfl
theorem e_F_blockAt_10 : rn Ls xs d 183 10 [l0, l1, l2, l3, l4] (.inl y :: .inl x :: st) H = if y ≤ x then rn Ls xs d 183 71 [l0, l1, l2, l3, l4] st H else rn Ls xs d 183 13 [l0, l1, l2, l3, l4] st H := rn_cmp (p := fun x y => y ≤ x) rfl
theorem e_F_blockAt_13 : rn Ls xs d 183 13 [some (.inr u), l1, l2, l3, l4] st H = rn Ls xs d 183 14 [some (.inr u), l1, l2, l3, l4] (.inr u :: st) H := rn_nx rfl rfl
theorem e_F_blockAt_14 : rn Ls xs d 183 14 [l0, l1, l2, l3, l4] (.inr (.inl (some a)) :: st) (S, I, R) = if h_is S a 0 5 then rn Ls xs d 183 17 [l0, l1, l2, l3, l4] (.inr (R a 0) :: st) (S, I, R) else none := rn_bc rfl rfl
theorem e_F_blockAt_17 : rn Ls xs d 183 17 [l0, l1, l2, l3, l4] (.inr (.inl (some a)) :: st) (S, I, R) = if h_is S a 3 11 then rn Ls xs d 183 20 [l0, l1, l2, l3, l4] (.inr (R a 0) :: st) (S, I, R) else none := rn_bc rfl rfl
theorem e_F_blockAt_20 : rn Ls xs d 183 20 [l0, l1, some (.inl x), l3, l4] st H = rn Ls xs d 183 21 [l0, l1, some (.inl x), l3, l4] (.inl x :: st) H := rn_nx rfl rfl
theorem e_F_blockAt_21 : rn Ls xs d 183 21 [l0, l1, l2, l3, l4] (.inl i :: .inr (.inl (some a)) :: st) (S, I, R) = if h_ia S a 4 i then (match R a i.toNatClampNeg with | .inl o => rn Ls xs d 183 22 [l0, l1, l2, l3, l4] (.inr (.inl o) :: st) (S, I, R) | .inr _ => none) else none := rn_aald rfl
theorem e_F_blockAt_22 : rn Ls xs d 183 22 [l0, l1, l2, l3, l4] (.inr u :: st) H = rn Ls xs d 183 23 [l0, l1, l2, some (.inr u), l4] st H := rn_nx rfl rfl
theorem e_F_blockAt_23 : rn Ls xs d 183 23 [l0, some (.inl x), l2, l3, l4] st H = rn Ls xs d 183 24 [l0, some (.inl x), l2, l3, l4] (.inl x :: st) H := rn_nx rfl rfl
theorem e_F_blockAt_24 : rn Ls xs d 183 24 [l0, l1, l2, some (.inr u), l4] st H = rn Ls xs d 183 25 [l0, l1, l2, some (.inr u), l4] (.inr u :: st) H := rn_nx rfl rfl
theorem e_F_blockAt_25 : rn Ls xs d 183 25 [l0, l1, l2, l3, l4] (.inr (.inl (some a)) :: st) (S, I, R) = if h_is S a 7 6 then rn Ls xs d 183 28 [l0, l1, l2, l3, l4] (.inl (I a 1) :: st) (S, I, R) else none := rn_bc rfl rfl
theorem e_F_blockAt_28 : rn Ls xs d 183 28 [l0, l1, l2, l3, l4] (.inl y :: .inl x :: st) H = rn Ls xs d 183 29 [l0, l1, l2, l3, l4] (.inl (x - y) :: st) H := rn_nx rfl rfl
theorem e_F_blockAt_29 : rn Ls xs d 183 29 [l0, l1, l2, l3, l4] (.inl x :: st) H = rn Ls xs d 183 31 [l0, l1, l2, l3, some (.inl x)] st H := rn_nx rfl rfl
theorem e_F_blockAt_31 : rn Ls xs d 183 31 [l0, l1, l2, some (.inr u), l4] st H = rn Ls xs d 183 32 [l0, l1, l2, some (.inr u), l4] (.inr u :: st) H := rn_nx rfl rfl
theorem e_F_blockAt_32 : rn Ls xs d 183 32 [l0, l1, l2, l3, l4] (.inr (.inl (some a)) :: st) (S, I, R) = if h_is S a 7 6 then rn Ls xs d 183 35 [l0, l1, l2, l3, l4] (.inl (I a 5) :: st) (S, I, R) else none := rn_bc rfl rfl
theorem e_F_blockAt_35 : rn Ls xs d 183 35 [l0, l1, l2, l3, l4] (.inl x :: st) H = if x = 0 then rn Ls xs d 183 65 [l0, l1, l2, l3, l4] st H else rn Ls xs d 183 38 [l0, l1, l2, l3, l4] st H := rn_if (p := fun x => x = 0) rfl
theorem e_F_blockAt_38 : rn Ls xs d 183 38 [l0, l1, l2, l3, some (.inl x)] st H = rn Ls xs d 183 40 [l0, l1, l2, l3, some (.inl x)] (.inl x :: st) H := rn_nx rfl rfl
theorem e_F_blockAt_40 : rn Ls xs d 183 40 [l0, l1, l2, l3, l4]  st H = rn Ls xs d 183 41 [l0, l1, l2, l3, l4] (.inl 0 :: st) H := rn_nx rfl rfl
theorem e_F_blockAt_41 : rn Ls xs d 183 41 [l0, l1, l2, l3, l4]  st H = rn Ls xs d 183 43 [l0, l1, l2, l3, l4] (.inl 60 :: st) H := rn_nx rfl rfl
theorem e_F_blockAt_43 : rn Ls xs (d + 1) 183 43 [l0, l1, l2, l3, l4] [v2, v1, v0] H = rb Ls xs (d + 1) 183 46 [l0, l1, l2, l3, l4] [] (rn Ls xs d 94 0 [some v0, some v1, some v2] [] H) := rn_call rfl (Nat.le_of_ble_eq_true rfl) (Nat.le_of_ble_eq_true rfl) rfl rfl
theorem e_F_blockAt_46 : rn Ls xs d 183 46 [l0, l1, l2, l3, l4] (.inl x :: st) H = if x = 0 then rn Ls xs d 183 65 [l0, l1, l2, l3, l4] st H else rn Ls xs d 183 49 [l0, l1, l2, l3, l4] st H := rn_if (p := fun x => x = 0) rfl
theorem e_F_blockAt_49 : rn Ls xs d 183 49 [some (.inr u), l1, l2, l3, l4] st H = rn Ls xs d 183 50 [some (.inr u), l1, l2, l3, l4] (.inr u :: st) H := rn_nx rfl rfl
theorem e_F_blockAt_50 : rn Ls xs d 183 50 [l0, l1, l2, l3, l4] (.inr (.inl (some a)) :: st) (S, I, R) = if h_is S a 0 5 then rn Ls xs d 183 53 [l0, l1, l2, l3, l4] (.inr (R a 1) :: st) (S, I, R) else none := rn_bc rfl rfl
theorem e_F_blockAt_53 : rn Ls xs d 183 53 [l0, l1, l2, l3, some (.inl x)] st H = rn Ls xs d 183 55 [l0, l1, l2, l3, some (.inl x)] (.inl x :: st) H := rn_nx rfl rfl
theorem e_F_blockAt_55 : rn Ls xs d 183 55 [l0, l1, l2, l3, l4] (v :: w :: st) H = rn Ls xs d 183 56 [l0, l1, l2, l3, l4] (v :: w :: v :: w :: st) H := rn_nx rfl rfl
theorem e_F_blockAt_56 : rn Ls xs d 183 56 [l0, l1, l2, l3, l4] (.inl i :: .inr (.inl (some a)) :: st) (S, I, R) = if h_ia S a 0 i then rn Ls xs d 183 57 [l0, l1, l2, l3, l4] (.inl (I a i.toNatClampNeg) :: st) (S, I, R) else none := rn_bc rfl rfl
theorem e_F_blockAt_57 : rn Ls xs d 183 57 [l0, l1, l2, l3, l4]  st H = rn Ls xs d 183 58 [l0, l1, l2, l3, l4] (.inl 1 :: st) H := rn_nx rfl rfl
theorem e_F_blockAt_58 : rn Ls xs d 183 58 [l0, l1, l2, some (.inr u), l4] st H = rn Ls xs d 183 59 [l0, l1, l2, some (.inr u), l4] (.inr u :: st) H := rn_nx rfl rfl
theorem e_F_blockAt_59 : rn Ls xs d 183 59 [l0, l1, l2, l3, l4] (.inr (.inl (some a)) :: st) (S, I, R) = if h_is S a 7 6 then rn Ls xs d 183 62 [l0, l1, l2, l3, l4] (.inl (I a 2) :: st) (S, I, R) else none := rn_bc rfl rfl
theorem e_F_blockAt_62 : rn Ls xs d 183 62 [l0, l1, l2, l3, l4] (.inl y :: .inl x :: st) H = rn Ls xs d 183 63 [l0, l1, l2, l3, l4] (.inl (x <<< (y &&& 31)) :: st) H := rn_nx rfl rfl
theorem e_F_blockAt_63 : rn Ls xs d 183 63 [l0, l1, l2, l3, l4] (.inl y :: .inl x :: st) H = rn Ls xs d 183 64 [l0, l1, l2, l3, l4] (.inl (x ||| y) :: st) H := rn_nx rfl rfl
theorem e_F_blockAt_64 : rn Ls xs d 183 64 [l0, l1, l2, l3, l4] (.inl x :: .inl i :: .inr (.inl (some a)) :: st) (S, I, R) = if h_ia S a 0 i then rn Ls xs d 183 65 [l0, l1, l2, l3, l4] st (S, va_up I a (upd (I a) i.toNatClampNeg x), R) else none := rn_bc rfl rfl
theorem e_F_blockAt_65 : rn Ls xs d 183 65 [l0, l1, some (.inl x), l3, l4] st H = rn Ls xs d 183 68 [l0, l1, some (.inl (x + 1)), l3, l4] st H := rn_nx rfl rfl
theorem e_F_blockAt_68 : rn Ls xs d 183 68 [l0, l1, l2, l3, l4] st H = rn Ls xs d 183 2 [l0, l1, l2, l3, l4] st H := rn_nx rfl rfl
theorem e_F_blockAt_71 : rn Ls xs d 183 71 [l0, l1, l2, l3, l4] [] H = some (none, H) := rn_done rfl rfl
theorem e_F_chooseNone_0 : rn Ls xs d 184 0 [some (.inr u)] st H = rn Ls xs d 184 1 [some (.inr u)] (.inr u :: st) H := rn_nx rfl rfl
theorem e_F_chooseNone_1 : rn Ls xs d 184 1 [l0]  st H = rn Ls xs d 184 3 [l0] (.inl (-1000000005) :: st) H := rn_nx rfl rfl
theorem e_F_chooseNone_3 : rn Ls xs d 184 3 [l0] (.inl x :: .inr (.inl (some a)) :: st) (S, I, R) = if h_is S a 0 5 then rn Ls xs d 184 6 [l0] st (S, va_up I a (upd (I a) 3 x), R) else none := rn_bc rfl rfl
theorem e_F_chooseNone_6 : rn Ls xs d 184 6 [some (.inr u)] st H = rn Ls xs d 184 7 [some (.inr u)] (.inr u :: st) H := rn_nx rfl rfl
theorem e_F_chooseNone_7 : rn Ls xs d 184 7 [l0]  st H = rn Ls xs d 184 9 [l0] (.inl (-1000000005) :: st) H := rn_nx rfl rfl
theorem e_F_chooseNone_9 : rn Ls xs d 184 9 [l0] (.inl x :: .inr (.inl (some a)) :: st) (S, I, R) = if h_is S a 0 5 then rn Ls xs d 184 12 [l0] st (S, va_up I a (upd (I a) 4 x), R) else none := rn_bc rfl rfl
theorem e_F_chooseNone_12 : rn Ls xs d 184 12 [l0] [] H = some (none, H) := rn_done rfl rfl
theorem e_F_chooseIfLess_0 : rn Ls xs d 185 0 [some (.inr u), l1, l2] st H = rn Ls xs d 185 1 [some (.inr u), l1, l2] (.inr u :: st) H := rn_nx rfl rfl
theorem e_F_chooseIfLess_1 : rn Ls xs d 185 1 [l0, l1, l2] (.inr (.inl (some a)) :: st) (S, I, R) = if h_is S a 0 5 then rn Ls xs d 185 4 [l0, l1, l2] (.inl (I a 3) :: st) (S, I, R) else none := rn_bc rfl rfl
theorem e_F_chooseIfLess_4 : rn Ls xs d 185 4 [l0, l1, l2]  st H = rn Ls xs d 185 6 [l0, l1, l2] (.inl (-1000000005) :: st) H := rn_nx rfl rfl
theorem e_F_chooseIfLess_6 : rn Ls xs d 185 6 [l0, l1, l2] (.inl y :: .inl x :: st) H = if x = y then rn Ls xs d 185 17 [l0, l1, l2] st H else rn Ls xs d 185 9 [l0, l1, l2] st H := rn_cmp (p := fun x y => x = y) rfl
theorem e_F_chooseIfLess_9 : rn Ls xs d 185 9 [l0, l1, some (.inl x)] st H = rn Ls xs d 185 10 [l0, l1, some (.inl x)] (.inl x :: st) H := rn_nx rfl rfl
theorem e_F_chooseIfLess_10 : rn Ls xs d 185 10 [some (.inr u), l1, l2] st H = rn Ls xs d 185 11 [some (.inr u), l1, l2] (.inr u :: st) H := rn_nx rfl rfl
theorem e_F_chooseIfLess_11 : rn Ls xs d 185 11 [l0, l1, l2] (.inr (.inl (some a)) :: st) (S, I, R) = if h_is S a 0 5 then rn Ls xs d 185 14 [l0, l1, l2] (.inl (I a 4) :: st) (S, I, R) else none := rn_bc rfl rfl
theorem e_F_chooseIfLess_14 : rn Ls xs d 185 14 [l0, l1, l2] (.inl y :: .inl x :: st) H = if y ≤ x then rn Ls xs d 185 27 [l0, l1, l2] st H else rn Ls xs d 185 17 [l0, l1, l2] st H := rn_cmp (p := fun x y => y ≤ x) rfl
theorem e_F_chooseIfLess_17 : rn Ls xs d 185 17 [some (.inr u), l1, l2] st H = rn Ls xs d 185 18 [some (.inr u), l1, l2] (.inr u :: st) H := rn_nx rfl rfl
theorem e_F_chooseIfLess_18 : rn Ls xs d 185 18 [l0, some (.inl x), l2] st H = rn Ls xs d 185 19 [l0, some (.inl x), l2] (.inl x :: st) H := rn_nx rfl rfl
theorem e_F_chooseIfLess_19 : rn Ls xs d 185 19 [l0, l1, l2] (.inl x :: .inr (.inl (some a)) :: st) (S, I, R) = if h_is S a 0 5 then rn Ls xs d 185 22 [l0, l1, l2] st (S, va_up I a (upd (I a) 3 x), R) else none := rn_bc rfl rfl
theorem e_F_chooseIfLess_22 : rn Ls xs d 185 22 [some (.inr u), l1, l2] st H = rn Ls xs d 185 23 [some (.inr u), l1, l2] (.inr u :: st) H := rn_nx rfl rfl
theorem e_F_chooseIfLess_23 : rn Ls xs d 185 23 [l0, l1, some (.inl x)] st H = rn Ls xs d 185 24 [l0, l1, some (.inl x)] (.inl x :: st) H := rn_nx rfl rfl
theorem e_F_chooseIfLess_24 : rn Ls xs d 185 24 [l0, l1, l2] (.inl x :: .inr (.inl (some a)) :: st) (S, I, R) = if h_is S a 0 5 then rn Ls xs d 185 27 [l0, l1, l2] st (S, va_up I a (upd (I a) 4 x), R) else none := rn_bc rfl rfl
theorem e_F_chooseIfLess_27 : rn Ls xs d 185 27 [l0, l1, l2] [] H = some (none, H) := rn_done rfl rfl
theorem e_S_upPlaces_0 : rn Ls xs d 186 0 [l0, l1, l2]  st H = rn Ls xs d 186 1 [l0, l1, l2] (.inl 0 :: st) H := rn_nx rfl rfl
theorem e_S_upPlaces_1 : rn Ls xs d 186 1 [l0, l1, l2] (.inl x :: st) H = rn Ls xs d 186 2 [l0, some (.inl x), l2] st H := rn_nx rfl rfl
theorem e_S_upPlaces_2 : rn Ls xs d 186 2 [l0, l1, l2]  st H = rn Ls xs d 186 3 [l0, l1, l2] (.inl 0 :: st) H := rn_nx rfl rfl
theorem e_S_upPlaces_3 : rn Ls xs d 186 3 [l0, l1, l2] (.inl x :: st) H = rn Ls xs d 186 4 [l0, l1, some (.inl x)] st H := rn_nx rfl rfl
theorem e_S_upPlaces_4 : rn Ls xs d 186 4 [l0, l1, some (.inl x)] st H = rn Ls xs d 186 5 [l0, l1, some (.inl x)] (.inl x :: st) H := rn_nx rfl rfl
theorem e_S_upPlaces_5 : rn Ls xs d 186 5 [some (.inr u), l1, l2] st H = rn Ls xs d 186 6 [some (.inr u), l1, l2] (.inr u :: st) H := rn_nx rfl rfl
theorem e_S_upPlaces_6 : rn Ls xs d 186 6 [l0, l1, l2] (.inr (.inl (some a)) :: st) (S, I, R) = if h_is S a 3 11 then rn Ls xs d 186 9 [l0, l1, l2] (.inl (I a 3) :: st) (S, I, R) else none := rn_bc rfl rfl
theorem e_S_upPlaces_9 : rn Ls xs d 186 9 [l0, l1, l2] (.inl y :: .inl x :: st) H = if y ≤ x then rn Ls xs d 186 48 [l0, l1, l2] st H else rn Ls xs d 186 12 [l0, l1, l2] st H := rn_cmp (p := fun x y => y ≤ x) rfl
theorem e_S_upPlaces_12 : rn Ls xs d 186 12 [l0, some (.inl x), l2] st H = rn Ls xs d 186 13 [l0, some (.inl x), l2] (.inl x :: st) H := rn_nx rfl rfl
theorem e_S_upPlaces_13 : rn Ls xs d 186 13 [some (.inr u), l1, l2] st H = rn Ls xs d 186 14 [some (.inr u), l1, l2] (.inr u :: st) H := rn_nx rfl rfl
theorem e_S_upPlaces_14 : rn Ls xs d 186 14 [l0, l1, l2] (.inr (.inl (some a)) :: st) (S, I, R) = if h_is S a 3 11 then rn Ls xs d 186 17 [l0, l1, l2] (.inr (R a 0) :: st) (S, I, R) else none := rn_bc rfl rfl
theorem e_S_upPlaces_17 : rn Ls xs d 186 17 [l0, l1, some (.inl x)] st H = rn Ls xs d 186 18 [l0, l1, some (.inl x)] (.inl x :: st) H := rn_nx rfl rfl
theorem e_S_upPlaces_18 : rn Ls xs d 186 18 [l0, l1, l2] (.inl i :: .inr (.inl (some a)) :: st) (S, I, R) = if h_ia S a 4 i then (match R a i.toNatClampNeg with | .inl o => rn Ls xs d 186 19 [l0, l1, l2] (.inr (.inl o) :: st) (S, I, R) | .inr _ => none) else none := rn_aald rfl
theorem e_S_upPlaces_19 : rn Ls xs d 186 19 [l0, l1, l2] (.inr (.inl (some a)) :: st) (S, I, R) = if h_is S a 7 6 then rn Ls xs d 186 22 [l0, l1, l2] (.inl (I a 5) :: st) (S, I, R) else none := rn_bc rfl rfl
theorem e_S_upPlaces_22 : rn Ls xs d 186 22 [l0, l1, l2] (.inl x :: st) H = if x = 0 then rn Ls xs d 186 39 [l0, l1, l2] st H else rn Ls xs d 186 25 [l0, l1, l2] st H := rn_if (p := fun x => x = 0) rfl
theorem e_S_upPlaces_25 : rn Ls xs d 186 25 [l0, l1, l2]  st H = rn Ls xs d 186 26 [l0, l1, l2] (.inl 1 :: st) H := rn_nx rfl rfl
theorem e_S_upPlaces_26 : rn Ls xs d 186 26 [some (.inr u), l1, l2] st H = rn Ls xs d 186 27 [some (.inr u), l1, l2] (.inr u :: st) H := rn_nx rfl rfl
theorem e_S_upPlaces_27 : rn Ls xs d 186 27 [l0, l1, l2] (.inr (.inl (some a)) :: st) (S, I, R) = if h_is S a 3 11 then rn Ls xs d 186 30 [l0, l1, l2] (.inr (R a 0) :: st) (S, I, R) else none := rn_bc rfl rfl
theorem e_S_upPlaces_30 : rn Ls xs d 186 30 [l0, l1, some (.inl x)] st H = rn Ls xs d 186 31 [l0, l1, some (.inl x)] (.inl x :: st) H := rn_nx rfl rfl
theorem e_S_upPlaces_31 : rn Ls xs d 186 31 [l0, l1, l2] (.inl i :: .inr (.inl (some a)) :: st) (S, I, R) = if h_ia S a 4 i then (match R a i.toNatClampNeg with | .inl o => rn Ls xs d 186 32 [l0, l1, l2] (.inr (.inl o) :: st) (S, I, R) | .inr _ => none) else none := rn_aald rfl
theorem e_S_upPlaces_32 : rn Ls xs d 186 32 [l0, l1, l2] (.inr (.inl (some a)) :: st) (S, I, R) = if h_is S a 7 6 then rn Ls xs d 186 35 [l0, l1, l2] (.inl (I a 2) :: st) (S, I, R) else none := rn_bc rfl rfl
theorem e_S_upPlaces_35 : rn Ls xs d 186 35 [l0, l1, l2] (.inl y :: .inl x :: st) H = rn Ls xs d 186 36 [l0, l1, l2] (.inl (x <<< (y &&& 31)) :: st) H := rn_nx rfl rfl
theorem e_S_upPlaces_36 : rn Ls xs d 186 36 [l0, l1, l2] st H = rn Ls xs d 186 40 [l0, l1, l2] st H := rn_nx rfl rfl
theorem e_S_upPlaces_39 : rn Ls xs d 186 39 [l0, l1, l2]  st H = rn Ls xs d 186 40 [l0, l1, l2] (.inl 0 :: st) H := rn_nx rfl rfl
theorem e_S_upPlaces_40 : rn Ls xs d 186 40 [l0, l1, l2] (.inl y :: .inl x :: st) H = rn Ls xs d 186 41 [l0, l1, l2] (.inl (x ||| y) :: st) H := rn_nx rfl rfl
theorem e_S_upPlaces_41 : rn Ls xs d 186 41 [l0, l1, l2] (.inl x :: st) H = rn Ls xs d 186 42 [l0, some (.inl x), l2] st H := rn_nx rfl rfl
theorem e_S_upPlaces_42 : rn Ls xs d 186 42 [l0, l1, some (.inl x)] st H = rn Ls xs d 186 45 [l0, l1, some (.inl (x + 1))] st H := rn_nx rfl rfl
theorem e_S_upPlaces_45 : rn Ls xs d 186 45 [l0, l1, l2] st H = rn Ls xs d 186 4 [l0, l1, l2] st H := rn_nx rfl rfl
theorem e_S_upPlaces_48 : rn Ls xs d 186 48 [l0, some (.inl x), l2] st H = rn Ls xs d 186 49 [l0, some (.inl x), l2] (.inl x :: st) H := rn_nx rfl rfl
theorem e_S_upPlaces_49 : rn Ls xs d 186 49 [l0, l1, l2] [.inl x] H = some (some (.inl x), H) := rn_done rfl rfl
theorem e_F_nearestNow_0 : rn Ls xs d 187 0 [some (.inr u), l1, l2, l3, l4, l5] st H = rn Ls xs d 187 1 [some (.inr u), l1, l2, l3, l4, l5] (.inr u :: st) H := rn_nx rfl rfl
theorem e_F_nearestNow_1 : rn Ls xs d 187 1 [l0, l1, l2, l3, l4, l5] (.inr (.inl (some a)) :: st) (S, I, R) = if h_is S a 0 5 then rn Ls xs d 187 4 [l0, l1, l2, l3, l4, l5] (.inr (R a 0) :: st) (S, I, R) else none := rn_bc rfl rfl
theorem e_F_nearestNow_4 : rn Ls xs d 187 4 [l0, l1, l2, l3, l4, l5] (.inr (.inl (some a)) :: st) (S, I, R) = if h_is S a 3 11 then rn Ls xs d 187 7 [l0, l1, l2, l3, l4, l5] (.inr (R a 0) :: st) (S, I, R) else none := rn_bc rfl rfl
theorem e_F_nearestNow_7 : rn Ls xs d 187 7 [l0, some (.inl x), l2, l3, l4, l5] st H = rn Ls xs d 187 8 [l0, some (.inl x), l2, l3, l4, l5] (.inl x :: st) H := rn_nx rfl rfl
theorem e_F_nearestNow_8 : rn Ls xs d 187 8 [l0, l1, l2, l3, l4, l5] (.inl i :: .inr (.inl (some a)) :: st) (S, I, R) = if h_ia S a 4 i then (match R a i.toNatClampNeg with | .inl o => rn Ls xs d 187 9 [l0, l1, l2, l3, l4, l5] (.inr (.inl o) :: st) (S, I, R) | .inr _ => none) else none := rn_aald rfl
theorem e_F_nearestNow_9 : rn Ls xs d 187 9 [l0, l1, l2, l3, l4, l5] (.inr u :: st) H = rn Ls xs d 187 10 [l0, l1, some (.inr u), l3, l4, l5] st H := rn_nx rfl rfl
theorem e_F_nearestNow_10 : rn Ls xs d 187 10 [l0, l1, l2, l3, l4, l5]  st H = rn Ls xs d 187 12 [l0, l1, l2, l3, l4, l5] (.inl 30 :: st) H := rn_nx rfl rfl
theorem e_F_nearestNow_12 : rn Ls xs d 187 12 [l0, l1, l2, l3, l4, l5] (.inl x :: st) H = rn Ls xs d 187 13 [l0, l1, l2, some (.inl x), l4, l5] st H := rn_nx rfl rfl
theorem e_F_nearestNow_13 : rn Ls xs d 187 13 [l0, l1, l2, l3, l4, l5]  st H = rn Ls xs d 187 14 [l0, l1, l2, l3, l4, l5] (.inl 0 :: st) H := rn_nx rfl rfl
theorem e_F_nearestNow_14 : rn Ls xs d 187 14 [l0, l1, l2, l3, l4, l5] (.inl x :: st) H = rn Ls xs d 187 16 [l0, l1, l2, l3, some (.inl x), l5] st H := rn_nx rfl rfl
theorem e_F_nearestNow_16 : rn Ls xs d 187 16 [l0, l1, l2, l3, some (.inl x), l5] st H = rn Ls xs d 187 18 [l0, l1, l2, l3, some (.inl x), l5] (.inl x :: st) H := rn_nx rfl rfl
theorem e_F_nearestNow_18 : rn Ls xs d 187 18 [some (.inr u), l1, l2, l3, l4, l5] st H = rn Ls xs d 187 19 [some (.inr u), l1, l2, l3, l4, l5] (.inr u :: st) H := rn_nx rfl rfl
theorem e_F_nearestNow_19 : rn Ls xs d 187 19 [l0, l1, l2, l3, l4, l5] (.inr (.inl (some a)) :: st) (S, I, R) = if h_is S a 0 5 then rn Ls xs d 187 22 [l0, l1, l2, l3, l4, l5] (.inr (R a 0) :: st) (S, I, R) else none := rn_bc rfl rfl
theorem e_F_nearestNow_22 : rn Ls xs d 187 22 [l0, l1, l2, l3, l4, l5] (.inr (.inl (some a)) :: st) (S, I, R) = if h_is S a 3 11 then rn Ls xs d 187 25 [l0, l1, l2, l3, l4, l5] (.inl (I a 3) :: st) (S, I, R) else none := rn_bc rfl rfl
theorem e_F_nearestNow_25 : rn Ls xs d 187 25 [l0, l1, l2, l3, l4, l5] (.inl y :: .inl x :: st) H = if y ≤ x then rn Ls xs d 187 96 [l0, l1, l2, l3, l4, l5] st H else rn Ls xs d 187 28 [l0, l1, l2, l3, l4, l5] st H := rn_cmp (p := fun x y => y ≤ x) rfl
theorem e_F_nearestNow_28 : rn Ls xs d 187 28 [l0, l1, some (.inr u), l3, l4, l5] st H = rn Ls xs d 187 29 [l0, l1, some (.inr u), l3, l4, l5] (.inr u :: st) H := rn_nx rfl rfl
theorem e_F_nearestNow_29 : rn Ls xs d 187 29 [l0, l1, l2, l3, l4, l5] (.inr (.inl (some a)) :: st) (S, I, R) = if h_is S a 7 6 then rn Ls xs d 187 32 [l0, l1, l2, l3, l4, l5] (.inl (I a 5) :: st) (S, I, R) else none := rn_bc rfl rfl
theorem e_F_nearestNow_32 : rn Ls xs d 187 32 [l0, l1, l2, l3, l4, l5] (.inl x :: st) H = if x = 0 then rn Ls xs d 187 96 [l0, l1, l2, l3, l4, l5] st H else rn Ls xs d 187 35 [l0, l1, l2, l3, l4, l5] st H := rn_if (p := fun x => x = 0) rfl
theorem e_F_nearestNow_35 : rn Ls xs d 187 35 [some (.inr u), l1, l2, l3, l4, l5] st H = rn Ls xs d 187 36 [some (.inr u), l1, l2, l3, l4, l5] (.inr u :: st) H := rn_nx rfl rfl
theorem e_F_nearestNow_36 : rn Ls xs d 187 36 [l0, l1, l2, l3, l4, l5] (.inr (.inl (some a)) :: st) (S, I, R) = if h_is S a 0 5 then rn Ls xs d 187 39 [l0, l1, l2, l3, l4, l5] (.inr (R a 0) :: st) (S, I, R) else none := rn_bc rfl rfl
theorem e_F_nearestNow_39 : rn Ls xs d 187 39 [l0, l1, l2, l3, l4, l5] (.inr (.inl (some a)) :: st) (S, I, R) = if h_is S a 3 11 then rn Ls xs d 187 42 [l0, l1, l2, l3, l4, l5] (.inr (R a 0) :: st) (S, I, R) else none := rn_bc rfl rfl
theorem e_F_nearestNow_42 : rn Ls xs d 187 42 [l0, l1, l2, l3, some (.inl x), l5] st H = rn Ls xs d 187 44 [l0, l1, l2, l3, some (.inl x), l5] (.inl x :: st) H := rn_nx rfl rfl
theorem e_F_nearestNow_44 : rn Ls xs d 187 44 [l0, l1, l2, l3, l4, l5] (.inl i :: .inr (.inl (some a)) :: st) (S, I, R) = if h_ia S a 4 i then (match R a i.toNatClampNeg with | .inl o => rn Ls xs d 187 45 [l0, l1, l2, l3, l4, l5] (.inr (.inl o) :: st) (S, I, R) | .inr _ => none) else none := rn_aald rfl
theorem e_F_nearestNow_45 : rn Ls xs d 187 45 [l0, l1, l2, l3, l4, l5] (.inr u :: st) H = rn Ls xs d 187 47 [l0, l1, l2, l3, l4, some (.inr u)] st H := rn_nx rfl rfl
theorem e_F_nearestNow_47 : rn Ls xs d 187 47 [l0, l1, l2, l3, some (.inl x), l5] st H = rn Ls xs d 187 49 [l0, l1, l2, l3, some (.inl x), l5] (.inl x :: st) H := rn_nx rfl rfl
theorem e_F_nearestNow_49 : rn Ls xs d 187 49 [l0, some (.inl x), l2, l3, l4, l5] st H = rn Ls xs d 187 50 [l0, some (.inl x), l2, l3, l4, l5] (.inl x :: st) H := rn_nx rfl rfl
theorem e_F_nearestNow_50 : rn Ls xs d 187 50 [l0, l1, l2, l3, l4, l5] (.inl y :: .inl x :: st) H = if x = y then rn Ls xs d 187 90 [l0, l1, l2, l3, l4, l5] st H else rn Ls xs d 187 53 [l0, l1, l2, l3, l4, l5] st H := rn_cmp (p := fun x y => x = y) rfl
theorem e_F_nearestNow_53 : rn Ls xs d 187 53 [l0, l1, l2, l3, l4, some (.inr u)] st H = rn Ls xs d 187 55 [l0, l1, l2, l3, l4, some (.inr u)] (.inr u :: st) H := rn_nx rfl rfl
theorem e_F_nearestNow_55 : rn Ls xs d 187 55 [l0, l1, l2, l3, l4, l5] (.inr (.inl (some a)) :: st) (S, I, R) = if h_is S a 7 6 then rn Ls xs d 187 58 [l0, l1, l2, l3, l4, l5] (.inl (I a 5) :: st) (S, I, R) else none := rn_bc rfl rfl
theorem e_F_nearestNow_58 : rn Ls xs d 187 58 [l0, l1, l2, l3, l4, l5] (.inl x :: st) H = if x = 0 then rn Ls xs d 187 90 [l0, l1, l2, l3, l4, l5] st H else rn Ls xs d 187 61 [l0, l1, l2, l3, l4, l5] st H := rn_if (p := fun x => x = 0) rfl
theorem e_F_nearestNow_61 : rn Ls xs d 187 61 [l0, l1, l2, l3, l4, some (.inr u)] st H = rn Ls xs d 187 63 [l0, l1, l2, l3, l4, some (.inr u)] (.inr u :: st) H := rn_nx rfl rfl
theorem e_F_nearestNow_63 : rn Ls xs d 187 63 [l0, l1, l2, l3, l4, l5] (.inr (.inl (some a)) :: st) (S, I, R) = if h_is S a 7 6 then rn Ls xs d 187 66 [l0, l1, l2, l3, l4, l5] (.inl (I a 1) :: st) (S, I, R) else none := rn_bc rfl rfl
theorem e_F_nearestNow_66 : rn Ls xs d 187 66 [l0, l1, some (.inr u), l3, l4, l5] st H = rn Ls xs d 187 67 [l0, l1, some (.inr u), l3, l4, l5] (.inr u :: st) H := rn_nx rfl rfl
theorem e_F_nearestNow_67 : rn Ls xs d 187 67 [l0, l1, l2, l3, l4, l5] (.inr (.inl (some a)) :: st) (S, I, R) = if h_is S a 7 6 then rn Ls xs d 187 70 [l0, l1, l2, l3, l4, l5] (.inl (I a 1) :: st) (S, I, R) else none := rn_bc rfl rfl
theorem e_F_nearestNow_70 : rn Ls xs d 187 70 [l0, l1, l2, l3, l4, l5] (.inl y :: .inl x :: st) H = if x ≠ y then rn Ls xs d 187 90 [l0, l1, l2, l3, l4, l5] st H else rn Ls xs d 187 73 [l0, l1, l2, l3, l4, l5] st H := rn_cmp (p := fun x y => x ≠ y) rfl
theorem e_F_nearestNow_73 : rn Ls xs d 187 73 [l0, l1, l2, some (.inl x), l4, l5] st H = rn Ls xs d 187 74 [l0, l1, l2, some (.inl x), l4, l5] (.inl x :: st) H := rn_nx rfl rfl
theorem e_F_nearestNow_74 : rn Ls xs d 187 74 [l0, l1, some (.inr u), l3, l4, l5] st H = rn Ls xs d 187 75 [l0, l1, some (.inr u), l3, l4, l5] (.inr u :: st) H := rn_nx rfl rfl
theorem e_F_nearestNow_75 : rn Ls xs d 187 75 [l0, l1, l2, l3, l4, l5] (.inr (.inl (some a)) :: st) (S, I, R) = if h_is S a 7 6 then rn Ls xs d 187 78 [l0, l1, l2, l3, l4, l5] (.inl (I a 2) :: st) (S, I, R) else none := rn_bc rfl rfl
theorem e_F_nearestNow_78 : rn Ls xs d 187 78 [l0, l1, l2, l3, l4, some (.inr u)] st H = rn Ls xs d 187 80 [l0, l1, l2, l3, l4, some (.inr u)] (.inr u :: st) H := rn_nx rfl rfl
theorem e_F_nearestNow_80 : rn Ls xs d 187 80 [l0, l1, l2, l3, l4, l5] (.inr (.inl (some a)) :: st) (S, I, R) = if h_is S a 7 6 then rn Ls xs d 187 83 [l0, l1, l2, l3, l4, l5] (.inl (I a 2) :: st) (S, I, R) else none := rn_bc rfl rfl
theorem e_F_nearestNow_83 : rn Ls xs (d + 1) 187 83 [l0, l1, l2, l3, l4, l5] [v1, v0, v2] H = rb Ls xs (d + 1) 187 86 [l0, l1, l2, l3, l4, l5] [v2] (rn Ls xs d 189 0 [some v0, some v1, none] [] H) := rn_call rfl (Nat.le_of_ble_eq_true rfl) (Nat.le_of_ble_eq_true rfl) rfl rfl
theorem e_F_nearestNow_86 : rn Ls xs (d + 1) 187 86 [l0, l1, l2, l3, l4, l5] [v1, v0] H = rb Ls xs (d + 1) 187 89 [l0, l1, l2, l3, l4, l5] [] (rn Ls xs d 116 0 [some v0, some v1] [] H) := rn_call rfl (Nat.le_of_ble_eq_true rfl) (Nat.le_of_ble_eq_true rfl) rfl rfl
theorem e_F_nearestNow_89 : rn Ls xs d 187 89 [l0, l1, l2, l3, l4, l5] (.inl x :: st) H = rn Ls xs d 187 90 [l0, l1, l2, some (.inl x), l4, l5] st H := rn_nx rfl rfl
theorem e_F_nearestNow_90 : rn Ls xs d 187 90 [l0, l1, l2, l3, some (.inl x), l5] st H = rn Ls xs d 187 93 [l0, l1, l2, l3, some (.inl (x + 1)), l5] st H := rn_nx rfl rfl
theorem e_F_nearestNow_93 : rn Ls xs d 187 93 [l0, l1, l2, l3, l4, l5] st H = rn Ls xs d 187 16 [l0, l1, l2, l3, l4, l5] st H := rn_nx rfl rfl
theorem e_F_nearestNow_96 : rn Ls xs d 187 96 [l0, l1, l2, some (.inl x), l4, l5] st H = rn Ls xs d 187 97 [l0, l1, l2, some (.inl x), l4, l5] (.inl x :: st) H := rn_nx rfl rfl
theorem e_F_nearestNow_97 : rn Ls xs d 187 97 [l0, l1, l2, l3, l4, l5] [.inl x] H = some (some (.inl x), H) := rn_done rfl rfl
theorem e_JMath_floorMod_0 : rn Ls xs d 188 0 [some (.inl x), l1, l2] st H = rn Ls xs d 188 1 [some (.inl x), l1, l2] (.inl x :: st) H := rn_nx rfl rfl
theorem e_JMath_floorMod_1 : rn Ls xs d 188 1 [l0, some (.inl x), l2] st H = rn Ls xs d 188 2 [l0, some (.inl x), l2] (.inl x :: st) H := rn_nx rfl rfl
theorem e_JMath_floorMod_2 : rn Ls xs d 188 2 [l0, l1, l2] (.inl y :: .inl x :: st) H = if y = 0 then none else rn Ls xs d 188 3 [l0, l1, l2] (.inl (x - x / y * y) :: st) H := rn_div (f := fun x y => x - x / y * y) rfl
theorem e_JMath_floorMod_3 : rn Ls xs d 188 3 [l0, l1, l2] (.inl x :: st) H = rn Ls xs d 188 4 [l0, l1, some (.inl x)] st H := rn_nx rfl rfl
theorem e_JMath_floorMod_4 : rn Ls xs d 188 4 [some (.inl x), l1, l2] st H = rn Ls xs d 188 5 [some (.inl x), l1, l2] (.inl x :: st) H := rn_nx rfl rfl
theorem e_JMath_floorMod_5 : rn Ls xs d 188 5 [l0, some (.inl x), l2] st H = rn Ls xs d 188 6 [l0, some (.inl x), l2] (.inl x :: st) H := rn_nx rfl rfl
theorem e_JMath_floorMod_6 : rn Ls xs d 188 6 [l0, l1, l2] (.inl y :: .inl x :: st) H = rn Ls xs d 188 7 [l0, l1, l2] (.inl (x ^^^ y) :: st) H := rn_nx rfl rfl
theorem e_JMath_floorMod_7 : rn Ls xs d 188 7 [l0, l1, l2] (.inl x :: st) H = if 0 ≤ x then rn Ls xs d 188 18 [l0, l1, l2] st H else rn Ls xs d 188 10 [l0, l1, l2] st H := rn_if (p := fun x => 0 ≤ x) rfl
theorem e_JMath_floorMod_10 : rn Ls xs d 188 10 [l0, l1, some (.inl x)] st H = rn Ls xs d 188 11 [l0, l1, some (.inl x)] (.inl x :: st) H := rn_nx rfl rfl
theorem e_JMath_floorMod_11 : rn Ls xs d 188 11 [l0, l1, l2] (.inl x :: st) H = if x = 0 then rn Ls xs d 188 18 [l0, l1, l2] st H else rn Ls xs d 188 14 [l0, l1, l2] st H := rn_if (p := fun x => x = 0) rfl
theorem e_JMath_floorMod_14 : rn Ls xs d 188 14 [l0, l1, some (.inl x)] st H = rn Ls xs d 188 15 [l0, l1, some (.inl x)] (.inl x :: st) H := rn_nx rfl rfl
theorem e_JMath_floorMod_15 : rn Ls xs d 188 15 [l0, some (.inl x), l2] st H = rn Ls xs d 188 16 [l0, some (.inl x), l2] (.inl x :: st) H := rn_nx rfl rfl
theorem e_JMath_floorMod_16 : rn Ls xs d 188 16 [l0, l1, l2] (.inl y :: .inl x :: st) H = rn Ls xs d 188 17 [l0, l1, l2] (.inl (x + y) :: st) H := rn_nx rfl rfl
theorem e_JMath_floorMod_17 : rn Ls xs d 188 17 [l0, l1, l2] [.inl x] H = some (some (.inl x), H) := rn_done rfl rfl
theorem e_JMath_floorMod_18 : rn Ls xs d 188 18 [l0, l1, some (.inl x)] st H = rn Ls xs d 188 19 [l0, l1, some (.inl x)] (.inl x :: st) H := rn_nx rfl rfl
theorem e_JMath_floorMod_19 : rn Ls xs d 188 19 [l0, l1, l2] [.inl x] H = some (some (.inl x), H) := rn_done rfl rfl
theorem e_W_wayRound_0 : rn Ls xs d 189 0 [some (.inl x), l1, l2] st H = rn Ls xs d 189 1 [some (.inl x), l1, l2] (.inl x :: st) H := rn_nx rfl rfl
theorem e_W_wayRound_1 : rn Ls xs d 189 1 [l0, some (.inl x), l2] st H = rn Ls xs d 189 2 [l0, some (.inl x), l2] (.inl x :: st) H := rn_nx rfl rfl
theorem e_W_wayRound_2 : rn Ls xs d 189 2 [l0, l1, l2] (.inl y :: .inl x :: st) H = rn Ls xs d 189 3 [l0, l1, l2] (.inl (x - y) :: st) H := rn_nx rfl rfl
theorem e_W_wayRound_3 : rn Ls xs (d + 1) 189 3 [l0, l1, l2] [v0] H = rb Ls xs (d + 1) 189 6 [l0, l1, l2] [] (rn Ls xs d 209 0 [some v0] [] H) := rn_call rfl (Nat.le_of_ble_eq_true rfl) (Nat.le_of_ble_eq_true rfl) rfl rfl
theorem e_W_wayRound_6 : rn Ls xs d 189 6 [l0, l1, l2] (.inl x :: st) H = rn Ls xs d 189 7 [l0, l1, some (.inl x)] st H := rn_nx rfl rfl
theorem e_W_wayRound_7 : rn Ls xs d 189 7 [l0, l1, some (.inl x)] st H = rn Ls xs d 189 8 [l0, l1, some (.inl x)] (.inl x :: st) H := rn_nx rfl rfl
theorem e_W_wayRound_8 : rn Ls xs d 189 8 [l0, l1, l2]  st H = rn Ls xs d 189 10 [l0, l1, l2] (.inl 30 :: st) H := rn_nx rfl rfl
theorem e_W_wayRound_10 : rn Ls xs d 189 10 [l0, l1, some (.inl x)] st H = rn Ls xs d 189 11 [l0, l1, some (.inl x)] (.inl x :: st) H := rn_nx rfl rfl
theorem e_W_wayRound_11 : rn Ls xs d 189 11 [l0, l1, l2] (.inl y :: .inl x :: st) H = rn Ls xs d 189 12 [l0, l1, l2] (.inl (x - y) :: st) H := rn_nx rfl rfl
theorem e_W_wayRound_12 : rn Ls xs (d + 1) 189 12 [l0, l1, l2] [v1, v0] H = rb Ls xs (d + 1) 189 15 [l0, l1, l2] [] (rn Ls xs d 116 0 [some v0, some v1] [] H) := rn_call rfl (Nat.le_of_ble_eq_true rfl) (Nat.le_of_ble_eq_true rfl) rfl rfl
theorem e_W_wayRound_15 : rn Ls xs d 189 15 [l0, l1, l2] [.inl x] H = some (some (.inl x), H) := rn_done rfl rfl
theorem e_X_operand_0 : rn Ls xs d 190 0 [some (.inl x), l1, l2, l3] st H = rn Ls xs d 190 1 [some (.inl x), l1, l2, l3] (.inl x :: st) H := rn_nx rfl rfl
theorem e_X_operand_1 : rn Ls xs d 190 1 [l0, l1, l2, l3] (.inl x :: st) H = if x = (-3) then rn Ls xs d 190 32 [l0, l1, l2, l3] st H else if x = (-2) then rn Ls xs d 190 30 [l0, l1, l2, l3] st H else if x = (-1) then rn Ls xs d 190 28 [l0, l1, l2, l3] st H else rn Ls xs d 190 34 [l0, l1, l2, l3] st H := (rn_nx rfl rfl).trans (rn_tc rfl rfl (rn_tc rfl rfl (rn_tc rfl rfl (rn_tn))))
theorem e_X_operand_28 : rn Ls xs d 190 28 [l0, some (.inl x), l2, l3] st H = rn Ls xs d 190 29 [l0, some (.inl x), l2, l3] (.inl x :: st) H := rn_nx rfl rfl
theorem e_X_operand_29 : rn Ls xs d 190 29 [l0, l1, l2, l3] [.inl x] H = some (some (.inl x), H) := rn_done rfl rfl
theorem e_X_operand_30 : rn Ls xs d 190 30 [l0, l1, some (.inl x), l3] st H = rn Ls xs d 190 31 [l0, l1, some (.inl x), l3] (.inl x :: st) H := rn_nx rfl rfl
theorem e_X_operand_31 : rn Ls xs d 190 31 [l0, l1, l2, l3] [.inl x] H = some (some (.inl x), H) := rn_done rfl rfl
theorem e_X_operand_32 : rn Ls xs d 190 32 [l0, l1, l2, some (.inl x)] st H = rn Ls xs d 190 33 [l0, l1, l2, some (.inl x)] (.inl x :: st) H := rn_nx rfl rfl
theorem e_X_operand_33 : rn Ls xs d 190 33 [l0, l1, l2, l3] [.inl x] H = some (some (.inl x), H) := rn_done rfl rfl
theorem e_X_operand_34 : rn Ls xs d 190 34 [some (.inl x), l1, l2, l3] st H = rn Ls xs d 190 35 [some (.inl x), l1, l2, l3] (.inl x :: st) H := rn_nx rfl rfl
theorem e_X_operand_35 : rn Ls xs d 190 35 [l0, l1, l2, l3] [.inl x] H = some (some (.inl x), H) := rn_done rfl rfl
theorem e_X_joined_0 : rn Ls xs d 191 0 [some (.inl x), l1, l2] st H = rn Ls xs d 191 1 [some (.inl x), l1, l2] (.inl x :: st) H := rn_nx rfl rfl
theorem e_X_joined_1 : rn Ls xs d 191 1 [l0, l1, l2] (.inl x :: st) H = if x = 38 then rn Ls xs d 191 90 [l0, l1, l2] st H else if x = 42 then rn Ls xs d 191 145 [l0, l1, l2] st H else if x = 43 then rn Ls xs d 191 137 [l0, l1, l2] st H else if x = 45 then rn Ls xs d 191 141 [l0, l1, l2] st H else if x = 60 then rn Ls xs d 191 104 [l0, l1, l2] st H else if x = 61 then rn Ls xs d 191 115 [l0, l1, l2] st H else if x = 62 then rn Ls xs d 191 126 [l0, l1, l2] st H else if x = 124 then rn Ls xs d 191 76 [l0, l1, l2] st H else rn Ls xs d 191 149 [l0, l1, l2] st H := (rn_nx rfl rfl).trans (rn_lc rfl rfl (rn_lc rfl rfl (rn_lc rfl rfl (rn_lc rfl rfl (rn_lc rfl rfl (rn_lc rfl rfl (rn_lc rfl rfl (rn_lc rfl rfl (rn_ln)))))))))
theorem e_X_joined_76 : rn Ls xs d 191 76 [l0, some (.inl x), l2] st H = rn Ls xs d 191 77 [l0, some (.inl x), l2] (.inl x :: st) H := rn_nx rfl rfl
theorem e_X_joined_77 : rn Ls xs d 191 77 [l0, l1, l2] (.inl x :: st) H = if x ≠ 0 then rn Ls xs d 191 84 [l0, l1, l2] st H else rn Ls xs d 191 80 [l0, l1, l2] st H := rn_if (p := fun x => x ≠ 0) rfl
theorem e_X_joined_80 : rn Ls xs d 191 80 [l0, l1, some (.inl x)] st H = rn Ls xs d 191 81 [l0, l1, some (.inl x)] (.inl x :: st) H := rn_nx rfl rfl
theorem e_X_joined_81 : rn Ls xs d 191 81 [l0, l1, l2] (.inl x :: st) H = if x = 0 then rn Ls xs d 191 88 [l0, l1, l2] st H else rn Ls xs d 191 84 [l0, l1, l2] st H := rn_if (p := fun x => x = 0) rfl
theorem e_X_joined_84 : rn Ls xs d 191 84 [l0, l1, l2]  st H = rn Ls xs d 191 85 [l0, l1, l2] (.inl 1 :: st) H := rn_nx rfl rfl
theorem e_X_joined_85 : rn Ls xs d 191 85 [l0, l1, l2] st H = rn Ls xs d 191 89 [l0, l1, l2] st H := rn_nx rfl rfl
theorem e_X_joined_88 : rn Ls xs d 191 88 [l0, l1, l2]  st H = rn Ls xs d 191 89 [l0, l1, l2] (.inl 0 :: st) H := rn_nx rfl rfl
theorem e_X_joined_89 : rn Ls xs d 191 89 [l0, l1, l2] [.inl x] H = some (some (.inl x), H) := rn_done rfl rfl
theorem e_X_joined_90 : rn Ls xs d 191 90 [l0, some (.inl x), l2] st H = rn Ls xs d 191 91 [l0, some (.inl x), l2] (.inl x :: st) H := rn_nx rfl rfl
theorem e_X_joined_91 : rn Ls xs d 191 91 [l0, l1, l2] (.inl x :: st) H = if x = 0 then rn Ls xs d 191 102 [l0, l1, l2] st H else rn Ls xs d 191 94 [l0, l1, l2] st H := rn_if (p := fun x => x = 0) rfl
theorem e_X_joined_94 : rn Ls xs d 191 94 [l0, l1, some (.inl x)] st H = rn Ls xs d 191 95 [l0, l1, some (.inl x)] (.inl x :: st) H := rn_nx rfl rfl
theorem e_X_joined_95 : rn Ls xs d 191 95 [l0, l1, l2] (.inl x :: st) H = if x = 0 then rn Ls xs d 191 102 [l0, l1, l2] st H else rn Ls xs d 191 98 [l0, l1, l2] st H := rn_if (p := fun x => x = 0) rfl
theorem e_X_joined_98 : rn Ls xs d 191 98 [l0, l1, l2]  st H = rn Ls xs d 191 99 [l0, l1, l2] (.inl 1 :: st) H := rn_nx rfl rfl
theorem e_X_joined_99 : rn Ls xs d 191 99 [l0, l1, l2] st H = rn Ls xs d 191 103 [l0, l1, l2] st H := rn_nx rfl rfl
theorem e_X_joined_102 : rn Ls xs d 191 102 [l0, l1, l2]  st H = rn Ls xs d 191 103 [l0, l1, l2] (.inl 0 :: st) H := rn_nx rfl rfl
theorem e_X_joined_103 : rn Ls xs d 191 103 [l0, l1, l2] [.inl x] H = some (some (.inl x), H) := rn_done rfl rfl
theorem e_X_joined_104 : rn Ls xs d 191 104 [l0, some (.inl x), l2] st H = rn Ls xs d 191 105 [l0, some (.inl x), l2] (.inl x :: st) H := rn_nx rfl rfl
theorem e_X_joined_105 : rn Ls xs d 191 105 [l0, l1, some (.inl x)] st H = rn Ls xs d 191 106 [l0, l1, some (.inl x)] (.inl x :: st) H := rn_nx rfl rfl
theorem e_X_joined_106 : rn Ls xs d 191 106 [l0, l1, l2] (.inl y :: .inl x :: st) H = if y ≤ x then rn Ls xs d 191 113 [l0, l1, l2] st H else rn Ls xs d 191 109 [l0, l1, l2] st H := rn_cmp (p := fun x y => y ≤ x) rfl
theorem e_X_joined_109 : rn Ls xs d 191 109 [l0, l1, l2]  st H = rn Ls xs d 191 110 [l0, l1, l2] (.inl 1 :: st) H := rn_nx rfl rfl
theorem e_X_joined_110 : rn Ls xs d 191 110 [l0, l1, l2] st H = rn Ls xs d 191 114 [l0, l1, l2] st H := rn_nx rfl rfl
theorem e_X_joined_113 : rn Ls xs d 191 113 [l0, l1, l2]  st H = rn Ls xs d 191 114 [l0, l1, l2] (.inl 0 :: st) H := rn_nx rfl rfl
theorem e_X_joined_114 : rn Ls xs d 191 114 [l0, l1, l2] [.inl x] H = some (some (.inl x), H) := rn_done rfl rfl
theorem e_X_joined_115 : rn Ls xs d 191 115 [l0, some (.inl x), l2] st H = rn Ls xs d 191 116 [l0, some (.inl x), l2] (.inl x :: st) H := rn_nx rfl rfl
theorem e_X_joined_116 : rn Ls xs d 191 116 [l0, l1, some (.inl x)] st H = rn Ls xs d 191 117 [l0, l1, some (.inl x)] (.inl x :: st) H := rn_nx rfl rfl
theorem e_X_joined_117 : rn Ls xs d 191 117 [l0, l1, l2] (.inl y :: .inl x :: st) H = if x ≠ y then rn Ls xs d 191 124 [l0, l1, l2] st H else rn Ls xs d 191 120 [l0, l1, l2] st H := rn_cmp (p := fun x y => x ≠ y) rfl
theorem e_X_joined_120 : rn Ls xs d 191 120 [l0, l1, l2]  st H = rn Ls xs d 191 121 [l0, l1, l2] (.inl 1 :: st) H := rn_nx rfl rfl
theorem e_X_joined_121 : rn Ls xs d 191 121 [l0, l1, l2] st H = rn Ls xs d 191 125 [l0, l1, l2] st H := rn_nx rfl rfl
theorem e_X_joined_124 : rn Ls xs d 191 124 [l0, l1, l2]  st H = rn Ls xs d 191 125 [l0, l1, l2] (.inl 0 :: st) H := rn_nx rfl rfl
theorem e_X_joined_125 : rn Ls xs d 191 125 [l0, l1, l2] [.inl x] H = some (some (.inl x), H) := rn_done rfl rfl
theorem e_X_joined_126 : rn Ls xs d 191 126 [l0, some (.inl x), l2] st H = rn Ls xs d 191 127 [l0, some (.inl x), l2] (.inl x :: st) H := rn_nx rfl rfl
theorem e_X_joined_127 : rn Ls xs d 191 127 [l0, l1, some (.inl x)] st H = rn Ls xs d 191 128 [l0, l1, some (.inl x)] (.inl x :: st) H := rn_nx rfl rfl
theorem e_X_joined_128 : rn Ls xs d 191 128 [l0, l1, l2] (.inl y :: .inl x :: st) H = if x ≤ y then rn Ls xs d 191 135 [l0, l1, l2] st H else rn Ls xs d 191 131 [l0, l1, l2] st H := rn_cmp (p := fun x y => x ≤ y) rfl
theorem e_X_joined_131 : rn Ls xs d 191 131 [l0, l1, l2]  st H = rn Ls xs d 191 132 [l0, l1, l2] (.inl 1 :: st) H := rn_nx rfl rfl
theorem e_X_joined_132 : rn Ls xs d 191 132 [l0, l1, l2] st H = rn Ls xs d 191 136 [l0, l1, l2] st H := rn_nx rfl rfl
theorem e_X_joined_135 : rn Ls xs d 191 135 [l0, l1, l2]  st H = rn Ls xs d 191 136 [l0, l1, l2] (.inl 0 :: st) H := rn_nx rfl rfl
theorem e_X_joined_136 : rn Ls xs d 191 136 [l0, l1, l2] [.inl x] H = some (some (.inl x), H) := rn_done rfl rfl
theorem e_X_joined_137 : rn Ls xs d 191 137 [l0, some (.inl x), l2] st H = rn Ls xs d 191 138 [l0, some (.inl x), l2] (.inl x :: st) H := rn_nx rfl rfl
theorem e_X_joined_138 : rn Ls xs d 191 138 [l0, l1, some (.inl x)] st H = rn Ls xs d 191 139 [l0, l1, some (.inl x)] (.inl x :: st) H := rn_nx rfl rfl
theorem e_X_joined_139 : rn Ls xs d 191 139 [l0, l1, l2] (.inl y :: .inl x :: st) H = rn Ls xs d 191 140 [l0, l1, l2] (.inl (x + y) :: st) H := rn_nx rfl rfl
theorem e_X_joined_140 : rn Ls xs d 191 140 [l0, l1, l2] [.inl x] H = some (some (.inl x), H) := rn_done rfl rfl
theorem e_X_joined_141 : rn Ls xs d 191 141 [l0, some (.inl x), l2] st H = rn Ls xs d 191 142 [l0, some (.inl x), l2] (.inl x :: st) H := rn_nx rfl rfl
theorem e_X_joined_142 : rn Ls xs d 191 142 [l0, l1, some (.inl x)] st H = rn Ls xs d 191 143 [l0, l1, some (.inl x)] (.inl x :: st) H := rn_nx rfl rfl
theorem e_X_joined_143 : rn Ls xs d 191 143 [l0, l1, l2] (.inl y :: .inl x :: st) H = rn Ls xs d 191 144 [l0, l1, l2] (.inl (x - y) :: st) H := rn_nx rfl rfl
theorem e_X_joined_144 : rn Ls xs d 191 144 [l0, l1, l2] [.inl x] H = some (some (.inl x), H) := rn_done rfl rfl
theorem e_X_joined_145 : rn Ls xs d 191 145 [l0, some (.inl x), l2] st H = rn Ls xs d 191 146 [l0, some (.inl x), l2] (.inl x :: st) H := rn_nx rfl rfl
theorem e_X_joined_146 : rn Ls xs d 191 146 [l0, l1, some (.inl x)] st H = rn Ls xs d 191 147 [l0, l1, some (.inl x)] (.inl x :: st) H := rn_nx rfl rfl
theorem e_X_joined_147 : rn Ls xs d 191 147 [l0, l1, l2] (.inl y :: .inl x :: st) H = rn Ls xs d 191 148 [l0, l1, l2] (.inl (x * y) :: st) H := rn_nx rfl rfl
theorem e_X_joined_148 : rn Ls xs d 191 148 [l0, l1, l2] [.inl x] H = some (some (.inl x), H) := rn_done rfl rfl
theorem e_X_joined_149 : rn Ls xs d 191 149 [l0, l1, some (.inl x)] st H = rn Ls xs d 191 150 [l0, l1, some (.inl x)] (.inl x :: st) H := rn_nx rfl rfl
theorem e_X_joined_150 : rn Ls xs d 191 150 [l0, l1, l2] (.inl x :: st) H = if x ≠ 0 then rn Ls xs d 191 157 [l0, l1, l2] st H else rn Ls xs d 191 153 [l0, l1, l2] st H := rn_if (p := fun x => x ≠ 0) rfl
theorem e_X_joined_153 : rn Ls xs d 191 153 [l0, l1, l2]  st H = rn Ls xs d 191 154 [l0, l1, l2] (.inl 0 :: st) H := rn_nx rfl rfl
theorem e_X_joined_154 : rn Ls xs d 191 154 [l0, l1, l2] st H = rn Ls xs d 191 160 [l0, l1, l2] st H := rn_nx rfl rfl
theorem e_X_joined_157 : rn Ls xs d 191 157 [l0, some (.inl x), l2] st H = rn Ls xs d 191 158 [l0, some (.inl x), l2] (.inl x :: st) H := rn_nx rfl rfl
theorem e_X_joined_158 : rn Ls xs d 191 158 [l0, l1, some (.inl x)] st H = rn Ls xs d 191 159 [l0, l1, some (.inl x)] (.inl x :: st) H := rn_nx rfl rfl
theorem e_X_joined_159 : rn Ls xs d 191 159 [l0, l1, l2] (.inl y :: .inl x :: st) H = if y = 0 then none else rn Ls xs d 191 160 [l0, l1, l2] (.inl (x / y) :: st) H := rn_div (f := fun x y => x / y) rfl
theorem e_X_joined_160 : rn Ls xs d 191 160 [l0, l1, l2] [.inl x] H = some (some (.inl x), H) := rn_done rfl rfl
theorem e_M_two_0 : rn Ls xs d 192 0 [some (.inl x), l1, l2] st H = rn Ls xs d 192 1 [some (.inl x), l1, l2] (.inl x :: st) H := rn_nx rfl rfl
theorem e_M_two_1 : rn Ls xs d 192 1 [l0, l1, l2] (.inl x :: st) H = if x = (-8) then rn Ls xs d 192 117 [l0, l1, l2] st H else if x = (-7) then rn Ls xs d 192 113 [l0, l1, l2] st H else if x = (-6) then rn Ls xs d 192 109 [l0, l1, l2] st H else if x = (-5) then rn Ls xs d 192 98 [l0, l1, l2] st H else if x = (-4) then rn Ls xs d 192 87 [l0, l1, l2] st H else if x = (-3) then rn Ls xs d 192 76 [l0, l1, l2] st H else if x = (-2) then rn Ls xs d 192 62 [l0, l1, l2] st H else if x = (-1) then rn Ls xs d 192 48 [l0, l1, l2] st H else rn Ls xs d 192 121 [l0, l1, l2] st H := (rn_nx rfl rfl).trans (rn_tc rfl rfl (rn_tc rfl rfl (rn_tc rfl rfl (rn_tc rfl rfl (rn_tc rfl rfl (rn_tc rfl rfl (rn_tc rfl rfl (rn_tc rfl rfl (rn_tn)))))))))
theorem e_M_two_48 : rn Ls xs d 192 48 [l0, some (.inl x), l2] st H = rn Ls xs d 192 49 [l0, some (.inl x), l2] (.inl x :: st) H := rn_nx rfl rfl
theorem e_M_two_49 : rn Ls xs d 192 49 [l0, l1, l2] (.inl x :: st) H = if x ≠ 0 then rn Ls xs d 192 56 [l0, l1, l2] st H else rn Ls xs d 192 52 [l0, l1, l2] st H := rn_if (p := fun x => x ≠ 0) rfl
theorem e_M_two_52 : rn Ls xs d 192 52 [l0, l1, some (.inl x)] st H = rn Ls xs d 192 53 [l0, l1, some (.inl x)] (.inl x :: st) H := rn_nx rfl rfl
theorem e_M_two_53 : rn Ls xs d 192 53 [l0, l1, l2] (.inl x :: st) H = if x = 0 then rn Ls xs d 192 60 [l0, l1, l2] st H else rn Ls xs d 192 56 [l0, l1, l2] st H := rn_if (p := fun x => x = 0) rfl
theorem e_M_two_56 : rn Ls xs d 192 56 [l0, l1, l2]  st H = rn Ls xs d 192 57 [l0, l1, l2] (.inl 1 :: st) H := rn_nx rfl rfl
theorem e_M_two_57 : rn Ls xs d 192 57 [l0, l1, l2] st H = rn Ls xs d 192 61 [l0, l1, l2] st H := rn_nx rfl rfl
theorem e_M_two_60 : rn Ls xs d 192 60 [l0, l1, l2]  st H = rn Ls xs d 192 61 [l0, l1, l2] (.inl 0 :: st) H := rn_nx rfl rfl
theorem e_M_two_61 : rn Ls xs d 192 61 [l0, l1, l2] [.inl x] H = some (some (.inl x), H) := rn_done rfl rfl
theorem e_M_two_62 : rn Ls xs d 192 62 [l0, some (.inl x), l2] st H = rn Ls xs d 192 63 [l0, some (.inl x), l2] (.inl x :: st) H := rn_nx rfl rfl
theorem e_M_two_63 : rn Ls xs d 192 63 [l0, l1, l2] (.inl x :: st) H = if x = 0 then rn Ls xs d 192 74 [l0, l1, l2] st H else rn Ls xs d 192 66 [l0, l1, l2] st H := rn_if (p := fun x => x = 0) rfl
theorem e_M_two_66 : rn Ls xs d 192 66 [l0, l1, some (.inl x)] st H = rn Ls xs d 192 67 [l0, l1, some (.inl x)] (.inl x :: st) H := rn_nx rfl rfl
theorem e_M_two_67 : rn Ls xs d 192 67 [l0, l1, l2] (.inl x :: st) H = if x = 0 then rn Ls xs d 192 74 [l0, l1, l2] st H else rn Ls xs d 192 70 [l0, l1, l2] st H := rn_if (p := fun x => x = 0) rfl
theorem e_M_two_70 : rn Ls xs d 192 70 [l0, l1, l2]  st H = rn Ls xs d 192 71 [l0, l1, l2] (.inl 1 :: st) H := rn_nx rfl rfl
theorem e_M_two_71 : rn Ls xs d 192 71 [l0, l1, l2] st H = rn Ls xs d 192 75 [l0, l1, l2] st H := rn_nx rfl rfl
theorem e_M_two_74 : rn Ls xs d 192 74 [l0, l1, l2]  st H = rn Ls xs d 192 75 [l0, l1, l2] (.inl 0 :: st) H := rn_nx rfl rfl
theorem e_M_two_75 : rn Ls xs d 192 75 [l0, l1, l2] [.inl x] H = some (some (.inl x), H) := rn_done rfl rfl
theorem e_M_two_76 : rn Ls xs d 192 76 [l0, some (.inl x), l2] st H = rn Ls xs d 192 77 [l0, some (.inl x), l2] (.inl x :: st) H := rn_nx rfl rfl
theorem e_M_two_77 : rn Ls xs d 192 77 [l0, l1, some (.inl x)] st H = rn Ls xs d 192 78 [l0, l1, some (.inl x)] (.inl x :: st) H := rn_nx rfl rfl
theorem e_M_two_78 : rn Ls xs d 192 78 [l0, l1, l2] (.inl y :: .inl x :: st) H = if y ≤ x then rn Ls xs d 192 85 [l0, l1, l2] st H else rn Ls xs d 192 81 [l0, l1, l2] st H := rn_cmp (p := fun x y => y ≤ x) rfl
theorem e_M_two_81 : rn Ls xs d 192 81 [l0, l1, l2]  st H = rn Ls xs d 192 82 [l0, l1, l2] (.inl 1 :: st) H := rn_nx rfl rfl
theorem e_M_two_82 : rn Ls xs d 192 82 [l0, l1, l2] st H = rn Ls xs d 192 86 [l0, l1, l2] st H := rn_nx rfl rfl
theorem e_M_two_85 : rn Ls xs d 192 85 [l0, l1, l2]  st H = rn Ls xs d 192 86 [l0, l1, l2] (.inl 0 :: st) H := rn_nx rfl rfl
theorem e_M_two_86 : rn Ls xs d 192 86 [l0, l1, l2] [.inl x] H = some (some (.inl x), H) := rn_done rfl rfl
theorem e_M_two_87 : rn Ls xs d 192 87 [l0, some (.inl x), l2] st H = rn Ls xs d 192 88 [l0, some (.inl x), l2] (.inl x :: st) H := rn_nx rfl rfl
theorem e_M_two_88 : rn Ls xs d 192 88 [l0, l1, some (.inl x)] st H = rn Ls xs d 192 89 [l0, l1, some (.inl x)] (.inl x :: st) H := rn_nx rfl rfl
theorem e_M_two_89 : rn Ls xs d 192 89 [l0, l1, l2] (.inl y :: .inl x :: st) H = if x ≠ y then rn Ls xs d 192 96 [l0, l1, l2] st H else rn Ls xs d 192 92 [l0, l1, l2] st H := rn_cmp (p := fun x y => x ≠ y) rfl
theorem e_M_two_92 : rn Ls xs d 192 92 [l0, l1, l2]  st H = rn Ls xs d 192 93 [l0, l1, l2] (.inl 1 :: st) H := rn_nx rfl rfl
theorem e_M_two_93 : rn Ls xs d 192 93 [l0, l1, l2] st H = rn Ls xs d 192 97 [l0, l1, l2] st H := rn_nx rfl rfl
theorem e_M_two_96 : rn Ls xs d 192 96 [l0, l1, l2]  st H = rn Ls xs d 192 97 [l0, l1, l2] (.inl 0 :: st) H := rn_nx rfl rfl
theorem e_M_two_97 : rn Ls xs d 192 97 [l0, l1, l2] [.inl x] H = some (some (.inl x), H) := rn_done rfl rfl
theorem e_M_two_98 : rn Ls xs d 192 98 [l0, some (.inl x), l2] st H = rn Ls xs d 192 99 [l0, some (.inl x), l2] (.inl x :: st) H := rn_nx rfl rfl
theorem e_M_two_99 : rn Ls xs d 192 99 [l0, l1, some (.inl x)] st H = rn Ls xs d 192 100 [l0, l1, some (.inl x)] (.inl x :: st) H := rn_nx rfl rfl
theorem e_M_two_100 : rn Ls xs d 192 100 [l0, l1, l2] (.inl y :: .inl x :: st) H = if x ≤ y then rn Ls xs d 192 107 [l0, l1, l2] st H else rn Ls xs d 192 103 [l0, l1, l2] st H := rn_cmp (p := fun x y => x ≤ y) rfl
theorem e_M_two_103 : rn Ls xs d 192 103 [l0, l1, l2]  st H = rn Ls xs d 192 104 [l0, l1, l2] (.inl 1 :: st) H := rn_nx rfl rfl
theorem e_M_two_104 : rn Ls xs d 192 104 [l0, l1, l2] st H = rn Ls xs d 192 108 [l0, l1, l2] st H := rn_nx rfl rfl
theorem e_M_two_107 : rn Ls xs d 192 107 [l0, l1, l2]  st H = rn Ls xs d 192 108 [l0, l1, l2] (.inl 0 :: st) H := rn_nx rfl rfl
theorem e_M_two_108 : rn Ls xs d 192 108 [l0, l1, l2] [.inl x] H = some (some (.inl x), H) := rn_done rfl rfl
theorem e_M_two_109 : rn Ls xs d 192 109 [l0, some (.inl x), l2] st H = rn Ls xs d 192 110 [l0, some (.inl x), l2] (.inl x :: st) H := rn_nx rfl rfl
theorem e_M_two_110 : rn Ls xs d 192 110 [l0, l1, some (.inl x)] st H = rn Ls xs d 192 111 [l0, l1, some (.inl x)] (.inl x :: st) H := rn_nx rfl rfl
theorem e_M_two_111 : rn Ls xs d 192 111 [l0, l1, l2] (.inl y :: .inl x :: st) H = rn Ls xs d 192 112 [l0, l1, l2] (.inl (x + y) :: st) H := rn_nx rfl rfl
theorem e_M_two_112 : rn Ls xs d 192 112 [l0, l1, l2] [.inl x] H = some (some (.inl x), H) := rn_done rfl rfl
theorem e_M_two_113 : rn Ls xs d 192 113 [l0, some (.inl x), l2] st H = rn Ls xs d 192 114 [l0, some (.inl x), l2] (.inl x :: st) H := rn_nx rfl rfl
theorem e_M_two_114 : rn Ls xs d 192 114 [l0, l1, some (.inl x)] st H = rn Ls xs d 192 115 [l0, l1, some (.inl x)] (.inl x :: st) H := rn_nx rfl rfl
theorem e_M_two_115 : rn Ls xs d 192 115 [l0, l1, l2] (.inl y :: .inl x :: st) H = rn Ls xs d 192 116 [l0, l1, l2] (.inl (x - y) :: st) H := rn_nx rfl rfl
theorem e_M_two_116 : rn Ls xs d 192 116 [l0, l1, l2] [.inl x] H = some (some (.inl x), H) := rn_done rfl rfl
theorem e_M_two_117 : rn Ls xs d 192 117 [l0, some (.inl x), l2] st H = rn Ls xs d 192 118 [l0, some (.inl x), l2] (.inl x :: st) H := rn_nx rfl rfl
theorem e_M_two_118 : rn Ls xs d 192 118 [l0, l1, some (.inl x)] st H = rn Ls xs d 192 119 [l0, l1, some (.inl x)] (.inl x :: st) H := rn_nx rfl rfl
theorem e_M_two_119 : rn Ls xs d 192 119 [l0, l1, l2] (.inl y :: .inl x :: st) H = rn Ls xs d 192 120 [l0, l1, l2] (.inl (x * y) :: st) H := rn_nx rfl rfl
theorem e_M_two_120 : rn Ls xs d 192 120 [l0, l1, l2] [.inl x] H = some (some (.inl x), H) := rn_done rfl rfl
theorem e_M_two_121 : rn Ls xs d 192 121 [l0, l1, some (.inl x)] st H = rn Ls xs d 192 122 [l0, l1, some (.inl x)] (.inl x :: st) H := rn_nx rfl rfl
theorem e_M_two_122 : rn Ls xs d 192 122 [l0, l1, l2] (.inl x :: st) H = if x ≠ 0 then rn Ls xs d 192 129 [l0, l1, l2] st H else rn Ls xs d 192 125 [l0, l1, l2] st H := rn_if (p := fun x => x ≠ 0) rfl
theorem e_M_two_125 : rn Ls xs d 192 125 [l0, l1, l2]  st H = rn Ls xs d 192 126 [l0, l1, l2] (.inl 0 :: st) H := rn_nx rfl rfl
theorem e_M_two_126 : rn Ls xs d 192 126 [l0, l1, l2] st H = rn Ls xs d 192 132 [l0, l1, l2] st H := rn_nx rfl rfl
theorem e_M_two_129 : rn Ls xs d 192 129 [l0, some (.inl x), l2] st H = rn Ls xs d 192 130 [l0, some (.inl x), l2] (.inl x :: st) H := rn_nx rfl rfl
theorem e_M_two_130 : rn Ls xs d 192 130 [l0, l1, some (.inl x)] st H = rn Ls xs d 192 131 [l0, l1, some (.inl x)] (.inl x :: st) H := rn_nx rfl rfl
theorem e_M_two_131 : rn Ls xs d 192 131 [l0, l1, l2] (.inl y :: .inl x :: st) H = if y = 0 then none else rn Ls xs d 192 132 [l0, l1, l2] (.inl (x / y) :: st) H := rn_div (f := fun x y => x / y) rfl
theorem e_M_two_132 : rn Ls xs d 192 132 [l0, l1, l2] [.inl x] H = some (some (.inl x), H) := rn_done rfl rfl
set_option maxRecDepth 20000 in
theorem e_R_step_0 : rn Ls xs d 193 0 [some (.inr u), l1, l2] st H = rn Ls xs d 193 1 [some (.inr u), l1, l2] (.inr u :: st) H := rn_nx rfl rfl
set_option maxRecDepth 20000 in
theorem e_R_step_1 : rn Ls xs d 193 1 [l0, l1, l2] (.inr (.inl (some a)) :: st) (S, I, R) = if h_is S a 1 10 then rn Ls xs d 193 4 [l0, l1, l2] (.inl (I a 9) :: st) (S, I, R) else none := rn_bc rfl rfl
set_option maxRecDepth 20000 in
theorem e_R_step_4 : rn Ls xs d 193 4 [l0, l1, l2] (.inl x :: st) H = if x < 0 then rn Ls xs d 193 8 [l0, l1, l2] st H else rn Ls xs d 193 7 [l0, l1, l2] st H := rn_if (p := fun x => x < 0) rfl
set_option maxRecDepth 20000 in
theorem e_R_step_7 : rn Ls xs d 193 7 [l0, l1, l2] [] H = some (none, H) := rn_done rfl rfl
set_option maxRecDepth 20000 in
theorem e_R_step_8 : rn Ls xs d 193 8 [some (.inr u), l1, l2] st H = rn Ls xs d 193 9 [some (.inr u), l1, l2] (.inr u :: st) H := rn_nx rfl rfl
set_option maxRecDepth 20000 in
theorem e_R_step_9 : rn Ls xs d 193 9 [l0, l1, l2] (.inr (.inl (some a)) :: st) (S, I, R) = if h_is S a 1 10 then rn Ls xs d 193 12 [l0, l1, l2] (.inl (I a 7) :: st) (S, I, R) else none := rn_bc rfl rfl
set_option maxRecDepth 20000 in
theorem e_R_step_12 : rn Ls xs d 193 12 [l0, l1, l2] (.inl x :: st) H = rn Ls xs d 193 13 [l0, some (.inl x), l2] st H := rn_nx rfl rfl
set_option maxRecDepth 20000 in
theorem e_R_step_13 : rn Ls xs d 193 13 [some (.inr u), l1, l2] st H = rn Ls xs d 193 14 [some (.inr u), l1, l2] (.inr u :: st) H := rn_nx rfl rfl
set_option maxRecDepth 20000 in
theorem e_R_step_14 : rn Ls xs d 193 14 [l0, l1, l2] (.inr (.inl (some a)) :: st) (S, I, R) = if h_is S a 1 10 then rn Ls xs d 193 17 [l0, l1, l2] (.inl (I a 5) :: st) (S, I, R) else none := rn_bc rfl rfl
set_option maxRecDepth 20000 in
theorem e_R_step_17 : rn Ls xs d 193 17 [l0, l1, l2] (.inl x :: st) H = if x = 0 then rn Ls xs d 193 24 [l0, l1, l2] st H else rn Ls xs d 193 20 [l0, l1, l2] st H := rn_if (p := fun x => x = 0) rfl
set_option maxRecDepth 20000 in
theorem e_R_step_20 : rn Ls xs d 193 20 [l0, l1, l2]  st H = rn Ls xs d 193 21 [l0, l1, l2] (.inl 1 :: st) H := rn_nx rfl rfl
set_option maxRecDepth 20000 in
theorem e_R_step_21 : rn Ls xs d 193 21 [l0, l1, l2] st H = rn Ls xs d 193 25 [l0, l1, l2] st H := rn_nx rfl rfl
set_option maxRecDepth 20000 in
theorem e_R_step_24 : rn Ls xs d 193 24 [l0, l1, l2]  st H = rn Ls xs d 193 25 [l0, l1, l2] (.inl 0 :: st) H := rn_nx rfl rfl
set_option maxRecDepth 20000 in
theorem e_R_step_25 : rn Ls xs d 193 25 [l0, l1, l2] (.inl x :: st) H = rn Ls xs d 193 26 [l0, l1, some (.inl x)] st H := rn_nx rfl rfl
set_option maxRecDepth 20000 in
theorem e_R_step_26 : rn Ls xs d 193 26 [some (.inr u), l1, l2] st H = rn Ls xs d 193 27 [some (.inr u), l1, l2] (.inr u :: st) H := rn_nx rfl rfl
set_option maxRecDepth 20000 in
theorem e_R_step_27 : rn Ls xs d 193 27 [l0, some (.inl x), l2] st H = rn Ls xs d 193 28 [l0, some (.inl x), l2] (.inl x :: st) H := rn_nx rfl rfl
set_option maxRecDepth 20000 in
theorem e_R_step_28 : rn Ls xs d 193 28 [l0, l1, l2] (.inl x :: .inr (.inl (some a)) :: st) (S, I, R) = if h_is S a 1 10 then rn Ls xs d 193 31 [l0, l1, l2] st (S, va_up I a (upd (I a) 6 x), R) else none := rn_bc rfl rfl
set_option maxRecDepth 20000 in
theorem e_R_step_31 : rn Ls xs d 193 31 [some (.inr u), l1, l2] st H = rn Ls xs d 193 32 [some (.inr u), l1, l2] (.inr u :: st) H := rn_nx rfl rfl
set_option maxRecDepth 20000 in
theorem e_R_step_32 : rn Ls xs d 193 32 [l0, l1, l2] (.inr (.inl (some a)) :: st) (S, I, R) = if h_is S a 1 10 then rn Ls xs d 193 35 [l0, l1, l2] (.inl (I a 6) :: st) (S, I, R) else none := rn_bc rfl rfl
set_option maxRecDepth 20000 in
theorem e_R_step_35 : rn Ls xs d 193 35 [some (.inr u), l1, l2] st H = rn Ls xs d 193 36 [some (.inr u), l1, l2] (.inr u :: st) H := rn_nx rfl rfl
set_option maxRecDepth 20000 in
theorem e_R_step_36 : rn Ls xs d 193 36 [l0, l1, l2] (.inr (.inl (some a)) :: st) (S, I, R) = if h_is S a 1 10 then rn Ls xs d 193 39 [l0, l1, l2] (.inr (R a 0) :: st) (S, I, R) else none := rn_bc rfl rfl
set_option maxRecDepth 20000 in
theorem e_R_step_39 : rn Ls xs d 193 39 [l0, l1, l2] (.inr (.inl (some a)) :: st) (S, I, R) = if h_is S a 5 2 then rn Ls xs d 193 42 [l0, l1, l2] (.inl (I a 1) :: st) (S, I, R) else none := rn_bc rfl rfl
set_option maxRecDepth 20000 in
theorem e_R_step_42 : rn Ls xs d 193 42 [l0, l1, l2] (.inl y :: .inl x :: st) H = if y ≤ x then rn Ls xs d 193 75 [l0, l1, l2] st H else rn Ls xs d 193 45 [l0, l1, l2] st H := rn_cmp (p := fun x y => y ≤ x) rfl
set_option maxRecDepth 20000 in
theorem e_R_step_45 : rn Ls xs d 193 45 [some (.inr u), l1, l2] st H = rn Ls xs d 193 46 [some (.inr u), l1, l2] (.inr u :: st) H := rn_nx rfl rfl
set_option maxRecDepth 20000 in
theorem e_R_step_46 : rn Ls xs d 193 46 [l0, l1, l2] (.inr (.inl (some a)) :: st) (S, I, R) = if h_is S a 1 10 then rn Ls xs d 193 49 [l0, l1, l2] (.inr (R a 0) :: st) (S, I, R) else none := rn_bc rfl rfl
set_option maxRecDepth 20000 in
theorem e_R_step_49 : rn Ls xs d 193 49 [l0, l1, l2] (.inr (.inl (some a)) :: st) (S, I, R) = if h_is S a 5 2 then rn Ls xs d 193 52 [l0, l1, l2] (.inr (R a 0) :: st) (S, I, R) else none := rn_bc rfl rfl
set_option maxRecDepth 20000 in
theorem e_R_step_52 : rn Ls xs d 193 52 [some (.inr u), l1, l2] st H = rn Ls xs d 193 53 [some (.inr u), l1, l2] (.inr u :: st) H := rn_nx rfl rfl
set_option maxRecDepth 20000 in
theorem e_R_step_53 : rn Ls xs d 193 53 [l0, l1, l2] (.inr (.inl (some a)) :: st) (S, I, R) = if h_is S a 1 10 then rn Ls xs d 193 56 [l0, l1, l2] (.inl (I a 6) :: st) (S, I, R) else none := rn_bc rfl rfl
set_option maxRecDepth 20000 in
theorem e_R_step_56 : rn Ls xs d 193 56 [l0, l1, l2] (.inl i :: .inr (.inl (some a)) :: st) (S, I, R) = if h_ia S a 0 i then rn Ls xs d 193 57 [l0, l1, l2] (.inl (I a i.toNatClampNeg) :: st) (S, I, R) else none := rn_bc rfl rfl
set_option maxRecDepth 20000 in
theorem e_R_step_57 : rn Ls xs d 193 57 [l0, l1, l2]  st H = rn Ls xs d 193 59 [l0, l1, l2] (.inl 32 :: st) H := rn_nx rfl rfl
set_option maxRecDepth 20000 in
theorem e_R_step_59 : rn Ls xs d 193 59 [l0, l1, l2] (.inl y :: .inl x :: st) H = if x ≠ y then rn Ls xs d 193 75 [l0, l1, l2] st H else rn Ls xs d 193 62 [l0, l1, l2] st H := rn_cmp (p := fun x y => x ≠ y) rfl
set_option maxRecDepth 20000 in
theorem e_R_step_62 : rn Ls xs d 193 62 [some (.inr u), l1, l2] st H = rn Ls xs d 193 63 [some (.inr u), l1, l2] (.inr u :: st) H := rn_nx rfl rfl
set_option maxRecDepth 20000 in
theorem e_R_step_63 : rn Ls xs d 193 63 [l0, l1, l2] (v :: st) H = rn Ls xs d 193 64 [l0, l1, l2] (v :: v :: st) H := rn_nx rfl rfl
set_option maxRecDepth 20000 in
theorem e_R_step_64 : rn Ls xs d 193 64 [l0, l1, l2] (.inr (.inl (some a)) :: st) (S, I, R) = if h_is S a 1 10 then rn Ls xs d 193 67 [l0, l1, l2] (.inl (I a 6) :: st) (S, I, R) else none := rn_bc rfl rfl
set_option maxRecDepth 20000 in
theorem e_R_step_67 : rn Ls xs d 193 67 [l0, l1, l2]  st H = rn Ls xs d 193 68 [l0, l1, l2] (.inl 1 :: st) H := rn_nx rfl rfl
set_option maxRecDepth 20000 in
theorem e_R_step_68 : rn Ls xs d 193 68 [l0, l1, l2] (.inl y :: .inl x :: st) H = rn Ls xs d 193 69 [l0, l1, l2] (.inl (x + y) :: st) H := rn_nx rfl rfl
set_option maxRecDepth 20000 in
theorem e_R_step_69 : rn Ls xs d 193 69 [l0, l1, l2] (.inl x :: .inr (.inl (some a)) :: st) (S, I, R) = if h_is S a 1 10 then rn Ls xs d 193 72 [l0, l1, l2] st (S, va_up I a (upd (I a) 6 x), R) else none := rn_bc rfl rfl
set_option maxRecDepth 20000 in
theorem e_R_step_72 : rn Ls xs d 193 72 [l0, l1, l2] st H = rn Ls xs d 193 31 [l0, l1, l2] st H := rn_nx rfl rfl
set_option maxRecDepth 20000 in
theorem e_R_step_75 : rn Ls xs d 193 75 [some (.inr u), l1, l2] st H = rn Ls xs d 193 76 [some (.inr u), l1, l2] (.inr u :: st) H := rn_nx rfl rfl
set_option maxRecDepth 20000 in
theorem e_R_step_76 : rn Ls xs d 193 76 [some (.inr u), l1, l2] st H = rn Ls xs d 193 77 [some (.inr u), l1, l2] (.inr u :: st) H := rn_nx rfl rfl
set_option maxRecDepth 20000 in
theorem e_R_step_77 : rn Ls xs d 193 77 [l0, l1, l2] (.inr (.inl (some a)) :: st) (S, I, R) = if h_is S a 1 10 then rn Ls xs d 193 80 [l0, l1, l2] (.inl (I a 6) :: st) (S, I, R) else none := rn_bc rfl rfl
set_option maxRecDepth 20000 in
theorem e_R_step_80 : rn Ls xs d 193 80 [some (.inr u), l1, l2] st H = rn Ls xs d 193 81 [some (.inr u), l1, l2] (.inr u :: st) H := rn_nx rfl rfl
set_option maxRecDepth 20000 in
theorem e_R_step_81 : rn Ls xs d 193 81 [l0, l1, l2] (.inr (.inl (some a)) :: st) (S, I, R) = if h_is S a 1 10 then rn Ls xs d 193 84 [l0, l1, l2] (.inr (R a 0) :: st) (S, I, R) else none := rn_bc rfl rfl
set_option maxRecDepth 20000 in
theorem e_R_step_84 : rn Ls xs d 193 84 [l0, l1, l2] (.inr (.inl (some a)) :: st) (S, I, R) = if h_is S a 5 2 then rn Ls xs d 193 87 [l0, l1, l2] (.inl (I a 1) :: st) (S, I, R) else none := rn_bc rfl rfl
set_option maxRecDepth 20000 in
theorem e_R_step_87 : rn Ls xs d 193 87 [l0, l1, l2] (.inl y :: .inl x :: st) H = if y ≤ x then rn Ls xs d 193 108 [l0, l1, l2] st H else rn Ls xs d 193 90 [l0, l1, l2] st H := rn_cmp (p := fun x y => y ≤ x) rfl
set_option maxRecDepth 20000 in
theorem e_R_step_90 : rn Ls xs d 193 90 [some (.inr u), l1, l2] st H = rn Ls xs d 193 91 [some (.inr u), l1, l2] (.inr u :: st) H := rn_nx rfl rfl
set_option maxRecDepth 20000 in
theorem e_R_step_91 : rn Ls xs d 193 91 [l0, l1, l2] (.inr (.inl (some a)) :: st) (S, I, R) = if h_is S a 1 10 then rn Ls xs d 193 94 [l0, l1, l2] (.inr (R a 0) :: st) (S, I, R) else none := rn_bc rfl rfl
set_option maxRecDepth 20000 in
theorem e_R_step_94 : rn Ls xs d 193 94 [l0, l1, l2] (.inr (.inl (some a)) :: st) (S, I, R) = if h_is S a 5 2 then rn Ls xs d 193 97 [l0, l1, l2] (.inr (R a 0) :: st) (S, I, R) else none := rn_bc rfl rfl
set_option maxRecDepth 20000 in
theorem e_R_step_97 : rn Ls xs d 193 97 [some (.inr u), l1, l2] st H = rn Ls xs d 193 98 [some (.inr u), l1, l2] (.inr u :: st) H := rn_nx rfl rfl
set_option maxRecDepth 20000 in
theorem e_R_step_98 : rn Ls xs d 193 98 [l0, l1, l2] (.inr (.inl (some a)) :: st) (S, I, R) = if h_is S a 1 10 then rn Ls xs d 193 101 [l0, l1, l2] (.inl (I a 6) :: st) (S, I, R) else none := rn_bc rfl rfl
set_option maxRecDepth 20000 in
theorem e_R_step_101 : rn Ls xs d 193 101 [l0, l1, l2] (.inl i :: .inr (.inl (some a)) :: st) (S, I, R) = if h_ia S a 0 i then rn Ls xs d 193 102 [l0, l1, l2] (.inl (I a i.toNatClampNeg) :: st) (S, I, R) else none := rn_bc rfl rfl
set_option maxRecDepth 20000 in
theorem e_R_step_102 : rn Ls xs (d + 1) 193 102 [l0, l1, l2] [v0, v1] H = rb Ls xs (d + 1) 193 105 [l0, l1, l2] [v1] (rn Ls xs d 210 0 [some v0] [] H) := rn_call rfl (Nat.le_of_ble_eq_true rfl) (Nat.le_of_ble_eq_true rfl) rfl rfl
set_option maxRecDepth 20000 in
theorem e_R_step_105 : rn Ls xs d 193 105 [l0, l1, l2] st H = rn Ls xs d 193 109 [l0, l1, l2] st H := rn_nx rfl rfl
set_option maxRecDepth 20000 in
theorem e_R_step_108 : rn Ls xs d 193 108 [l0, l1, l2]  st H = rn Ls xs d 193 109 [l0, l1, l2] (.inl 3 :: st) H := rn_nx rfl rfl
set_option maxRecDepth 20000 in
theorem e_R_step_109 : rn Ls xs d 193 109 [l0, l1, l2] (.inl x :: .inr (.inl (some a)) :: st) (S, I, R) = if h_is S a 1 10 then rn Ls xs d 193 112 [l0, l1, l2] st (S, va_up I a (upd (I a) 5 x), R) else none := rn_bc rfl rfl
set_option maxRecDepth 20000 in
theorem e_R_step_112 : rn Ls xs d 193 112 [some (.inr u), l1, l2] st H = rn Ls xs d 193 113 [some (.inr u), l1, l2] (.inr u :: st) H := rn_nx rfl rfl
set_option maxRecDepth 20000 in
theorem e_R_step_113 : rn Ls xs d 193 113 [some (.inr u), l1, l2] st H = rn Ls xs d 193 114 [some (.inr u), l1, l2] (.inr u :: st) H := rn_nx rfl rfl
set_option maxRecDepth 20000 in
theorem e_R_step_114 : rn Ls xs d 193 114 [l0, l1, l2] (.inr (.inl (some a)) :: st) (S, I, R) = if h_is S a 1 10 then rn Ls xs d 193 117 [l0, l1, l2] (.inl (I a 6) :: st) (S, I, R) else none := rn_bc rfl rfl
set_option maxRecDepth 20000 in
theorem e_R_step_117 : rn Ls xs d 193 117 [l0, l1, l2]  st H = rn Ls xs d 193 118 [l0, l1, l2] (.inl 1 :: st) H := rn_nx rfl rfl
set_option maxRecDepth 20000 in
theorem e_R_step_118 : rn Ls xs d 193 118 [l0, l1, l2] (.inl y :: .inl x :: st) H = rn Ls xs d 193 119 [l0, l1, l2] (.inl (x + y) :: st) H := rn_nx rfl rfl
set_option maxRecDepth 20000 in
theorem e_R_step_119 : rn Ls xs d 193 119 [some (.inr u), l1, l2] st H = rn Ls xs d 193 120 [some (.inr u), l1, l2] (.inr u :: st) H := rn_nx rfl rfl
set_option maxRecDepth 20000 in
theorem e_R_step_120 : rn Ls xs d 193 120 [l0, l1, l2] (.inr (.inl (some a)) :: st) (S, I, R) = if h_is S a 1 10 then rn Ls xs d 193 123 [l0, l1, l2] (.inr (R a 0) :: st) (S, I, R) else none := rn_bc rfl rfl
set_option maxRecDepth 20000 in
theorem e_R_step_123 : rn Ls xs d 193 123 [l0, l1, l2] (.inr (.inl (some a)) :: st) (S, I, R) = if h_is S a 5 2 then rn Ls xs d 193 126 [l0, l1, l2] (.inl (I a 1) :: st) (S, I, R) else none := rn_bc rfl rfl
set_option maxRecDepth 20000 in
theorem e_R_step_126 : rn Ls xs (d + 1) 193 126 [l0, l1, l2] [v1, v0, v2] H = rb Ls xs (d + 1) 193 129 [l0, l1, l2] [v2] (rn Ls xs d 116 0 [some v0, some v1] [] H) := rn_call rfl (Nat.le_of_ble_eq_true rfl) (Nat.le_of_ble_eq_true rfl) rfl rfl
set_option maxRecDepth 20000 in
theorem e_R_step_129 : rn Ls xs d 193 129 [l0, l1, l2] (.inl x :: .inr (.inl (some a)) :: st) (S, I, R) = if h_is S a 1 10 then rn Ls xs d 193 132 [l0, l1, l2] st (S, va_up I a (upd (I a) 7 x), R) else none := rn_bc rfl rfl
set_option maxRecDepth 20000 in
theorem e_R_step_132 : rn Ls xs d 193 132 [some (.inr u), l1, l2] st H = rn Ls xs d 193 133 [some (.inr u), l1, l2] (.inr u :: st) H := rn_nx rfl rfl
set_option maxRecDepth 20000 in
theorem e_R_step_133 : rn Ls xs d 193 133 [l0, l1, l2] (.inr (.inl (some a)) :: st) (S, I, R) = if h_is S a 1 10 then rn Ls xs d 193 136 [l0, l1, l2] (.inl (I a 5) :: st) (S, I, R) else none := rn_bc rfl rfl
set_option maxRecDepth 20000 in
theorem e_R_step_136 : rn Ls xs d 193 136 [l0, l1, l2] (.inl x :: st) H = if x = 0 then rn Ls xs d 193 188 [l0, l1, l2] st H else rn Ls xs d 193 139 [l0, l1, l2] st H := rn_if (p := fun x => x = 0) rfl
set_option maxRecDepth 20000 in
theorem e_R_step_139 : rn Ls xs d 193 139 [some (.inr u), l1, l2] st H = rn Ls xs d 193 140 [some (.inr u), l1, l2] (.inr u :: st) H := rn_nx rfl rfl
set_option maxRecDepth 20000 in
theorem e_R_step_140 : rn Ls xs d 193 140 [l0, l1, l2] (.inr (.inl (some a)) :: st) (S, I, R) = if h_is S a 1 10 then rn Ls xs d 193 143 [l0, l1, l2] (.inl (I a 7) :: st) (S, I, R) else none := rn_bc rfl rfl
set_option maxRecDepth 20000 in
theorem e_R_step_143 : rn Ls xs d 193 143 [some (.inr u), l1, l2] st H = rn Ls xs d 193 144 [some (.inr u), l1, l2] (.inr u :: st) H := rn_nx rfl rfl
set_option maxRecDepth 20000 in
theorem e_R_step_144 : rn Ls xs d 193 144 [l0, l1, l2] (.inr (.inl (some a)) :: st) (S, I, R) = if h_is S a 1 10 then rn Ls xs d 193 147 [l0, l1, l2] (.inr (R a 0) :: st) (S, I, R) else none := rn_bc rfl rfl
set_option maxRecDepth 20000 in
theorem e_R_step_147 : rn Ls xs d 193 147 [l0, l1, l2] (.inr (.inl (some a)) :: st) (S, I, R) = if h_is S a 5 2 then rn Ls xs d 193 150 [l0, l1, l2] (.inl (I a 1) :: st) (S, I, R) else none := rn_bc rfl rfl
set_option maxRecDepth 20000 in
theorem e_R_step_150 : rn Ls xs d 193 150 [l0, l1, l2] (.inl y :: .inl x :: st) H = if y ≤ x then rn Ls xs d 193 188 [l0, l1, l2] st H else rn Ls xs d 193 153 [l0, l1, l2] st H := rn_cmp (p := fun x y => y ≤ x) rfl
set_option maxRecDepth 20000 in
theorem e_R_step_153 : rn Ls xs d 193 153 [some (.inr u), l1, l2] st H = rn Ls xs d 193 154 [some (.inr u), l1, l2] (.inr u :: st) H := rn_nx rfl rfl
set_option maxRecDepth 20000 in
theorem e_R_step_154 : rn Ls xs d 193 154 [l0, l1, l2] (.inr (.inl (some a)) :: st) (S, I, R) = if h_is S a 1 10 then rn Ls xs d 193 157 [l0, l1, l2] (.inr (R a 0) :: st) (S, I, R) else none := rn_bc rfl rfl
set_option maxRecDepth 20000 in
theorem e_R_step_157 : rn Ls xs d 193 157 [l0, l1, l2] (.inr (.inl (some a)) :: st) (S, I, R) = if h_is S a 5 2 then rn Ls xs d 193 160 [l0, l1, l2] (.inr (R a 0) :: st) (S, I, R) else none := rn_bc rfl rfl
set_option maxRecDepth 20000 in
theorem e_R_step_160 : rn Ls xs d 193 160 [some (.inr u), l1, l2] st H = rn Ls xs d 193 161 [some (.inr u), l1, l2] (.inr u :: st) H := rn_nx rfl rfl
set_option maxRecDepth 20000 in
theorem e_R_step_161 : rn Ls xs d 193 161 [l0, l1, l2] (.inr (.inl (some a)) :: st) (S, I, R) = if h_is S a 1 10 then rn Ls xs d 193 164 [l0, l1, l2] (.inl (I a 7) :: st) (S, I, R) else none := rn_bc rfl rfl
set_option maxRecDepth 20000 in
theorem e_R_step_164 : rn Ls xs d 193 164 [l0, l1, l2] (.inl i :: .inr (.inl (some a)) :: st) (S, I, R) = if h_ia S a 0 i then rn Ls xs d 193 165 [l0, l1, l2] (.inl (I a i.toNatClampNeg) :: st) (S, I, R) else none := rn_bc rfl rfl
set_option maxRecDepth 20000 in
theorem e_R_step_165 : rn Ls xs (d + 1) 193 165 [l0, l1, l2] [v0] H = rb Ls xs (d + 1) 193 168 [l0, l1, l2] [] (rn Ls xs d 210 0 [some v0] [] H) := rn_call rfl (Nat.le_of_ble_eq_true rfl) (Nat.le_of_ble_eq_true rfl) rfl rfl
set_option maxRecDepth 20000 in
theorem e_R_step_168 : rn Ls xs d 193 168 [some (.inr u), l1, l2] st H = rn Ls xs d 193 169 [some (.inr u), l1, l2] (.inr u :: st) H := rn_nx rfl rfl
set_option maxRecDepth 20000 in
theorem e_R_step_169 : rn Ls xs d 193 169 [l0, l1, l2] (.inr (.inl (some a)) :: st) (S, I, R) = if h_is S a 1 10 then rn Ls xs d 193 172 [l0, l1, l2] (.inl (I a 5) :: st) (S, I, R) else none := rn_bc rfl rfl
set_option maxRecDepth 20000 in
theorem e_R_step_172 : rn Ls xs d 193 172 [l0, l1, l2] (.inl y :: .inl x :: st) H = if x ≠ y then rn Ls xs d 193 188 [l0, l1, l2] st H else rn Ls xs d 193 175 [l0, l1, l2] st H := rn_cmp (p := fun x y => x ≠ y) rfl
set_option maxRecDepth 20000 in
theorem e_R_step_175 : rn Ls xs d 193 175 [some (.inr u), l1, l2] st H = rn Ls xs d 193 176 [some (.inr u), l1, l2] (.inr u :: st) H := rn_nx rfl rfl
set_option maxRecDepth 20000 in
theorem e_R_step_176 : rn Ls xs d 193 176 [l0, l1, l2] (v :: st) H = rn Ls xs d 193 177 [l0, l1, l2] (v :: v :: st) H := rn_nx rfl rfl
set_option maxRecDepth 20000 in
theorem e_R_step_177 : rn Ls xs d 193 177 [l0, l1, l2] (.inr (.inl (some a)) :: st) (S, I, R) = if h_is S a 1 10 then rn Ls xs d 193 180 [l0, l1, l2] (.inl (I a 7) :: st) (S, I, R) else none := rn_bc rfl rfl
set_option maxRecDepth 20000 in
theorem e_R_step_180 : rn Ls xs d 193 180 [l0, l1, l2]  st H = rn Ls xs d 193 181 [l0, l1, l2] (.inl 1 :: st) H := rn_nx rfl rfl
set_option maxRecDepth 20000 in
theorem e_R_step_181 : rn Ls xs d 193 181 [l0, l1, l2] (.inl y :: .inl x :: st) H = rn Ls xs d 193 182 [l0, l1, l2] (.inl (x + y) :: st) H := rn_nx rfl rfl
set_option maxRecDepth 20000 in
theorem e_R_step_182 : rn Ls xs d 193 182 [l0, l1, l2] (.inl x :: .inr (.inl (some a)) :: st) (S, I, R) = if h_is S a 1 10 then rn Ls xs d 193 185 [l0, l1, l2] st (S, va_up I a (upd (I a) 7 x), R) else none := rn_bc rfl rfl
set_option maxRecDepth 20000 in
theorem e_R_step_185 : rn Ls xs d 193 185 [l0, l1, l2] st H = rn Ls xs d 193 132 [l0, l1, l2] st H := rn_nx rfl rfl
set_option maxRecDepth 20000 in
theorem e_R_step_188 : rn Ls xs d 193 188 [some (.inr u), l1, l2] st H = rn Ls xs d 193 189 [some (.inr u), l1, l2] (.inr u :: st) H := rn_nx rfl rfl
set_option maxRecDepth 20000 in
theorem e_R_step_189 : rn Ls xs d 193 189 [l0, l1, some (.inl x)] st H = rn Ls xs d 193 190 [l0, l1, some (.inl x)] (.inl x :: st) H := rn_nx rfl rfl
set_option maxRecDepth 20000 in
theorem e_R_step_190 : rn Ls xs d 193 190 [l0, l1, l2] (.inl x :: st) H = if x = 0 then rn Ls xs d 193 212 [l0, l1, l2] st H else rn Ls xs d 193 193 [l0, l1, l2] st H := rn_if (p := fun x => x = 0) rfl
set_option maxRecDepth 20000 in
theorem e_R_step_193 : rn Ls xs d 193 193 [some (.inr u), l1, l2] st H = rn Ls xs d 193 194 [some (.inr u), l1, l2] (.inr u :: st) H := rn_nx rfl rfl
set_option maxRecDepth 20000 in
theorem e_R_step_194 : rn Ls xs d 193 194 [l0, l1, l2] (.inr (.inl (some a)) :: st) (S, I, R) = if h_is S a 1 10 then rn Ls xs d 193 197 [l0, l1, l2] (.inl (I a 5) :: st) (S, I, R) else none := rn_bc rfl rfl
set_option maxRecDepth 20000 in
theorem e_R_step_197 : rn Ls xs d 193 197 [l0, l1, l2] (.inl x :: st) H = if x = 0 then rn Ls xs d 193 212 [l0, l1, l2] st H else rn Ls xs d 193 200 [l0, l1, l2] st H := rn_if (p := fun x => x = 0) rfl
set_option maxRecDepth 20000 in
theorem e_R_step_200 : rn Ls xs d 193 200 [some (.inr u), l1, l2] st H = rn Ls xs d 193 201 [some (.inr u), l1, l2] (.inr u :: st) H := rn_nx rfl rfl
set_option maxRecDepth 20000 in
theorem e_R_step_201 : rn Ls xs d 193 201 [l0, l1, l2] (.inr (.inl (some a)) :: st) (S, I, R) = if h_is S a 1 10 then rn Ls xs d 193 204 [l0, l1, l2] (.inl (I a 6) :: st) (S, I, R) else none := rn_bc rfl rfl
set_option maxRecDepth 20000 in
theorem e_R_step_204 : rn Ls xs d 193 204 [l0, some (.inl x), l2] st H = rn Ls xs d 193 205 [l0, some (.inl x), l2] (.inl x :: st) H := rn_nx rfl rfl
set_option maxRecDepth 20000 in
theorem e_R_step_205 : rn Ls xs d 193 205 [l0, l1, l2] (.inl y :: .inl x :: st) H = if x ≠ y then rn Ls xs d 193 212 [l0, l1, l2] st H else rn Ls xs d 193 208 [l0, l1, l2] st H := rn_cmp (p := fun x y => x ≠ y) rfl
set_option maxRecDepth 20000 in
theorem e_R_step_208 : rn Ls xs d 193 208 [l0, l1, l2]  st H = rn Ls xs d 193 209 [l0, l1, l2] (.inl 1 :: st) H := rn_nx rfl rfl
set_option maxRecDepth 20000 in
theorem e_R_step_209 : rn Ls xs d 193 209 [l0, l1, l2] st H = rn Ls xs d 193 213 [l0, l1, l2] st H := rn_nx rfl rfl
set_option maxRecDepth 20000 in
theorem e_R_step_212 : rn Ls xs d 193 212 [l0, l1, l2]  st H = rn Ls xs d 193 213 [l0, l1, l2] (.inl 0 :: st) H := rn_nx rfl rfl
set_option maxRecDepth 20000 in
theorem e_R_step_213 : rn Ls xs d 193 213 [l0, l1, l2] (.inl x :: .inr (.inl (some a)) :: st) (S, I, R) = if h_is S a 1 10 && h_bo x then rn Ls xs d 193 216 [l0, l1, l2] st (S, va_up I a (upd (I a) 8 x), R) else none := rn_bc rfl rfl
set_option maxRecDepth 20000 in
theorem e_R_step_216 : rn Ls xs d 193 216 [l0, l1, l2] [] H = some (none, H) := rn_done rfl rfl
theorem e_R_readKey_0 : rn Ls xs d 194 0 [l0, l1]  st H = rn Ls xs d 194 1 [l0, l1] (.inl 0 :: st) H := rn_nx rfl rfl
theorem e_R_readKey_1 : rn Ls xs d 194 1 [l0, l1] (.inl x :: st) H = rn Ls xs d 194 2 [l0, some (.inl x)] st H := rn_nx rfl rfl
theorem e_R_readKey_2 : rn Ls xs d 194 2 [some (.inr u), l1] st H = rn Ls xs d 194 3 [some (.inr u), l1] (.inr u :: st) H := rn_nx rfl rfl
theorem e_R_readKey_3 : rn Ls xs d 194 3 [l0, l1] st H = rn Ls xs d 194 5 [l0, l1] (.inr (.inr 11) :: st) H := rn_nx rfl rfl
theorem e_R_readKey_5 : rn Ls xs d 194 5 [l0, l1] (.inr u :: .inr (.inl (some a)) :: st) (S, I, R) = if h_is S a 1 10 then rn Ls xs d 194 8 [l0, l1] st (S, I, va_up R a (va_up (R a) 4 u)) else none := rn_bc rfl rfl
theorem e_R_readKey_8 : rn Ls xs d 194 8 [some (.inr u), l1] st H = rn Ls xs d 194 9 [some (.inr u), l1] (.inr u :: st) H := rn_nx rfl rfl
theorem e_R_readKey_9 : rn Ls xs d 194 9 [l0, l1] st H = rn Ls xs d 194 11 [l0, l1] (.inr (.inr 12) :: st) H := rn_nx rfl rfl
theorem e_R_readKey_11 : rn Ls xs (d + 1) 194 11 [l0, l1] [v1, (.inr (.inl (some a)))] (S, I, R) = if h_is S a 1 10 then rb Ls xs (d + 1) 194 14 [l0, l1] [] (rn Ls xs d 211 0 [some (.inr (.inl (some a))), some v1, none] [] (S, I, R)) else none := rn_callO rfl rfl (Nat.le_of_ble_eq_true rfl) rfl rfl
theorem e_R_readKey_14 : rn Ls xs d 194 14 [l0, l1] (.inl x :: st) H = if x = 0 then rn Ls xs d 194 28 [l0, l1] st H else rn Ls xs d 194 17 [l0, l1] st H := rn_if (p := fun x => x = 0) rfl
theorem e_R_readKey_17 : rn Ls xs d 194 17 [l0, l1]  st H = rn Ls xs d 194 18 [l0, l1] (.inl 1 :: st) H := rn_nx rfl rfl
theorem e_R_readKey_18 : rn Ls xs d 194 18 [l0, l1] (.inl x :: st) H = rn Ls xs d 194 19 [l0, some (.inl x)] st H := rn_nx rfl rfl
theorem e_R_readKey_19 : rn Ls xs d 194 19 [some (.inr u), l1] st H = rn Ls xs d 194 20 [some (.inr u), l1] (.inr u :: st) H := rn_nx rfl rfl
theorem e_R_readKey_20 : rn Ls xs d 194 20 [l0, l1] st H = rn Ls xs d 194 22 [l0, l1] (.inr (.inr 13) :: st) H := rn_nx rfl rfl
theorem e_R_readKey_22 : rn Ls xs d 194 22 [l0, l1] (.inr u :: .inr (.inl (some a)) :: st) (S, I, R) = if h_is S a 1 10 then rn Ls xs d 194 25 [l0, l1] st (S, I, va_up R a (va_up (R a) 4 u)) else none := rn_bc rfl rfl
theorem e_R_readKey_25 : rn Ls xs d 194 25 [l0, l1] st H = rn Ls xs d 194 61 [l0, l1] st H := rn_nx rfl rfl
theorem e_R_readKey_28 : rn Ls xs d 194 28 [some (.inr u), l1] st H = rn Ls xs d 194 29 [some (.inr u), l1] (.inr u :: st) H := rn_nx rfl rfl
theorem e_R_readKey_29 : rn Ls xs d 194 29 [l0, l1] st H = rn Ls xs d 194 31 [l0, l1] (.inr (.inr 14) :: st) H := rn_nx rfl rfl
theorem e_R_readKey_31 : rn Ls xs (d + 1) 194 31 [l0, l1] [v1, (.inr (.inl (some a)))] (S, I, R) = if h_is S a 1 10 then rb Ls xs (d + 1) 194 34 [l0, l1] [] (rn Ls xs d 211 0 [some (.inr (.inl (some a))), some v1, none] [] (S, I, R)) else none := rn_callO rfl rfl (Nat.le_of_ble_eq_true rfl) rfl rfl
theorem e_R_readKey_34 : rn Ls xs d 194 34 [l0, l1] (.inl x :: st) H = if x = 0 then rn Ls xs d 194 48 [l0, l1] st H else rn Ls xs d 194 37 [l0, l1] st H := rn_if (p := fun x => x = 0) rfl
theorem e_R_readKey_37 : rn Ls xs d 194 37 [l0, l1]  st H = rn Ls xs d 194 38 [l0, l1] (.inl 2 :: st) H := rn_nx rfl rfl
theorem e_R_readKey_38 : rn Ls xs d 194 38 [l0, l1] (.inl x :: st) H = rn Ls xs d 194 39 [l0, some (.inl x)] st H := rn_nx rfl rfl
theorem e_R_readKey_39 : rn Ls xs d 194 39 [some (.inr u), l1] st H = rn Ls xs d 194 40 [some (.inr u), l1] (.inr u :: st) H := rn_nx rfl rfl
theorem e_R_readKey_40 : rn Ls xs d 194 40 [l0, l1] st H = rn Ls xs d 194 42 [l0, l1] (.inr (.inr 15) :: st) H := rn_nx rfl rfl
theorem e_R_readKey_42 : rn Ls xs d 194 42 [l0, l1] (.inr u :: .inr (.inl (some a)) :: st) (S, I, R) = if h_is S a 1 10 then rn Ls xs d 194 45 [l0, l1] st (S, I, va_up R a (va_up (R a) 4 u)) else none := rn_bc rfl rfl
theorem e_R_readKey_45 : rn Ls xs d 194 45 [l0, l1] st H = rn Ls xs d 194 61 [l0, l1] st H := rn_nx rfl rfl
theorem e_R_readKey_48 : rn Ls xs d 194 48 [some (.inr u), l1] st H = rn Ls xs d 194 49 [some (.inr u), l1] (.inr u :: st) H := rn_nx rfl rfl
theorem e_R_readKey_49 : rn Ls xs d 194 49 [l0, l1] st H = rn Ls xs d 194 51 [l0, l1] (.inr (.inr 16) :: st) H := rn_nx rfl rfl
theorem e_R_readKey_51 : rn Ls xs (d + 1) 194 51 [l0, l1] [v1, (.inr (.inl (some a)))] (S, I, R) = if h_is S a 1 10 then rb Ls xs (d + 1) 194 54 [l0, l1] [] (rn Ls xs d 211 0 [some (.inr (.inl (some a))), some v1, none] [] (S, I, R)) else none := rn_callO rfl rfl (Nat.le_of_ble_eq_true rfl) rfl rfl
theorem e_R_readKey_54 : rn Ls xs d 194 54 [l0, l1] (.inl x :: st) H = if x ≠ 0 then rn Ls xs d 194 61 [l0, l1] st H else rn Ls xs d 194 57 [l0, l1] st H := rn_if (p := fun x => x ≠ 0) rfl
theorem e_R_readKey_57 : rn Ls xs d 194 57 [some (.inr u), l1] st H = rn Ls xs d 194 58 [some (.inr u), l1] (.inr u :: st) H := rn_nx rfl rfl
theorem e_R_readKey_58 : rn Ls xs (d + 1) 194 58 [l0, l1] [(.inr (.inl (some a)))] (S, I, R) = if h_is S a 1 10 then rb Ls xs (d + 1) 194 61 [l0, l1] [] (rn Ls xs d 196 0 [some (.inr (.inl (some a)))] [] (S, I, R)) else none := rn_callO rfl rfl (Nat.le_of_ble_eq_true rfl) rfl rfl
theorem e_R_readKey_61 : rn Ls xs d 194 61 [some (.inr u), l1] st H = rn Ls xs d 194 62 [some (.inr u), l1] (.inr u :: st) H := rn_nx rfl rfl
theorem e_R_readKey_62 : rn Ls xs (d + 1) 194 62 [l0, l1] [(.inr (.inl (some a)))] (S, I, R) = if h_is S a 1 10 then rb Ls xs (d + 1) 194 65 [l0, l1] [] (rn Ls xs d 193 0 [some (.inr (.inl (some a))), none, none] [] (S, I, R)) else none := rn_callO rfl rfl (Nat.le_of_ble_eq_true rfl) rfl rfl
theorem e_R_readKey_65 : rn Ls xs d 194 65 [l0, some (.inl x)] st H = rn Ls xs d 194 66 [l0, some (.inl x)] (.inl x :: st) H := rn_nx rfl rfl
theorem e_R_readKey_66 : rn Ls xs d 194 66 [l0, l1] [.inl x] H = some (some (.inl x), H) := rn_done rfl rfl
theorem e_R_readLevel_0 : rn Ls xs d 195 0 [l0, some (.inl x), l2, l3, l4, l5, l6] st H = rn Ls xs d 195 1 [l0, some (.inl x), l2, l3, l4, l5, l6] (.inl x :: st) H := rn_nx rfl rfl
theorem e_R_readLevel_1 : rn Ls xs d 195 1 [l0, l1, l2, l3, l4, l5, l6]  st H = rn Ls xs d 195 2 [l0, l1, l2, l3, l4, l5, l6] (.inl 5 :: st) H := rn_nx rfl rfl
theorem e_R_readLevel_2 : rn Ls xs d 195 2 [l0, l1, l2, l3, l4, l5, l6] (.inl y :: .inl x :: st) H = if x ≠ y then rn Ls xs d 195 12 [l0, l1, l2, l3, l4, l5, l6] st H else rn Ls xs d 195 5 [l0, l1, l2, l3, l4, l5, l6] st H := rn_cmp (p := fun x y => x ≠ y) rfl
theorem e_R_readLevel_5 : rn Ls xs d 195 5 [some (.inr u), l1, l2, l3, l4, l5, l6] st H = rn Ls xs d 195 6 [some (.inr u), l1, l2, l3, l4, l5, l6] (.inr u :: st) H := rn_nx rfl rfl
theorem e_R_readLevel_6 : rn Ls xs d 195 6 [l0, l1, some (.inl x), l3, l4, l5, l6] st H = rn Ls xs d 195 7 [l0, l1, some (.inl x), l3, l4, l5, l6] (.inl x :: st) H := rn_nx rfl rfl
theorem e_R_readLevel_7 : rn Ls xs d 195 7 [l0, l1, l2, some (.inl x), l4, l5, l6] st H = rn Ls xs d 195 8 [l0, l1, l2, some (.inl x), l4, l5, l6] (.inl x :: st) H := rn_nx rfl rfl
theorem e_R_readLevel_8 : rn Ls xs (d + 1) 195 8 [l0, l1, l2, l3, l4, l5, l6] [v2, v1, (.inr (.inl (some a)))] (S, I, R) = if h_is S a 1 10 then rb Ls xs (d + 1) 195 11 [l0, l1, l2, l3, l4, l5, l6] [] (rn Ls xs d 212 0 [some (.inr (.inl (some a))), some v1, some v2] [] (S, I, R)) else none := rn_callO rfl rfl (Nat.le_of_ble_eq_true rfl) rfl rfl
theorem e_R_readLevel_11 : rn Ls xs d 195 11 [l0, l1, l2, l3, l4, l5, l6] [] H = some (none, H) := rn_done rfl rfl
theorem e_R_readLevel_12 : rn Ls xs d 195 12 [some (.inr u), l1, l2, l3, l4, l5, l6] st H = rn Ls xs d 195 13 [some (.inr u), l1, l2, l3, l4, l5, l6] (.inr u :: st) H := rn_nx rfl rfl
theorem e_R_readLevel_13 : rn Ls xs d 195 13 [l0, some (.inl x), l2, l3, l4, l5, l6] st H = rn Ls xs d 195 14 [l0, some (.inl x), l2, l3, l4, l5, l6] (.inl x :: st) H := rn_nx rfl rfl
theorem e_R_readLevel_14 : rn Ls xs d 195 14 [l0, l1, l2, l3, l4, l5, l6]  st H = rn Ls xs d 195 15 [l0, l1, l2, l3, l4, l5, l6] (.inl 1 :: st) H := rn_nx rfl rfl
theorem e_R_readLevel_15 : rn Ls xs d 195 15 [l0, l1, l2, l3, l4, l5, l6] (.inl y :: .inl x :: st) H = rn Ls xs d 195 16 [l0, l1, l2, l3, l4, l5, l6] (.inl (x + y) :: st) H := rn_nx rfl rfl
theorem e_R_readLevel_16 : rn Ls xs d 195 16 [l0, l1, some (.inl x), l3, l4, l5, l6] st H = rn Ls xs d 195 17 [l0, l1, some (.inl x), l3, l4, l5, l6] (.inl x :: st) H := rn_nx rfl rfl
theorem e_R_readLevel_17 : rn Ls xs d 195 17 [l0, l1, l2, some (.inl x), l4, l5, l6] st H = rn Ls xs d 195 18 [l0, l1, l2, some (.inl x), l4, l5, l6] (.inl x :: st) H := rn_nx rfl rfl
theorem e_R_readLevel_18 : rn Ls xs (d + 1) 195 18 [l0, l1, l2, l3, l4, l5, l6] [v3, v2, v1, (.inr (.inl (some a)))] (S, I, R) = if h_is S a 1 10 then rb Ls xs (d + 1) 195 21 [l0, l1, l2, l3, l4, l5, l6] [] (rn Ls xs d 195 0 [some (.inr (.inl (some a))), some v1, some v2, some v3, none, none, none] [] (S, I, R)) else none := rn_callO rfl rfl (Nat.le_of_ble_eq_true rfl) rfl rfl
theorem e_R_readLevel_21 : rn Ls xs d 195 21 [l0, some (.inl x), l2, l3, l4, l5, l6] st H = rn Ls xs d 195 22 [l0, some (.inl x), l2, l3, l4, l5, l6] (.inl x :: st) H := rn_nx rfl rfl
theorem e_R_readLevel_22 : rn Ls xs d 195 22 [l0, l1, l2, l3, l4, l5, l6]  st H = rn Ls xs d 195 23 [l0, l1, l2, l3, l4, l5, l6] (.inl 2 :: st) H := rn_nx rfl rfl
theorem e_R_readLevel_23 : rn Ls xs d 195 23 [l0, l1, l2, l3, l4, l5, l6] (.inl y :: .inl x :: st) H = if x ≠ y then rn Ls xs d 195 30 [l0, l1, l2, l3, l4, l5, l6] st H else rn Ls xs d 195 26 [l0, l1, l2, l3, l4, l5, l6] st H := rn_cmp (p := fun x y => x ≠ y) rfl
theorem e_R_readLevel_26 : rn Ls xs d 195 26 [l0, l1, l2, l3, l4, l5, l6]  st H = rn Ls xs d 195 27 [l0, l1, l2, l3, l4, l5, l6] (.inl 1 :: st) H := rn_nx rfl rfl
theorem e_R_readLevel_27 : rn Ls xs d 195 27 [l0, l1, l2, l3, l4, l5, l6] st H = rn Ls xs d 195 32 [l0, l1, l2, l3, l4, l5, l6] st H := rn_nx rfl rfl
theorem e_R_readLevel_30 : rn Ls xs d 195 30 [l0, l1, l2, l3, l4, l5, l6]  st H = rn Ls xs d 195 32 [l0, l1, l2, l3, l4, l5, l6] (.inl 96 :: st) H := rn_nx rfl rfl
theorem e_R_readLevel_32 : rn Ls xs d 195 32 [l0, l1, l2, l3, l4, l5, l6] (.inl x :: st) H = rn Ls xs d 195 34 [l0, l1, l2, l3, some (.inl x), l5, l6] st H := rn_nx rfl rfl
theorem e_R_readLevel_34 : rn Ls xs d 195 34 [l0, l1, l2, l3, l4, l5, l6]  st H = rn Ls xs d 195 35 [l0, l1, l2, l3, l4, l5, l6] (.inl 0 :: st) H := rn_nx rfl rfl
theorem e_R_readLevel_35 : rn Ls xs d 195 35 [l0, l1, l2, l3, l4, l5, l6] (.inl x :: st) H = rn Ls xs d 195 37 [l0, l1, l2, l3, l4, some (.inl x), l6] st H := rn_nx rfl rfl
theorem e_R_readLevel_37 : rn Ls xs d 195 37 [l0, l1, l2, l3, l4, some (.inl x), l6] st H = rn Ls xs d 195 39 [l0, l1, l2, l3, l4, some (.inl x), l6] (.inl x :: st) H := rn_nx rfl rfl
theorem e_R_readLevel_39 : rn Ls xs d 195 39 [l0, l1, l2, l3, some (.inl x), l5, l6] st H = rn Ls xs d 195 41 [l0, l1, l2, l3, some (.inl x), l5, l6] (.inl x :: st) H := rn_nx rfl rfl
theorem e_R_readLevel_41 : rn Ls xs d 195 41 [l0, l1, l2, l3, l4, l5, l6] (.inl y :: .inl x :: st) H = if y ≤ x then rn Ls xs d 195 99 [l0, l1, l2, l3, l4, l5, l6] st H else rn Ls xs d 195 44 [l0, l1, l2, l3, l4, l5, l6] st H := rn_cmp (p := fun x y => y ≤ x) rfl
theorem e_R_readLevel_44 : rn Ls xs d 195 44 [some (.inr u), l1, l2, l3, l4, l5, l6] st H = rn Ls xs d 195 45 [some (.inr u), l1, l2, l3, l4, l5, l6] (.inr u :: st) H := rn_nx rfl rfl
theorem e_R_readLevel_45 : rn Ls xs d 195 45 [l0, l1, l2, l3, l4, l5, l6] (.inr (.inl (some a)) :: st) (S, I, R) = if h_is S a 1 10 then rn Ls xs d 195 48 [l0, l1, l2, l3, l4, l5, l6] (.inl (I a 9) :: st) (S, I, R) else none := rn_bc rfl rfl
theorem e_R_readLevel_48 : rn Ls xs d 195 48 [l0, l1, l2, l3, l4, l5, l6] (.inl x :: st) H = if 0 ≤ x then rn Ls xs d 195 99 [l0, l1, l2, l3, l4, l5, l6] st H else rn Ls xs d 195 51 [l0, l1, l2, l3, l4, l5, l6] st H := rn_if (p := fun x => 0 ≤ x) rfl
theorem e_R_readLevel_51 : rn Ls xs d 195 51 [some (.inr u), l1, l2, l3, l4, l5, l6] st H = rn Ls xs d 195 52 [some (.inr u), l1, l2, l3, l4, l5, l6] (.inr u :: st) H := rn_nx rfl rfl
theorem e_R_readLevel_52 : rn Ls xs d 195 52 [l0, some (.inl x), l2, l3, l4, l5, l6] st H = rn Ls xs d 195 53 [l0, some (.inl x), l2, l3, l4, l5, l6] (.inl x :: st) H := rn_nx rfl rfl
theorem e_R_readLevel_53 : rn Ls xs (d + 1) 195 53 [l0, l1, l2, l3, l4, l5, l6] [v1, (.inr (.inl (some a)))] (S, I, R) = if h_is S a 1 10 then rb Ls xs (d + 1) 195 56 [l0, l1, l2, l3, l4, l5, l6] [] (rn Ls xs d 213 0 [some (.inr (.inl (some a))), some v1] [] (S, I, R)) else none := rn_callO rfl rfl (Nat.le_of_ble_eq_true rfl) rfl rfl
theorem e_R_readLevel_56 : rn Ls xs d 195 56 [l0, l1, l2, l3, l4, l5, l6] (.inl x :: st) H = if x = 0 then rn Ls xs d 195 99 [l0, l1, l2, l3, l4, l5, l6] st H else rn Ls xs d 195 59 [l0, l1, l2, l3, l4, l5, l6] st H := rn_if (p := fun x => x = 0) rfl
theorem e_R_readLevel_59 : rn Ls xs d 195 59 [some (.inr u), l1, l2, l3, l4, l5, l6] st H = rn Ls xs d 195 60 [some (.inr u), l1, l2, l3, l4, l5, l6] (.inr u :: st) H := rn_nx rfl rfl
theorem e_R_readLevel_60 : rn Ls xs d 195 60 [l0, l1, l2, l3, l4, l5, l6] (.inr (.inl (some a)) :: st) (S, I, R) = if h_is S a 1 10 then rn Ls xs d 195 63 [l0, l1, l2, l3, l4, l5, l6] (.inr (R a 0) :: st) (S, I, R) else none := rn_bc rfl rfl
theorem e_R_readLevel_63 : rn Ls xs d 195 63 [l0, l1, l2, l3, l4, l5, l6] (.inr (.inl (some a)) :: st) (S, I, R) = if h_is S a 5 2 then rn Ls xs d 195 66 [l0, l1, l2, l3, l4, l5, l6] (.inr (R a 0) :: st) (S, I, R) else none := rn_bc rfl rfl
theorem e_R_readLevel_66 : rn Ls xs d 195 66 [some (.inr u), l1, l2, l3, l4, l5, l6] st H = rn Ls xs d 195 67 [some (.inr u), l1, l2, l3, l4, l5, l6] (.inr u :: st) H := rn_nx rfl rfl
theorem e_R_readLevel_67 : rn Ls xs d 195 67 [l0, l1, l2, l3, l4, l5, l6] (.inr (.inl (some a)) :: st) (S, I, R) = if h_is S a 1 10 then rn Ls xs d 195 70 [l0, l1, l2, l3, l4, l5, l6] (.inl (I a 6) :: st) (S, I, R) else none := rn_bc rfl rfl
theorem e_R_readLevel_70 : rn Ls xs d 195 70 [l0, l1, l2, l3, l4, l5, l6] (.inl i :: .inr (.inl (some a)) :: st) (S, I, R) = if h_ia S a 0 i then rn Ls xs d 195 71 [l0, l1, l2, l3, l4, l5, l6] (.inl (I a i.toNatClampNeg) :: st) (S, I, R) else none := rn_bc rfl rfl
theorem e_R_readLevel_71 : rn Ls xs d 195 71 [l0, l1, l2, l3, l4, l5, l6] (.inl x :: st) H = rn Ls xs d 195 73 [l0, l1, l2, l3, l4, l5, some (.inl x)] st H := rn_nx rfl rfl
theorem e_R_readLevel_73 : rn Ls xs d 195 73 [some (.inr u), l1, l2, l3, l4, l5, l6] st H = rn Ls xs d 195 74 [some (.inr u), l1, l2, l3, l4, l5, l6] (.inr u :: st) H := rn_nx rfl rfl
theorem e_R_readLevel_74 : rn Ls xs (d + 1) 195 74 [l0, l1, l2, l3, l4, l5, l6] [(.inr (.inl (some a)))] (S, I, R) = if h_is S a 1 10 then rb Ls xs (d + 1) 195 77 [l0, l1, l2, l3, l4, l5, l6] [] (rn Ls xs d 193 0 [some (.inr (.inl (some a))), none, none] [] (S, I, R)) else none := rn_callO rfl rfl (Nat.le_of_ble_eq_true rfl) rfl rfl
theorem e_R_readLevel_77 : rn Ls xs d 195 77 [some (.inr u), l1, l2, l3, l4, l5, l6] st H = rn Ls xs d 195 78 [some (.inr u), l1, l2, l3, l4, l5, l6] (.inr u :: st) H := rn_nx rfl rfl
theorem e_R_readLevel_78 : rn Ls xs d 195 78 [l0, some (.inl x), l2, l3, l4, l5, l6] st H = rn Ls xs d 195 79 [l0, some (.inl x), l2, l3, l4, l5, l6] (.inl x :: st) H := rn_nx rfl rfl
theorem e_R_readLevel_79 : rn Ls xs d 195 79 [l0, l1, l2, l3, l4, l5, l6]  st H = rn Ls xs d 195 80 [l0, l1, l2, l3, l4, l5, l6] (.inl 1 :: st) H := rn_nx rfl rfl
theorem e_R_readLevel_80 : rn Ls xs d 195 80 [l0, l1, l2, l3, l4, l5, l6] (.inl y :: .inl x :: st) H = rn Ls xs d 195 81 [l0, l1, l2, l3, l4, l5, l6] (.inl (x + y) :: st) H := rn_nx rfl rfl
theorem e_R_readLevel_81 : rn Ls xs d 195 81 [l0, l1, some (.inl x), l3, l4, l5, l6] st H = rn Ls xs d 195 82 [l0, l1, some (.inl x), l3, l4, l5, l6] (.inl x :: st) H := rn_nx rfl rfl
theorem e_R_readLevel_82 : rn Ls xs d 195 82 [l0, l1, l2, some (.inl x), l4, l5, l6] st H = rn Ls xs d 195 83 [l0, l1, l2, some (.inl x), l4, l5, l6] (.inl x :: st) H := rn_nx rfl rfl
theorem e_R_readLevel_83 : rn Ls xs (d + 1) 195 83 [l0, l1, l2, l3, l4, l5, l6] [v3, v2, v1, (.inr (.inl (some a)))] (S, I, R) = if h_is S a 1 10 then rb Ls xs (d + 1) 195 86 [l0, l1, l2, l3, l4, l5, l6] [] (rn Ls xs d 195 0 [some (.inr (.inl (some a))), some v1, some v2, some v3, none, none, none] [] (S, I, R)) else none := rn_callO rfl rfl (Nat.le_of_ble_eq_true rfl) rfl rfl
theorem e_R_readLevel_86 : rn Ls xs d 195 86 [some (.inr u), l1, l2, l3, l4, l5, l6] st H = rn Ls xs d 195 87 [some (.inr u), l1, l2, l3, l4, l5, l6] (.inr u :: st) H := rn_nx rfl rfl
theorem e_R_readLevel_87 : rn Ls xs d 195 87 [l0, l1, l2, l3, l4, l5, some (.inl x)] st H = rn Ls xs d 195 89 [l0, l1, l2, l3, l4, l5, some (.inl x)] (.inl x :: st) H := rn_nx rfl rfl
theorem e_R_readLevel_89 : rn Ls xs d 195 89 [l0, l1, l2, l3, l4, l5, l6] (.inl x :: st) H = rn Ls xs d 195 90 [l0, l1, l2, l3, l4, l5, l6] (.inl (-x) :: st) H := rn_nx rfl rfl
theorem e_R_readLevel_90 : rn Ls xs (d + 1) 195 90 [l0, l1, l2, l3, l4, l5, l6] [v1, (.inr (.inl (some a)))] (S, I, R) = if h_is S a 1 10 then rb Ls xs (d + 1) 195 93 [l0, l1, l2, l3, l4, l5, l6] [] (rn Ls xs d 214 0 [some (.inr (.inl (some a))), some v1] [] (S, I, R)) else none := rn_callO rfl rfl (Nat.le_of_ble_eq_true rfl) rfl rfl
theorem e_R_readLevel_93 : rn Ls xs d 195 93 [l0, l1, l2, l3, l4, some (.inl x), l6] st H = rn Ls xs d 195 96 [l0, l1, l2, l3, l4, some (.inl (x + 1)), l6] st H := rn_nx rfl rfl
theorem e_R_readLevel_96 : rn Ls xs d 195 96 [l0, l1, l2, l3, l4, l5, l6] st H = rn Ls xs d 195 37 [l0, l1, l2, l3, l4, l5, l6] st H := rn_nx rfl rfl
theorem e_R_readLevel_99 : rn Ls xs d 195 99 [l0, l1, l2, l3, l4, l5, l6] [] H = some (none, H) := rn_done rfl rfl
theorem e_R_fail_0 : rn Ls xs d 196 0 [some (.inr u)] st H = rn Ls xs d 196 1 [some (.inr u)] (.inr u :: st) H := rn_nx rfl rfl
theorem e_R_fail_1 : rn Ls xs d 196 1 [l0] (.inr (.inl (some a)) :: st) (S, I, R) = if h_is S a 1 10 then rn Ls xs d 196 4 [l0] (.inl (I a 9) :: st) (S, I, R) else none := rn_bc rfl rfl
theorem e_R_fail_4 : rn Ls xs d 196 4 [l0] (.inl x :: st) H = if 0 ≤ x then rn Ls xs d 196 15 [l0] st H else rn Ls xs d 196 7 [l0] st H := rn_if (p := fun x => 0 ≤ x) rfl
theorem e_R_fail_7 : rn Ls xs d 196 7 [some (.inr u)] st H = rn Ls xs d 196 8 [some (.inr u)] (.inr u :: st) H := rn_nx rfl rfl
theorem e_R_fail_8 : rn Ls xs d 196 8 [some (.inr u)] st H = rn Ls xs d 196 9 [some (.inr u)] (.inr u :: st) H := rn_nx rfl rfl
theorem e_R_fail_9 : rn Ls xs d 196 9 [l0] (.inr (.inl (some a)) :: st) (S, I, R) = if h_is S a 1 10 then rn Ls xs d 196 12 [l0] (.inl (I a 6) :: st) (S, I, R) else none := rn_bc rfl rfl
theorem e_R_fail_12 : rn Ls xs d 196 12 [l0] (.inl x :: .inr (.inl (some a)) :: st) (S, I, R) = if h_is S a 1 10 then rn Ls xs d 196 15 [l0] st (S, va_up I a (upd (I a) 9 x), R) else none := rn_bc rfl rfl
theorem e_R_fail_15 : rn Ls xs d 196 15 [l0] [] H = some (none, H) := rn_done rfl rfl
theorem e_JArrays_copyOf_0 : rn Ls xs d 197 0 [l0, some (.inl x), l2] st H = rn Ls xs d 197 1 [l0, some (.inl x), l2] (.inl x :: st) H := rn_nx rfl rfl
theorem e_JArrays_copyOf_1 : rn Ls xs d 197 1 [some (.inr u), l1, l2] st H = rn Ls xs d 197 2 [some (.inr u), l1, l2] (.inr u :: st) H := rn_nx rfl rfl
theorem e_JArrays_copyOf_2 : rn Ls xs d 197 2 [l0, l1, l2] (.inr (.inl (some a)) :: st) (S, I, R) = if h_is S a (100 + 0) (S.1 a).2 then rn Ls xs d 197 3 [l0, l1, l2] (.inl (Int32.ofNat (S.1 a).2) :: st) (S, I, R) else none := rn_bc rfl rfl
theorem e_JArrays_copyOf_3 : rn Ls xs d 197 3 [l0, l1, l2] (.inl y :: .inl x :: st) H = if x ≠ y then rn Ls xs d 197 14 [l0, l1, l2] st H else rn Ls xs d 197 6 [l0, l1, l2] st H := rn_cmp (p := fun x y => x ≠ y) rfl
theorem e_JArrays_copyOf_6 : rn Ls xs d 197 6 [some (.inr u), l1, l2] st H = rn Ls xs d 197 7 [some (.inr u), l1, l2] (.inr u :: st) H := rn_nx rfl rfl
theorem e_JArrays_copyOf_13 : rn Ls xs d 197 13 [l0, l1, l2] [.inr u] H = some (some (.inr u), H) := rn_done rfl rfl
theorem e_JArrays_copyOf_14 : rn Ls xs d 197 14 [l0, some (.inl x), l2] st H = rn Ls xs d 197 15 [l0, some (.inl x), l2] (.inl x :: st) H := rn_nx rfl rfl
theorem e_JArrays_copyOf_15 : rn Ls xs d 197 15 [l0, l1, l2] (.inl x :: st) (S, I, R) = if 0 ≤ x.toInt ∧ x.toInt ≤ 100000 then rn Ls xs d 197 17 [l0, l1, l2] (.inr (.inl (some S.2.1)) :: st) (h_mk (S, I, R) (100 + 0) x.toNatClampNeg) else none := rn_pc rfl rfl
theorem e_JArrays_copyOf_17 : rn Ls xs d 197 17 [l0, l1, l2] (.inr u :: st) H = rn Ls xs d 197 18 [l0, l1, some (.inr u)] st H := rn_nx rfl rfl
theorem e_JArrays_copyOf_18 : rn Ls xs d 197 18 [some (.inr u), l1, l2] st H = rn Ls xs d 197 19 [some (.inr u), l1, l2] (.inr u :: st) H := rn_nx rfl rfl
theorem e_JArrays_copyOf_19 : rn Ls xs d 197 19 [l0, l1, l2]  st H = rn Ls xs d 197 20 [l0, l1, l2] (.inl 0 :: st) H := rn_nx rfl rfl
theorem e_JArrays_copyOf_20 : rn Ls xs d 197 20 [l0, l1, some (.inr u)] st H = rn Ls xs d 197 21 [l0, l1, some (.inr u)] (.inr u :: st) H := rn_nx rfl rfl
theorem e_JArrays_copyOf_21 : rn Ls xs d 197 21 [l0, l1, l2]  st H = rn Ls xs d 197 22 [l0, l1, l2] (.inl 0 :: st) H := rn_nx rfl rfl
theorem e_JArrays_copyOf_22 : rn Ls xs d 197 22 [some (.inr u), l1, l2] st H = rn Ls xs d 197 23 [some (.inr u), l1, l2] (.inr u :: st) H := rn_nx rfl rfl
theorem e_JArrays_copyOf_23 : rn Ls xs d 197 23 [l0, l1, l2] (.inr (.inl (some a)) :: st) (S, I, R) = if h_is S a (100 + 0) (S.1 a).2 then rn Ls xs d 197 24 [l0, l1, l2] (.inl (Int32.ofNat (S.1 a).2) :: st) (S, I, R) else none := rn_bc rfl rfl
theorem e_JArrays_copyOf_24 : rn Ls xs d 197 24 [l0, some (.inl x), l2] st H = rn Ls xs d 197 25 [l0, some (.inl x), l2] (.inl x :: st) H := rn_nx rfl rfl
theorem e_JArrays_copyOf_25 : rn Ls xs (d + 1) 197 25 [l0, l1, l2] [v1, v0, v2, v3, v4, v5] H = rb Ls xs (d + 1) 197 28 [l0, l1, l2] [v2, v3, v4, v5] (rn Ls xs d 116 0 [some v0, some v1] [] H) := rn_call rfl (Nat.le_of_ble_eq_true rfl) (Nat.le_of_ble_eq_true rfl) rfl rfl
theorem e_JArrays_copyOf_28 : rn Ls xs (d + 1) 197 28 [l0, l1, l2] (.inl z :: .inl y :: .inr (.inl (some b)) :: .inl x :: .inr (.inl (some a)) :: []) (S, I, R) = if h_cp S a b x y z then rn Ls xs (d + 1) 197 31 [l0, l1, l2] [] (S, va_up I b (va_cpy (I a) (I b) x.toNatClampNeg y.toNatClampNeg z.toNatClampNeg), R) else none := rn_copy rfl (Nat.le_of_ble_eq_true rfl)
theorem e_JArrays_copyOf_31 : rn Ls xs d 197 31 [l0, l1, some (.inr u)] st H = rn Ls xs d 197 32 [l0, l1, some (.inr u)] (.inr u :: st) H := rn_nx rfl rfl
theorem e_JArrays_copyOf_32 : rn Ls xs d 197 32 [l0, l1, l2] [.inr u] H = some (some (.inr u), H) := rn_done rfl rfl
theorem e_X_init_0 : rn Ls xs d 198 0 [some (.inr u), l1, l2, l3] st H = rn Ls xs d 198 1 [some (.inr u), l1, l2, l3] (.inr u :: st) H := rn_nx rfl rfl
theorem e_X_init_1 : rn Ls xs (d + 1) 198 1 [l0, l1, l2, l3] (.inr (.inl (some a)) :: []) H = rn Ls xs (d + 1) 198 4 [l0, l1, l2, l3] [] H := rn_nx rfl rfl
theorem e_X_init_4 : rn Ls xs d 198 4 [some (.inr u), l1, l2, l3] st H = rn Ls xs d 198 5 [some (.inr u), l1, l2, l3] (.inr u :: st) H := rn_nx rfl rfl
theorem e_X_init_5 : rn Ls xs d 198 5 [l0, some (.inl x), l2, l3] st H = rn Ls xs d 198 6 [l0, some (.inl x), l2, l3] (.inl x :: st) H := rn_nx rfl rfl
theorem e_X_init_6 : rn Ls xs d 198 6 [l0, l1, l2, l3] (.inl x :: .inr (.inl (some a)) :: st) (S, I, R) = if h_is S a 6 3 then rn Ls xs d 198 9 [l0, l1, l2, l3] st (S, va_up I a (upd (I a) 0 x), R) else none := rn_bc rfl rfl
theorem e_X_init_9 : rn Ls xs d 198 9 [some (.inr u), l1, l2, l3] st H = rn Ls xs d 198 10 [some (.inr u), l1, l2, l3] (.inr u :: st) H := rn_nx rfl rfl
theorem e_X_init_10 : rn Ls xs d 198 10 [l0, l1, some (.inl x), l3] st H = rn Ls xs d 198 11 [l0, l1, some (.inl x), l3] (.inl x :: st) H := rn_nx rfl rfl
theorem e_X_init_11 : rn Ls xs d 198 11 [l0, l1, l2, l3] (.inl x :: .inr (.inl (some a)) :: st) (S, I, R) = if h_is S a 6 3 then rn Ls xs d 198 14 [l0, l1, l2, l3] st (S, va_up I a (upd (I a) 1 x), R) else none := rn_bc rfl rfl
theorem e_X_init_14 : rn Ls xs d 198 14 [some (.inr u), l1, l2, l3] st H = rn Ls xs d 198 15 [some (.inr u), l1, l2, l3] (.inr u :: st) H := rn_nx rfl rfl
theorem e_X_init_15 : rn Ls xs d 198 15 [l0, l1, l2, some (.inr u)] st H = rn Ls xs d 198 16 [l0, l1, l2, some (.inr u)] (.inr u :: st) H := rn_nx rfl rfl
theorem e_X_init_16 : rn Ls xs d 198 16 [l0, l1, l2, l3] (.inr u :: .inr (.inl (some a)) :: st) (S, I, R) = if h_is S a 6 3 then rn Ls xs d 198 19 [l0, l1, l2, l3] st (S, I, va_up R a (va_up (R a) 2 u)) else none := rn_bc rfl rfl
theorem e_X_init_19 : rn Ls xs d 198 19 [l0, l1, l2, l3] [] H = some (none, H) := rn_done rfl rfl
theorem e_M_isLetter_0 : rn Ls xs d 199 0 [l0, some (.inl x)] st H = rn Ls xs d 199 1 [l0, some (.inl x)] (.inl x :: st) H := rn_nx rfl rfl
theorem e_M_isLetter_1 : rn Ls xs d 199 1 [some (.inr u), l1] st H = rn Ls xs d 199 2 [some (.inr u), l1] (.inr u :: st) H := rn_nx rfl rfl
theorem e_M_isLetter_2 : rn Ls xs d 199 2 [l0, l1] (.inr (.inl (some a)) :: st) (S, I, R) = if h_is S a 9 36 then rn Ls xs d 199 5 [l0, l1] (.inl (I a 9) :: st) (S, I, R) else none := rn_bc rfl rfl
theorem e_M_isLetter_5 : rn Ls xs d 199 5 [l0, l1] (.inl y :: .inl x :: st) H = if y ≤ x then rn Ls xs d 199 34 [l0, l1] st H else rn Ls xs d 199 8 [l0, l1] st H := rn_cmp (p := fun x y => y ≤ x) rfl
theorem e_M_isLetter_8 : rn Ls xs d 199 8 [some (.inr u), l1] st H = rn Ls xs d 199 9 [some (.inr u), l1] (.inr u :: st) H := rn_nx rfl rfl
theorem e_M_isLetter_9 : rn Ls xs d 199 9 [l0, l1] (.inr (.inl (some a)) :: st) (S, I, R) = if h_is S a 9 36 then rn Ls xs d 199 12 [l0, l1] (.inr (R a 8) :: st) (S, I, R) else none := rn_bc rfl rfl
theorem e_M_isLetter_12 : rn Ls xs d 199 12 [l0, some (.inl x)] st H = rn Ls xs d 199 13 [l0, some (.inl x)] (.inl x :: st) H := rn_nx rfl rfl
theorem e_M_isLetter_13 : rn Ls xs d 199 13 [l0, l1] (.inl i :: .inr (.inl (some a)) :: st) (S, I, R) = if h_ia S a 0 i then rn Ls xs d 199 14 [l0, l1] (.inl (I a i.toNatClampNeg) :: st) (S, I, R) else none := rn_bc rfl rfl
theorem e_M_isLetter_14 : rn Ls xs d 199 14 [l0, l1]  st H = rn Ls xs d 199 16 [l0, l1] (.inl 97 :: st) H := rn_nx rfl rfl
theorem e_M_isLetter_16 : rn Ls xs d 199 16 [l0, l1] (.inl y :: .inl x :: st) H = if x < y then rn Ls xs d 199 34 [l0, l1] st H else rn Ls xs d 199 19 [l0, l1] st H := rn_cmp (p := fun x y => x < y) rfl
theorem e_M_isLetter_19 : rn Ls xs d 199 19 [some (.inr u), l1] st H = rn Ls xs d 199 20 [some (.inr u), l1] (.inr u :: st) H := rn_nx rfl rfl
theorem e_M_isLetter_20 : rn Ls xs d 199 20 [l0, l1] (.inr (.inl (some a)) :: st) (S, I, R) = if h_is S a 9 36 then rn Ls xs d 199 23 [l0, l1] (.inr (R a 8) :: st) (S, I, R) else none := rn_bc rfl rfl
theorem e_M_isLetter_23 : rn Ls xs d 199 23 [l0, some (.inl x)] st H = rn Ls xs d 199 24 [l0, some (.inl x)] (.inl x :: st) H := rn_nx rfl rfl
theorem e_M_isLetter_24 : rn Ls xs d 199 24 [l0, l1] (.inl i :: .inr (.inl (some a)) :: st) (S, I, R) = if h_ia S a 0 i then rn Ls xs d 199 25 [l0, l1] (.inl (I a i.toNatClampNeg) :: st) (S, I, R) else none := rn_bc rfl rfl
theorem e_M_isLetter_25 : rn Ls xs d 199 25 [l0, l1]  st H = rn Ls xs d 199 27 [l0, l1] (.inl 122 :: st) H := rn_nx rfl rfl
theorem e_M_isLetter_27 : rn Ls xs d 199 27 [l0, l1] (.inl y :: .inl x :: st) H = if y < x then rn Ls xs d 199 34 [l0, l1] st H else rn Ls xs d 199 30 [l0, l1] st H := rn_cmp (p := fun x y => y < x) rfl
theorem e_M_isLetter_30 : rn Ls xs d 199 30 [l0, l1]  st H = rn Ls xs d 199 31 [l0, l1] (.inl 1 :: st) H := rn_nx rfl rfl
theorem e_M_isLetter_31 : rn Ls xs d 199 31 [l0, l1] st H = rn Ls xs d 199 35 [l0, l1] st H := rn_nx rfl rfl
theorem e_M_isLetter_34 : rn Ls xs d 199 34 [l0, l1]  st H = rn Ls xs d 199 35 [l0, l1] (.inl 0 :: st) H := rn_nx rfl rfl
theorem e_M_isLetter_35 : rn Ls xs d 199 35 [l0, l1] [.inl x] H = if h_bo x then some (some (.inl x), H) else none := rn_zret rfl
theorem e_M_isFigure_0 : rn Ls xs d 200 0 [l0, some (.inl x)] st H = rn Ls xs d 200 1 [l0, some (.inl x)] (.inl x :: st) H := rn_nx rfl rfl
theorem e_M_isFigure_1 : rn Ls xs d 200 1 [some (.inr u), l1] st H = rn Ls xs d 200 2 [some (.inr u), l1] (.inr u :: st) H := rn_nx rfl rfl
theorem e_M_isFigure_2 : rn Ls xs d 200 2 [l0, l1] (.inr (.inl (some a)) :: st) (S, I, R) = if h_is S a 9 36 then rn Ls xs d 200 5 [l0, l1] (.inl (I a 9) :: st) (S, I, R) else none := rn_bc rfl rfl
theorem e_M_isFigure_5 : rn Ls xs d 200 5 [l0, l1] (.inl y :: .inl x :: st) H = if y ≤ x then rn Ls xs d 200 34 [l0, l1] st H else rn Ls xs d 200 8 [l0, l1] st H := rn_cmp (p := fun x y => y ≤ x) rfl
theorem e_M_isFigure_8 : rn Ls xs d 200 8 [some (.inr u), l1] st H = rn Ls xs d 200 9 [some (.inr u), l1] (.inr u :: st) H := rn_nx rfl rfl
theorem e_M_isFigure_9 : rn Ls xs d 200 9 [l0, l1] (.inr (.inl (some a)) :: st) (S, I, R) = if h_is S a 9 36 then rn Ls xs d 200 12 [l0, l1] (.inr (R a 8) :: st) (S, I, R) else none := rn_bc rfl rfl
theorem e_M_isFigure_12 : rn Ls xs d 200 12 [l0, some (.inl x)] st H = rn Ls xs d 200 13 [l0, some (.inl x)] (.inl x :: st) H := rn_nx rfl rfl
theorem e_M_isFigure_13 : rn Ls xs d 200 13 [l0, l1] (.inl i :: .inr (.inl (some a)) :: st) (S, I, R) = if h_ia S a 0 i then rn Ls xs d 200 14 [l0, l1] (.inl (I a i.toNatClampNeg) :: st) (S, I, R) else none := rn_bc rfl rfl
theorem e_M_isFigure_14 : rn Ls xs d 200 14 [l0, l1]  st H = rn Ls xs d 200 16 [l0, l1] (.inl 48 :: st) H := rn_nx rfl rfl
theorem e_M_isFigure_16 : rn Ls xs d 200 16 [l0, l1] (.inl y :: .inl x :: st) H = if x < y then rn Ls xs d 200 34 [l0, l1] st H else rn Ls xs d 200 19 [l0, l1] st H := rn_cmp (p := fun x y => x < y) rfl
theorem e_M_isFigure_19 : rn Ls xs d 200 19 [some (.inr u), l1] st H = rn Ls xs d 200 20 [some (.inr u), l1] (.inr u :: st) H := rn_nx rfl rfl
theorem e_M_isFigure_20 : rn Ls xs d 200 20 [l0, l1] (.inr (.inl (some a)) :: st) (S, I, R) = if h_is S a 9 36 then rn Ls xs d 200 23 [l0, l1] (.inr (R a 8) :: st) (S, I, R) else none := rn_bc rfl rfl
theorem e_M_isFigure_23 : rn Ls xs d 200 23 [l0, some (.inl x)] st H = rn Ls xs d 200 24 [l0, some (.inl x)] (.inl x :: st) H := rn_nx rfl rfl
theorem e_M_isFigure_24 : rn Ls xs d 200 24 [l0, l1] (.inl i :: .inr (.inl (some a)) :: st) (S, I, R) = if h_ia S a 0 i then rn Ls xs d 200 25 [l0, l1] (.inl (I a i.toNatClampNeg) :: st) (S, I, R) else none := rn_bc rfl rfl
theorem e_M_isFigure_25 : rn Ls xs d 200 25 [l0, l1]  st H = rn Ls xs d 200 27 [l0, l1] (.inl 57 :: st) H := rn_nx rfl rfl
theorem e_M_isFigure_27 : rn Ls xs d 200 27 [l0, l1] (.inl y :: .inl x :: st) H = if y < x then rn Ls xs d 200 34 [l0, l1] st H else rn Ls xs d 200 30 [l0, l1] st H := rn_cmp (p := fun x y => y < x) rfl
theorem e_M_isFigure_30 : rn Ls xs d 200 30 [l0, l1]  st H = rn Ls xs d 200 31 [l0, l1] (.inl 1 :: st) H := rn_nx rfl rfl
theorem e_M_isFigure_31 : rn Ls xs d 200 31 [l0, l1] st H = rn Ls xs d 200 35 [l0, l1] st H := rn_nx rfl rfl
theorem e_M_isFigure_34 : rn Ls xs d 200 34 [l0, l1]  st H = rn Ls xs d 200 35 [l0, l1] (.inl 0 :: st) H := rn_nx rfl rfl
theorem e_M_isFigure_35 : rn Ls xs d 200 35 [l0, l1] [.inl x] H = if h_bo x then some (some (.inl x), H) else none := rn_zret rfl
end EQ

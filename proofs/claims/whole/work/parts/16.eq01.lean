section EQ
variable {Ls : Nat} {xs : Nat → Int32} {d : Nat} {l0 l1 l2 l3 l4 l5 l6 l7 l8 l9 l10 l11 l12 : Option mV} {st : List mV} {H : mH} {S : mS} {I : mI} {R : mR} {x y z i : Int32} {a b : Nat} {k : Nat} {v w : mV} {u : mr} {v0 v1 v2 v3 v4 v5 v6 v7 v8 v9 v10 v11 : mV}
theorem e_W_sky_0 : rn Ls xs d 25 0 [l0, some (.inl x)] st H = rn Ls xs d 25 1 [l0, some (.inl x)] (.inl x :: st) H := rn_nx rfl rfl
theorem e_W_sky_1 : rn Ls xs d 25 1 [l0, l1] (.inl x :: st) H = if x = 0 then rn Ls xs d 25 40 [l0, l1] st H else if x = 1 then rn Ls xs d 25 48 [l0, l1] st H else if x = 2 then rn Ls xs d 25 56 [l0, l1] st H else if x = 3 then rn Ls xs d 25 64 [l0, l1] st H else if x = 4 then rn Ls xs d 25 72 [l0, l1] st H else if x = 5 then rn Ls xs d 25 80 [l0, l1] st H else rn Ls xs d 25 88 [l0, l1] st H := (rn_nx rfl rfl).trans (rn_tc rfl rfl (rn_tc rfl rfl (rn_tc rfl rfl (rn_tc rfl rfl (rn_tc rfl rfl (rn_tc rfl rfl (rn_tn)))))))
theorem e_W_sky_40 : rn Ls xs d 25 40 [some (.inr u), l1] st H = rn Ls xs d 25 41 [some (.inr u), l1] (.inr u :: st) H := rn_nx rfl rfl
theorem e_W_sky_41 : rn Ls xs d 25 41 [l0, l1] (.inr (.inl (some a)) :: st) (S, I, R) = if h_is S a 8 10 then rn Ls xs d 25 44 [l0, l1] (.inr (R a 0) :: st) (S, I, R) else none := rn_bc rfl rfl
theorem e_W_sky_44 : rn Ls xs d 25 44 [l0, l1] (.inr (.inl (some a)) :: st) (S, I, R) = if h_is S a 3 11 then rn Ls xs d 25 47 [l0, l1] (.inl (I a 6) :: st) (S, I, R) else none := rn_bc rfl rfl
theorem e_W_sky_47 : rn Ls xs d 25 47 [l0, l1] [.inl x] H = some (some (.inl x), H) := rn_done rfl rfl
theorem e_W_sky_48 : rn Ls xs d 25 48 [some (.inr u), l1] st H = rn Ls xs d 25 49 [some (.inr u), l1] (.inr u :: st) H := rn_nx rfl rfl
theorem e_W_sky_49 : rn Ls xs d 25 49 [l0, l1] (.inr (.inl (some a)) :: st) (S, I, R) = if h_is S a 8 10 then rn Ls xs d 25 52 [l0, l1] (.inr (R a 0) :: st) (S, I, R) else none := rn_bc rfl rfl
theorem e_W_sky_52 : rn Ls xs d 25 52 [l0, l1] (.inr (.inl (some a)) :: st) (S, I, R) = if h_is S a 3 11 then rn Ls xs d 25 55 [l0, l1] (.inl (I a 7) :: st) (S, I, R) else none := rn_bc rfl rfl
theorem e_W_sky_55 : rn Ls xs d 25 55 [l0, l1] [.inl x] H = some (some (.inl x), H) := rn_done rfl rfl
theorem e_W_sky_56 : rn Ls xs d 25 56 [some (.inr u), l1] st H = rn Ls xs d 25 57 [some (.inr u), l1] (.inr u :: st) H := rn_nx rfl rfl
theorem e_W_sky_57 : rn Ls xs d 25 57 [l0, l1] (.inr (.inl (some a)) :: st) (S, I, R) = if h_is S a 8 10 then rn Ls xs d 25 60 [l0, l1] (.inr (R a 0) :: st) (S, I, R) else none := rn_bc rfl rfl
theorem e_W_sky_60 : rn Ls xs d 25 60 [l0, l1] (.inr (.inl (some a)) :: st) (S, I, R) = if h_is S a 3 11 then rn Ls xs d 25 63 [l0, l1] (.inl (I a 8) :: st) (S, I, R) else none := rn_bc rfl rfl
theorem e_W_sky_63 : rn Ls xs d 25 63 [l0, l1] [.inl x] H = some (some (.inl x), H) := rn_done rfl rfl
theorem e_W_sky_64 : rn Ls xs d 25 64 [some (.inr u), l1] st H = rn Ls xs d 25 65 [some (.inr u), l1] (.inr u :: st) H := rn_nx rfl rfl
theorem e_W_sky_65 : rn Ls xs d 25 65 [l0, l1] (.inr (.inl (some a)) :: st) (S, I, R) = if h_is S a 8 10 then rn Ls xs d 25 68 [l0, l1] (.inr (R a 0) :: st) (S, I, R) else none := rn_bc rfl rfl
theorem e_W_sky_68 : rn Ls xs (d + 1) 25 68 [l0, l1] [(.inr (.inl (some a)))] (S, I, R) = if h_is S a 3 11 then rb Ls xs (d + 1) 25 71 [l0, l1] [] (rn Ls xs d 122 0 [some (.inr (.inl (some a))), none, none] [] (S, I, R)) else none := rn_callO rfl rfl (Nat.le_of_ble_eq_true rfl) rfl rfl
theorem e_W_sky_71 : rn Ls xs d 25 71 [l0, l1] [.inl x] H = some (some (.inl x), H) := rn_done rfl rfl
theorem e_W_sky_72 : rn Ls xs d 25 72 [some (.inr u), l1] st H = rn Ls xs d 25 73 [some (.inr u), l1] (.inr u :: st) H := rn_nx rfl rfl
theorem e_W_sky_73 : rn Ls xs d 25 73 [l0, l1] (.inr (.inl (some a)) :: st) (S, I, R) = if h_is S a 8 10 then rn Ls xs d 25 76 [l0, l1] (.inr (R a 0) :: st) (S, I, R) else none := rn_bc rfl rfl
theorem e_W_sky_76 : rn Ls xs (d + 1) 25 76 [l0, l1] [(.inr (.inl (some a)))] (S, I, R) = if h_is S a 3 11 then rb Ls xs (d + 1) 25 79 [l0, l1] [] (rn Ls xs d 123 0 [some (.inr (.inl (some a))), none, none] [] (S, I, R)) else none := rn_callO rfl rfl (Nat.le_of_ble_eq_true rfl) rfl rfl
theorem e_W_sky_79 : rn Ls xs d 25 79 [l0, l1] [.inl x] H = some (some (.inl x), H) := rn_done rfl rfl
theorem e_W_sky_80 : rn Ls xs d 25 80 [some (.inr u), l1] st H = rn Ls xs d 25 81 [some (.inr u), l1] (.inr u :: st) H := rn_nx rfl rfl
theorem e_W_sky_81 : rn Ls xs d 25 81 [l0, l1] (.inr (.inl (some a)) :: st) (S, I, R) = if h_is S a 8 10 then rn Ls xs d 25 84 [l0, l1] (.inr (R a 0) :: st) (S, I, R) else none := rn_bc rfl rfl
theorem e_W_sky_84 : rn Ls xs (d + 1) 25 84 [l0, l1] [(.inr (.inl (some a)))] (S, I, R) = if h_is S a 3 11 then rb Ls xs (d + 1) 25 87 [l0, l1] [] (rn Ls xs d 124 0 [some (.inr (.inl (some a))), none, none] [] (S, I, R)) else none := rn_callO rfl rfl (Nat.le_of_ble_eq_true rfl) rfl rfl
theorem e_W_sky_87 : rn Ls xs d 25 87 [l0, l1] [.inl x] H = some (some (.inl x), H) := rn_done rfl rfl
theorem e_W_sky_88 : rn Ls xs d 25 88 [l0, l1]  st H = rn Ls xs d 25 90 [l0, l1] (.inl (-1000000001) :: st) H := rn_nx rfl rfl
theorem e_W_sky_90 : rn Ls xs d 25 90 [l0, l1] [.inl x] H = some (some (.inl x), H) := rn_done rfl rfl
theorem e_M_sky_0 : rn Ls xs d 26 0 [l0, some (.inl x)] st H = rn Ls xs d 26 1 [l0, some (.inl x)] (.inl x :: st) H := rn_nx rfl rfl
theorem e_M_sky_1 : rn Ls xs d 26 1 [l0, l1]  st H = rn Ls xs d 26 2 [l0, l1] (.inl 0 :: st) H := rn_nx rfl rfl
theorem e_M_sky_2 : rn Ls xs d 26 2 [l0, l1]  st H = rn Ls xs d 26 3 [l0, l1] (.inl 5 :: st) H := rn_nx rfl rfl
theorem e_M_sky_3 : rn Ls xs (d + 1) 26 3 [l0, l1] [v2, v1, v0] H = rb Ls xs (d + 1) 26 6 [l0, l1] [] (rn Ls xs d 97 0 [some v0, some v1, some v2] [] H) := rn_call rfl (Nat.le_of_ble_eq_true rfl) (Nat.le_of_ble_eq_true rfl) rfl rfl
theorem e_M_sky_6 : rn Ls xs d 26 6 [l0, l1] (.inl x :: st) H = if x ≠ 0 then rn Ls xs d 26 12 [l0, l1] st H else rn Ls xs d 26 9 [l0, l1] st H := rn_if (p := fun x => x ≠ 0) rfl
theorem e_M_sky_9 : rn Ls xs d 26 9 [l0, l1]  st H = rn Ls xs d 26 11 [l0, l1] (.inl (-1000000001) :: st) H := rn_nx rfl rfl
theorem e_M_sky_11 : rn Ls xs d 26 11 [l0, l1] [.inl x] H = some (some (.inl x), H) := rn_done rfl rfl
theorem e_M_sky_12 : rn Ls xs d 26 12 [l0, some (.inl x)] st H = rn Ls xs d 26 13 [l0, some (.inl x)] (.inl x :: st) H := rn_nx rfl rfl
theorem e_M_sky_13 : rn Ls xs d 26 13 [l0, l1]  st H = rn Ls xs d 26 14 [l0, l1] (.inl 3 :: st) H := rn_nx rfl rfl
theorem e_M_sky_14 : rn Ls xs d 26 14 [l0, l1] (.inl y :: .inl x :: st) H = if y ≤ x then rn Ls xs d 26 28 [l0, l1] st H else rn Ls xs d 26 17 [l0, l1] st H := rn_cmp (p := fun x y => y ≤ x) rfl
theorem e_M_sky_17 : rn Ls xs d 26 17 [some (.inr u), l1] st H = rn Ls xs d 26 18 [some (.inr u), l1] (.inr u :: st) H := rn_nx rfl rfl
theorem e_M_sky_18 : rn Ls xs d 26 18 [l0, l1] (.inr (.inl (some a)) :: st) (S, I, R) = if h_is S a 9 36 then rn Ls xs d 26 21 [l0, l1] (.inr (R a 0) :: st) (S, I, R) else none := rn_bc rfl rfl
theorem e_M_sky_21 : rn Ls xs d 26 21 [l0, l1]  st H = rn Ls xs d 26 22 [l0, l1] (.inl 4 :: st) H := rn_nx rfl rfl
theorem e_M_sky_22 : rn Ls xs d 26 22 [l0, some (.inl x)] st H = rn Ls xs d 26 23 [l0, some (.inl x)] (.inl x :: st) H := rn_nx rfl rfl
theorem e_M_sky_23 : rn Ls xs d 26 23 [l0, l1] (.inl y :: .inl x :: st) H = rn Ls xs d 26 24 [l0, l1] (.inl (x + y) :: st) H := rn_nx rfl rfl
theorem e_M_sky_24 : rn Ls xs d 26 24 [l0, l1] (.inl i :: .inr (.inl (some a)) :: st) (S, I, R) = if h_ia S a 0 i then rn Ls xs d 26 25 [l0, l1] (.inl (I a i.toNatClampNeg) :: st) (S, I, R) else none := rn_bc rfl rfl
theorem e_M_sky_25 : rn Ls xs d 26 25 [l0, l1] st H = rn Ls xs d 26 35 [l0, l1] st H := rn_nx rfl rfl
theorem e_M_sky_28 : rn Ls xs d 26 28 [some (.inr u), l1] st H = rn Ls xs d 26 29 [some (.inr u), l1] (.inr u :: st) H := rn_nx rfl rfl
theorem e_M_sky_29 : rn Ls xs d 26 29 [l0, some (.inl x)] st H = rn Ls xs d 26 30 [l0, some (.inl x)] (.inl x :: st) H := rn_nx rfl rfl
theorem e_M_sky_30 : rn Ls xs d 26 30 [l0, l1]  st H = rn Ls xs d 26 31 [l0, l1] (.inl 2 :: st) H := rn_nx rfl rfl
theorem e_M_sky_31 : rn Ls xs d 26 31 [l0, l1] (.inl y :: .inl x :: st) H = rn Ls xs d 26 32 [l0, l1] (.inl (x - y) :: st) H := rn_nx rfl rfl
theorem e_M_sky_32 : rn Ls xs (d + 1) 26 32 [l0, l1] [v1, (.inr (.inl (some a)))] (S, I, R) = if h_is S a 9 36 then rb Ls xs (d + 1) 26 35 [l0, l1] [] (rn Ls xs d 125 0 [some (.inr (.inl (some a))), some v1, none, none] [] (S, I, R)) else none := rn_callO rfl rfl (Nat.le_of_ble_eq_true rfl) rfl rfl
theorem e_M_sky_35 : rn Ls xs d 26 35 [l0, l1] [.inl x] H = some (some (.inl x), H) := rn_done rfl rfl
theorem e_W_behind_0 : rn Ls xs d 27 0 [l0, some (.inl x), l2, l3] st H = rn Ls xs d 27 1 [l0, some (.inl x), l2, l3] (.inl x :: st) H := rn_nx rfl rfl
theorem e_W_behind_1 : rn Ls xs d 27 1 [l0, l1, l2, l3]  st H = rn Ls xs d 27 2 [l0, l1, l2, l3] (.inl 0 :: st) H := rn_nx rfl rfl
theorem e_W_behind_2 : rn Ls xs d 27 2 [l0, l1, l2, l3]  st H = rn Ls xs d 27 4 [l0, l1, l2, l3] (.inl 100 :: st) H := rn_nx rfl rfl
theorem e_W_behind_4 : rn Ls xs (d + 1) 27 4 [l0, l1, l2, l3] [v2, v1, v0] H = rb Ls xs (d + 1) 27 7 [l0, l1, l2, l3] [] (rn Ls xs d 94 0 [some v0, some v1, some v2] [] H) := rn_call rfl (Nat.le_of_ble_eq_true rfl) (Nat.le_of_ble_eq_true rfl) rfl rfl
theorem e_W_behind_7 : rn Ls xs d 27 7 [l0, l1, l2, l3] (.inl x :: st) H = if x = 0 then rn Ls xs d 27 27 [l0, l1, l2, l3] st H else rn Ls xs d 27 10 [l0, l1, l2, l3] st H := rn_if (p := fun x => x = 0) rfl
theorem e_W_behind_10 : rn Ls xs d 27 10 [l0, l1, some (.inl x), l3] st H = rn Ls xs d 27 11 [l0, l1, some (.inl x), l3] (.inl x :: st) H := rn_nx rfl rfl
theorem e_W_behind_11 : rn Ls xs d 27 11 [l0, l1, l2, l3]  st H = rn Ls xs d 27 12 [l0, l1, l2, l3] (.inl 0 :: st) H := rn_nx rfl rfl
theorem e_W_behind_12 : rn Ls xs d 27 12 [l0, l1, l2, l3]  st H = rn Ls xs d 27 13 [l0, l1, l2, l3] (.inl 2 :: st) H := rn_nx rfl rfl
theorem e_W_behind_13 : rn Ls xs d 27 13 [some (.inr u), l1, l2, l3] st H = rn Ls xs d 27 14 [some (.inr u), l1, l2, l3] (.inr u :: st) H := rn_nx rfl rfl
theorem e_W_behind_14 : rn Ls xs d 27 14 [l0, l1, l2, l3] (.inr (.inl (some a)) :: st) (S, I, R) = if h_is S a 8 10 then rn Ls xs d 27 17 [l0, l1, l2, l3] (.inr (R a 0) :: st) (S, I, R) else none := rn_bc rfl rfl
theorem e_W_behind_17 : rn Ls xs d 27 17 [l0, l1, l2, l3] (.inr (.inl (some a)) :: st) (S, I, R) = if h_is S a 3 11 then rn Ls xs d 27 20 [l0, l1, l2, l3] (.inl (I a 3) :: st) (S, I, R) else none := rn_bc rfl rfl
theorem e_W_behind_20 : rn Ls xs d 27 20 [l0, l1, l2, l3] (.inl y :: .inl x :: st) H = rn Ls xs d 27 21 [l0, l1, l2, l3] (.inl (x + y) :: st) H := rn_nx rfl rfl
theorem e_W_behind_21 : rn Ls xs (d + 1) 27 21 [l0, l1, l2, l3] [v2, v1, v0] H = rb Ls xs (d + 1) 27 24 [l0, l1, l2, l3] [] (rn Ls xs d 94 0 [some v0, some v1, some v2] [] H) := rn_call rfl (Nat.le_of_ble_eq_true rfl) (Nat.le_of_ble_eq_true rfl) rfl rfl
theorem e_W_behind_24 : rn Ls xs d 27 24 [l0, l1, l2, l3] (.inl x :: st) H = if x ≠ 0 then rn Ls xs d 27 30 [l0, l1, l2, l3] st H else rn Ls xs d 27 27 [l0, l1, l2, l3] st H := rn_if (p := fun x => x ≠ 0) rfl
theorem e_W_behind_27 : rn Ls xs d 27 27 [l0, l1, l2, l3]  st H = rn Ls xs d 27 29 [l0, l1, l2, l3] (.inl (-1000000001) :: st) H := rn_nx rfl rfl
theorem e_W_behind_29 : rn Ls xs d 27 29 [l0, l1, l2, l3] [.inl x] H = some (some (.inl x), H) := rn_done rfl rfl
theorem e_W_behind_30 : rn Ls xs d 27 30 [some (.inr u), l1, l2, l3] st H = rn Ls xs d 27 31 [some (.inr u), l1, l2, l3] (.inr u :: st) H := rn_nx rfl rfl
theorem e_W_behind_31 : rn Ls xs d 27 31 [l0, l1, l2, l3] (.inr (.inl (some a)) :: st) (S, I, R) = if h_is S a 8 10 then rn Ls xs d 27 34 [l0, l1, l2, l3] (.inr (R a 2) :: st) (S, I, R) else none := rn_bc rfl rfl
theorem e_W_behind_34 : rn Ls xs d 27 34 [some (.inr u), l1, l2, l3] st H = rn Ls xs d 27 35 [some (.inr u), l1, l2, l3] (.inr u :: st) H := rn_nx rfl rfl
theorem e_W_behind_35 : rn Ls xs d 27 35 [l0, l1, l2, l3] (.inr (.inl (some a)) :: st) (S, I, R) = if h_is S a 8 10 then rn Ls xs d 27 38 [l0, l1, l2, l3] (.inr (R a 0) :: st) (S, I, R) else none := rn_bc rfl rfl
theorem e_W_behind_38 : rn Ls xs d 27 38 [l0, some (.inl x), l2, l3] st H = rn Ls xs d 27 39 [l0, some (.inl x), l2, l3] (.inl x :: st) H := rn_nx rfl rfl
theorem e_W_behind_39 : rn Ls xs (d + 1) 27 39 [l0, l1, l2, l3] [v2, v1, (.inr (.inl (some a)))] (S, I, R) = if h_is S a 0 5 then rb Ls xs (d + 1) 27 42 [l0, l1, l2, l3] [] (rn Ls xs d 126 0 [some (.inr (.inl (some a))), some v1, some v2] [] (S, I, R)) else none := rn_callO rfl rfl (Nat.le_of_ble_eq_true rfl) rfl rfl
theorem e_W_behind_42 : rn Ls xs d 27 42 [l0, l1, l2, l3] (.inr u :: st) H = rn Ls xs d 27 43 [l0, l1, l2, some (.inr u)] st H := rn_nx rfl rfl
theorem e_W_behind_43 : rn Ls xs d 27 43 [l0, l1, some (.inl x), l3] st H = rn Ls xs d 27 44 [l0, l1, some (.inl x), l3] (.inl x :: st) H := rn_nx rfl rfl
theorem e_W_behind_44 : rn Ls xs d 27 44 [l0, l1, l2, l3] (.inl x :: st) H = if x = 0 then rn Ls xs d 27 72 [l0, l1, l2, l3] st H else if x = 1 then rn Ls xs d 27 77 [l0, l1, l2, l3] st H else if x = 2 then rn Ls xs d 27 82 [l0, l1, l2, l3] st H else rn Ls xs d 27 90 [l0, l1, l2, l3] st H := (rn_nx rfl rfl).trans (rn_tc rfl rfl (rn_tc rfl rfl (rn_tc rfl rfl (rn_tn))))
theorem e_W_behind_72 : rn Ls xs d 27 72 [l0, l1, l2, some (.inr u)] st H = rn Ls xs d 27 73 [l0, l1, l2, some (.inr u)] (.inr u :: st) H := rn_nx rfl rfl
theorem e_W_behind_73 : rn Ls xs d 27 73 [l0, l1, l2, l3] (.inr (.inl (some a)) :: st) (S, I, R) = if h_is S a 3 11 then rn Ls xs d 27 76 [l0, l1, l2, l3] (.inl (I a 6) :: st) (S, I, R) else none := rn_bc rfl rfl
theorem e_W_behind_76 : rn Ls xs d 27 76 [l0, l1, l2, l3] [.inl x] H = some (some (.inl x), H) := rn_done rfl rfl
theorem e_W_behind_77 : rn Ls xs d 27 77 [l0, l1, l2, some (.inr u)] st H = rn Ls xs d 27 78 [l0, l1, l2, some (.inr u)] (.inr u :: st) H := rn_nx rfl rfl
theorem e_W_behind_78 : rn Ls xs d 27 78 [l0, l1, l2, l3] (.inr (.inl (some a)) :: st) (S, I, R) = if h_is S a 3 11 then rn Ls xs d 27 81 [l0, l1, l2, l3] (.inl (I a 7) :: st) (S, I, R) else none := rn_bc rfl rfl
theorem e_W_behind_81 : rn Ls xs d 27 81 [l0, l1, l2, l3] [.inl x] H = some (some (.inl x), H) := rn_done rfl rfl
theorem e_W_behind_82 : rn Ls xs d 27 82 [l0, l1, l2, some (.inr u)] st H = rn Ls xs d 27 83 [l0, l1, l2, some (.inr u)] (.inr u :: st) H := rn_nx rfl rfl
theorem e_W_behind_83 : rn Ls xs (d + 1) 27 83 [l0, l1, l2, l3] [(.inr (.inl (some a)))] (S, I, R) = if h_is S a 3 11 then rb Ls xs (d + 1) 27 86 [l0, l1, l2, l3] [] (rn Ls xs d 122 0 [some (.inr (.inl (some a))), none, none] [] (S, I, R)) else none := rn_callO rfl rfl (Nat.le_of_ble_eq_true rfl) rfl rfl
theorem e_W_behind_86 : rn Ls xs (d + 1) 27 86 [l0, l1, l2, l3] [v0] H = rb Ls xs (d + 1) 27 89 [l0, l1, l2, l3] [] (rn Ls xs d 127 0 [some v0] [] H) := rn_call rfl (Nat.le_of_ble_eq_true rfl) (Nat.le_of_ble_eq_true rfl) rfl rfl
theorem e_W_behind_89 : rn Ls xs d 27 89 [l0, l1, l2, l3] [.inl x] H = some (some (.inl x), H) := rn_done rfl rfl
theorem e_W_behind_90 : rn Ls xs d 27 90 [l0, l1, l2, some (.inr u)] st H = rn Ls xs d 27 91 [l0, l1, l2, some (.inr u)] (.inr u :: st) H := rn_nx rfl rfl
theorem e_W_behind_91 : rn Ls xs d 27 91 [l0, l1, l2, l3] (.inr (.inl (some a)) :: st) (S, I, R) = if h_is S a 3 11 then rn Ls xs d 27 94 [l0, l1, l2, l3] (.inr (R a 0) :: st) (S, I, R) else none := rn_bc rfl rfl
theorem e_W_behind_94 : rn Ls xs d 27 94 [l0, l1, some (.inl x), l3] st H = rn Ls xs d 27 95 [l0, l1, some (.inl x), l3] (.inl x :: st) H := rn_nx rfl rfl
theorem e_W_behind_95 : rn Ls xs d 27 95 [l0, l1, l2, l3]  st H = rn Ls xs d 27 96 [l0, l1, l2, l3] (.inl 3 :: st) H := rn_nx rfl rfl
theorem e_W_behind_96 : rn Ls xs d 27 96 [l0, l1, l2, l3] (.inl y :: .inl x :: st) H = rn Ls xs d 27 97 [l0, l1, l2, l3] (.inl (x - y) :: st) H := rn_nx rfl rfl
theorem e_W_behind_97 : rn Ls xs d 27 97 [l0, l1, l2, l3] (.inl i :: .inr (.inl (some a)) :: st) (S, I, R) = if h_ia S a 4 i then (match R a i.toNatClampNeg with | .inl o => rn Ls xs d 27 98 [l0, l1, l2, l3] (.inr (.inl o) :: st) (S, I, R) | .inr _ => none) else none := rn_aald rfl
theorem e_W_behind_98 : rn Ls xs d 27 98 [l0, l1, l2, l3] (.inr (.inl (some a)) :: st) (S, I, R) = if h_is S a 7 6 then rn Ls xs d 27 101 [l0, l1, l2, l3] (.inl (I a 2) :: st) (S, I, R) else none := rn_bc rfl rfl
theorem e_W_behind_101 : rn Ls xs d 27 101 [l0, l1, l2, l3] [.inl x] H = some (some (.inl x), H) := rn_done rfl rfl
theorem e_M_behind_0 : rn Ls xs d 28 0 [l0, some (.inl x), l2, l3] st H = rn Ls xs d 28 1 [l0, some (.inl x), l2, l3] (.inl x :: st) H := rn_nx rfl rfl
theorem e_M_behind_1 : rn Ls xs d 28 1 [l0, l1, l2, l3]  st H = rn Ls xs d 28 2 [l0, l1, l2, l3] (.inl 0 :: st) H := rn_nx rfl rfl
theorem e_M_behind_2 : rn Ls xs d 28 2 [l0, l1, l2, l3]  st H = rn Ls xs d 28 4 [l0, l1, l2, l3] (.inl 100 :: st) H := rn_nx rfl rfl
theorem e_M_behind_4 : rn Ls xs (d + 1) 28 4 [l0, l1, l2, l3] [v2, v1, v0] H = rb Ls xs (d + 1) 28 7 [l0, l1, l2, l3] [] (rn Ls xs d 97 0 [some v0, some v1, some v2] [] H) := rn_call rfl (Nat.le_of_ble_eq_true rfl) (Nat.le_of_ble_eq_true rfl) rfl rfl
theorem e_M_behind_7 : rn Ls xs d 28 7 [l0, l1, l2, l3] (.inl x :: st) H = if x = 0 then rn Ls xs d 28 29 [l0, l1, l2, l3] st H else rn Ls xs d 28 10 [l0, l1, l2, l3] st H := rn_if (p := fun x => x = 0) rfl
theorem e_M_behind_10 : rn Ls xs d 28 10 [l0, l1, some (.inl x), l3] st H = rn Ls xs d 28 11 [l0, l1, some (.inl x), l3] (.inl x :: st) H := rn_nx rfl rfl
theorem e_M_behind_11 : rn Ls xs d 28 11 [l0, l1, l2, l3] (.inl x :: st) H = if x < 0 then rn Ls xs d 28 29 [l0, l1, l2, l3] st H else rn Ls xs d 28 14 [l0, l1, l2, l3] st H := rn_if (p := fun x => x < 0) rfl
theorem e_M_behind_14 : rn Ls xs d 28 14 [l0, l1, some (.inl x), l3] st H = rn Ls xs d 28 15 [l0, l1, some (.inl x), l3] (.inl x :: st) H := rn_nx rfl rfl
theorem e_M_behind_15 : rn Ls xs d 28 15 [l0, l1, l2, l3]  st H = rn Ls xs d 28 16 [l0, l1, l2, l3] (.inl 2 :: st) H := rn_nx rfl rfl
theorem e_M_behind_16 : rn Ls xs d 28 16 [l0, l1, l2, l3] (.inl y :: .inl x :: st) H = if x ≤ y then rn Ls xs d 28 32 [l0, l1, l2, l3] st H else rn Ls xs d 28 19 [l0, l1, l2, l3] st H := rn_cmp (p := fun x y => x ≤ y) rfl
theorem e_M_behind_19 : rn Ls xs d 28 19 [some (.inr u), l1, l2, l3] st H = rn Ls xs d 28 20 [some (.inr u), l1, l2, l3] (.inr u :: st) H := rn_nx rfl rfl
theorem e_M_behind_20 : rn Ls xs d 28 20 [l0, l1, some (.inl x), l3] st H = rn Ls xs d 28 21 [l0, l1, some (.inl x), l3] (.inl x :: st) H := rn_nx rfl rfl
theorem e_M_behind_21 : rn Ls xs d 28 21 [l0, l1, l2, l3]  st H = rn Ls xs d 28 22 [l0, l1, l2, l3] (.inl 3 :: st) H := rn_nx rfl rfl
theorem e_M_behind_22 : rn Ls xs d 28 22 [l0, l1, l2, l3] (.inl y :: .inl x :: st) H = rn Ls xs d 28 23 [l0, l1, l2, l3] (.inl (x - y) :: st) H := rn_nx rfl rfl
theorem e_M_behind_23 : rn Ls xs (d + 1) 28 23 [l0, l1, l2, l3] [v1, (.inr (.inl (some a)))] (S, I, R) = if h_is S a 9 36 then rb Ls xs (d + 1) 28 26 [l0, l1, l2, l3] [] (rn Ls xs d 104 0 [some (.inr (.inl (some a))), some v1] [] (S, I, R)) else none := rn_callO rfl rfl (Nat.le_of_ble_eq_true rfl) rfl rfl
theorem e_M_behind_26 : rn Ls xs d 28 26 [l0, l1, l2, l3] (.inl x :: st) H = if x ≠ 0 then rn Ls xs d 28 32 [l0, l1, l2, l3] st H else rn Ls xs d 28 29 [l0, l1, l2, l3] st H := rn_if (p := fun x => x ≠ 0) rfl
theorem e_M_behind_29 : rn Ls xs d 28 29 [l0, l1, l2, l3]  st H = rn Ls xs d 28 31 [l0, l1, l2, l3] (.inl (-1000000001) :: st) H := rn_nx rfl rfl
theorem e_M_behind_31 : rn Ls xs d 28 31 [l0, l1, l2, l3] [.inl x] H = some (some (.inl x), H) := rn_done rfl rfl
theorem e_M_behind_32 : rn Ls xs d 28 32 [some (.inr u), l1, l2, l3] st H = rn Ls xs d 28 33 [some (.inr u), l1, l2, l3] (.inr u :: st) H := rn_nx rfl rfl
theorem e_M_behind_33 : rn Ls xs (d + 1) 28 33 [l0, l1, l2, l3] [(.inr (.inl (some a)))] (S, I, R) = if h_is S a 9 36 then rb Ls xs (d + 1) 28 36 [l0, l1, l2, l3] [] (rn Ls xs d 128 0 [some (.inr (.inl (some a))), none] [] (S, I, R)) else none := rn_callO rfl rfl (Nat.le_of_ble_eq_true rfl) rfl rfl
theorem e_M_behind_36 : rn Ls xs d 28 36 [some (.inr u), l1, l2, l3] st H = rn Ls xs d 28 37 [some (.inr u), l1, l2, l3] (.inr u :: st) H := rn_nx rfl rfl
theorem e_M_behind_37 : rn Ls xs d 28 37 [l0, some (.inl x), l2, l3] st H = rn Ls xs d 28 38 [l0, some (.inl x), l2, l3] (.inl x :: st) H := rn_nx rfl rfl
theorem e_M_behind_38 : rn Ls xs (d + 1) 28 38 [l0, l1, l2, l3] [v1, (.inr (.inl (some a)))] (S, I, R) = if h_is S a 9 36 then rb Ls xs (d + 1) 28 41 [l0, l1, l2, l3] [] (rn Ls xs d 121 0 [some (.inr (.inl (some a))), some v1, none] [] (S, I, R)) else none := rn_callO rfl rfl (Nat.le_of_ble_eq_true rfl) rfl rfl
theorem e_M_behind_41 : rn Ls xs d 28 41 [l0, l1, some (.inl x), l3] st H = rn Ls xs d 28 42 [l0, l1, some (.inl x), l3] (.inl x :: st) H := rn_nx rfl rfl
theorem e_M_behind_42 : rn Ls xs d 28 42 [l0, l1, l2, l3] (.inl x :: st) H = if x ≠ 0 then rn Ls xs d 28 54 [l0, l1, l2, l3] st H else rn Ls xs d 28 45 [l0, l1, l2, l3] st H := rn_if (p := fun x => x ≠ 0) rfl
theorem e_M_behind_45 : rn Ls xs d 28 45 [some (.inr u), l1, l2, l3] st H = rn Ls xs d 28 46 [some (.inr u), l1, l2, l3] (.inr u :: st) H := rn_nx rfl rfl
theorem e_M_behind_46 : rn Ls xs d 28 46 [l0, l1, l2, l3] (.inr (.inl (some a)) :: st) (S, I, R) = if h_is S a 9 36 then rn Ls xs d 28 49 [l0, l1, l2, l3] (.inr (R a 0) :: st) (S, I, R) else none := rn_bc rfl rfl
theorem e_M_behind_49 : rn Ls xs d 28 49 [l0, l1, l2, l3]  st H = rn Ls xs d 28 50 [l0, l1, l2, l3] (.inl 4 :: st) H := rn_nx rfl rfl
theorem e_M_behind_50 : rn Ls xs d 28 50 [l0, l1, l2, l3] (.inl i :: .inr (.inl (some a)) :: st) (S, I, R) = if h_ia S a 0 i then rn Ls xs d 28 51 [l0, l1, l2, l3] (.inl (I a i.toNatClampNeg) :: st) (S, I, R) else none := rn_bc rfl rfl
theorem e_M_behind_51 : rn Ls xs d 28 51 [l0, l1, l2, l3] st H = rn Ls xs d 28 89 [l0, l1, l2, l3] st H := rn_nx rfl rfl
theorem e_M_behind_54 : rn Ls xs d 28 54 [l0, l1, some (.inl x), l3] st H = rn Ls xs d 28 55 [l0, l1, some (.inl x), l3] (.inl x :: st) H := rn_nx rfl rfl
theorem e_M_behind_55 : rn Ls xs d 28 55 [l0, l1, l2, l3]  st H = rn Ls xs d 28 56 [l0, l1, l2, l3] (.inl 1 :: st) H := rn_nx rfl rfl
theorem e_M_behind_56 : rn Ls xs d 28 56 [l0, l1, l2, l3] (.inl y :: .inl x :: st) H = if x ≠ y then rn Ls xs d 28 68 [l0, l1, l2, l3] st H else rn Ls xs d 28 59 [l0, l1, l2, l3] st H := rn_cmp (p := fun x y => x ≠ y) rfl
theorem e_M_behind_59 : rn Ls xs d 28 59 [some (.inr u), l1, l2, l3] st H = rn Ls xs d 28 60 [some (.inr u), l1, l2, l3] (.inr u :: st) H := rn_nx rfl rfl
theorem e_M_behind_60 : rn Ls xs d 28 60 [l0, l1, l2, l3] (.inr (.inl (some a)) :: st) (S, I, R) = if h_is S a 9 36 then rn Ls xs d 28 63 [l0, l1, l2, l3] (.inr (R a 0) :: st) (S, I, R) else none := rn_bc rfl rfl
theorem e_M_behind_63 : rn Ls xs d 28 63 [l0, l1, l2, l3]  st H = rn Ls xs d 28 64 [l0, l1, l2, l3] (.inl 5 :: st) H := rn_nx rfl rfl
theorem e_M_behind_64 : rn Ls xs d 28 64 [l0, l1, l2, l3] (.inl i :: .inr (.inl (some a)) :: st) (S, I, R) = if h_ia S a 0 i then rn Ls xs d 28 65 [l0, l1, l2, l3] (.inl (I a i.toNatClampNeg) :: st) (S, I, R) else none := rn_bc rfl rfl
theorem e_M_behind_65 : rn Ls xs d 28 65 [l0, l1, l2, l3] st H = rn Ls xs d 28 89 [l0, l1, l2, l3] st H := rn_nx rfl rfl
theorem e_M_behind_68 : rn Ls xs d 28 68 [l0, l1, some (.inl x), l3] st H = rn Ls xs d 28 69 [l0, l1, some (.inl x), l3] (.inl x :: st) H := rn_nx rfl rfl
theorem e_M_behind_69 : rn Ls xs d 28 69 [l0, l1, l2, l3]  st H = rn Ls xs d 28 70 [l0, l1, l2, l3] (.inl 2 :: st) H := rn_nx rfl rfl
theorem e_M_behind_70 : rn Ls xs d 28 70 [l0, l1, l2, l3] (.inl y :: .inl x :: st) H = if x ≠ y then rn Ls xs d 28 81 [l0, l1, l2, l3] st H else rn Ls xs d 28 73 [l0, l1, l2, l3] st H := rn_cmp (p := fun x y => x ≠ y) rfl
theorem e_M_behind_73 : rn Ls xs d 28 73 [some (.inr u), l1, l2, l3] st H = rn Ls xs d 28 74 [some (.inr u), l1, l2, l3] (.inr u :: st) H := rn_nx rfl rfl
theorem e_M_behind_74 : rn Ls xs d 28 74 [l0, l1, l2, l3]  st H = rn Ls xs d 28 75 [l0, l1, l2, l3] (.inl 0 :: st) H := rn_nx rfl rfl
theorem e_M_behind_75 : rn Ls xs (d + 1) 28 75 [l0, l1, l2, l3] [v1, (.inr (.inl (some a)))] (S, I, R) = if h_is S a 9 36 then rb Ls xs (d + 1) 28 78 [l0, l1, l2, l3] [] (rn Ls xs d 125 0 [some (.inr (.inl (some a))), some v1, none, none] [] (S, I, R)) else none := rn_callO rfl rfl (Nat.le_of_ble_eq_true rfl) rfl rfl
theorem e_M_behind_78 : rn Ls xs d 28 78 [l0, l1, l2, l3] st H = rn Ls xs d 28 89 [l0, l1, l2, l3] st H := rn_nx rfl rfl
theorem e_M_behind_81 : rn Ls xs d 28 81 [some (.inr u), l1, l2, l3] st H = rn Ls xs d 28 82 [some (.inr u), l1, l2, l3] (.inr u :: st) H := rn_nx rfl rfl
theorem e_M_behind_82 : rn Ls xs d 28 82 [l0, l1, some (.inl x), l3] st H = rn Ls xs d 28 83 [l0, l1, some (.inl x), l3] (.inl x :: st) H := rn_nx rfl rfl
theorem e_M_behind_83 : rn Ls xs d 28 83 [l0, l1, l2, l3]  st H = rn Ls xs d 28 84 [l0, l1, l2, l3] (.inl 3 :: st) H := rn_nx rfl rfl
theorem e_M_behind_84 : rn Ls xs d 28 84 [l0, l1, l2, l3] (.inl y :: .inl x :: st) H = rn Ls xs d 28 85 [l0, l1, l2, l3] (.inl (x - y) :: st) H := rn_nx rfl rfl
theorem e_M_behind_85 : rn Ls xs d 28 85 [l0, l1, l2, l3]  st H = rn Ls xs d 28 86 [l0, l1, l2, l3] (.inl 2 :: st) H := rn_nx rfl rfl
theorem e_M_behind_86 : rn Ls xs (d + 1) 28 86 [l0, l1, l2, l3] [v2, v1, (.inr (.inl (some a)))] (S, I, R) = if h_is S a 9 36 then rb Ls xs (d + 1) 28 89 [l0, l1, l2, l3] [] (rn Ls xs d 105 0 [some (.inr (.inl (some a))), some v1, some v2] [] (S, I, R)) else none := rn_callO rfl rfl (Nat.le_of_ble_eq_true rfl) rfl rfl
theorem e_M_behind_89 : rn Ls xs d 28 89 [l0, l1, l2, l3] (.inl x :: st) H = rn Ls xs d 28 90 [l0, l1, l2, some (.inl x)] st H := rn_nx rfl rfl
theorem e_M_behind_90 : rn Ls xs d 28 90 [some (.inr u), l1, l2, l3] st H = rn Ls xs d 28 91 [some (.inr u), l1, l2, l3] (.inr u :: st) H := rn_nx rfl rfl
theorem e_M_behind_91 : rn Ls xs (d + 1) 28 91 [l0, l1, l2, l3] [(.inr (.inl (some a)))] (S, I, R) = if h_is S a 9 36 then rb Ls xs (d + 1) 28 94 [l0, l1, l2, l3] [] (rn Ls xs d 129 0 [some (.inr (.inl (some a))), none] [] (S, I, R)) else none := rn_callO rfl rfl (Nat.le_of_ble_eq_true rfl) rfl rfl
theorem e_M_behind_94 : rn Ls xs d 28 94 [l0, l1, l2, some (.inl x)] st H = rn Ls xs d 28 95 [l0, l1, l2, some (.inl x)] (.inl x :: st) H := rn_nx rfl rfl
theorem e_M_behind_95 : rn Ls xs d 28 95 [l0, l1, l2, l3] [.inl x] H = some (some (.inl x), H) := rn_done rfl rfl
theorem e_W_first_0 : rn Ls xs d 29 0 [some (.inr u)] st H = rn Ls xs d 29 1 [some (.inr u)] (.inr u :: st) H := rn_nx rfl rfl
theorem e_W_first_1 : rn Ls xs d 29 1 [l0] (.inr (.inl (some a)) :: st) (S, I, R) = if h_is S a 8 10 then rn Ls xs d 29 4 [l0] (.inr (R a 2) :: st) (S, I, R) else none := rn_bc rfl rfl
theorem e_W_first_4 : rn Ls xs d 29 4 [some (.inr u)] st H = rn Ls xs d 29 5 [some (.inr u)] (.inr u :: st) H := rn_nx rfl rfl
theorem e_W_first_5 : rn Ls xs d 29 5 [l0] (.inr (.inl (some a)) :: st) (S, I, R) = if h_is S a 8 10 then rn Ls xs d 29 8 [l0] (.inr (R a 0) :: st) (S, I, R) else none := rn_bc rfl rfl
theorem e_W_first_8 : rn Ls xs (d + 1) 29 8 [l0] [v1, (.inr (.inl (some a)))] (S, I, R) = if h_is S a 0 5 then rb Ls xs (d + 1) 29 11 [l0] [] (rn Ls xs d 130 0 [some (.inr (.inl (some a))), some v1, none] [] (S, I, R)) else none := rn_callO rfl rfl (Nat.le_of_ble_eq_true rfl) rfl rfl
theorem e_W_first_11 : rn Ls xs d 29 11 [l0] [.inl x] H = some (some (.inl x), H) := rn_done rfl rfl
theorem e_M_first_0 : rn Ls xs d 30 0 [some (.inr u), l1] st H = rn Ls xs d 30 1 [some (.inr u), l1] (.inr u :: st) H := rn_nx rfl rfl
theorem e_M_first_1 : rn Ls xs (d + 1) 30 1 [l0, l1] [(.inr (.inl (some a)))] (S, I, R) = if h_is S a 9 36 then rb Ls xs (d + 1) 30 4 [l0, l1] [] (rn Ls xs d 128 0 [some (.inr (.inl (some a))), none] [] (S, I, R)) else none := rn_callO rfl rfl (Nat.le_of_ble_eq_true rfl) rfl rfl
theorem e_M_first_4 : rn Ls xs d 30 4 [l0, l1]  st H = rn Ls xs d 30 5 [l0, l1] (.inl 0 :: st) H := rn_nx rfl rfl
theorem e_M_first_5 : rn Ls xs d 30 5 [l0, l1] (.inl x :: st) H = rn Ls xs d 30 6 [l0, some (.inl x)] st H := rn_nx rfl rfl
theorem e_M_first_6 : rn Ls xs d 30 6 [l0, some (.inl x)] st H = rn Ls xs d 30 7 [l0, some (.inl x)] (.inl x :: st) H := rn_nx rfl rfl
theorem e_M_first_7 : rn Ls xs d 30 7 [l0, l1]  st H = rn Ls xs d 30 10 [l0, l1] (.inl 200 :: st) H := rn_nx rfl rfl
theorem e_M_first_10 : rn Ls xs d 30 10 [l0, l1] (.inl y :: .inl x :: st) H = if y < x then rn Ls xs d 30 38 [l0, l1] st H else rn Ls xs d 30 13 [l0, l1] st H := rn_cmp (p := fun x y => y < x) rfl
theorem e_M_first_13 : rn Ls xs d 30 13 [some (.inr u), l1] st H = rn Ls xs d 30 14 [some (.inr u), l1] (.inr u :: st) H := rn_nx rfl rfl
theorem e_M_first_14 : rn Ls xs d 30 14 [l0, l1] (.inr (.inl (some a)) :: st) (S, I, R) = if h_is S a 9 36 then rn Ls xs d 30 17 [l0, l1] (.inr (R a 0) :: st) (S, I, R) else none := rn_bc rfl rfl
theorem e_M_first_17 : rn Ls xs d 30 17 [l0, l1]  st H = rn Ls xs d 30 18 [l0, l1] (.inl 4 :: st) H := rn_nx rfl rfl
theorem e_M_first_18 : rn Ls xs d 30 18 [l0, l1] (.inl i :: .inr (.inl (some a)) :: st) (S, I, R) = if h_ia S a 0 i then rn Ls xs d 30 19 [l0, l1] (.inl (I a i.toNatClampNeg) :: st) (S, I, R) else none := rn_bc rfl rfl
theorem e_M_first_19 : rn Ls xs d 30 19 [some (.inr u), l1] st H = rn Ls xs d 30 20 [some (.inr u), l1] (.inr u :: st) H := rn_nx rfl rfl
theorem e_M_first_20 : rn Ls xs d 30 20 [l0, l1] (.inr (.inl (some a)) :: st) (S, I, R) = if h_is S a 9 36 then rn Ls xs d 30 23 [l0, l1] (.inr (R a 4) :: st) (S, I, R) else none := rn_bc rfl rfl
theorem e_M_first_23 : rn Ls xs d 30 23 [l0, l1]  st H = rn Ls xs d 30 24 [l0, l1] (.inl 4 :: st) H := rn_nx rfl rfl
theorem e_M_first_24 : rn Ls xs d 30 24 [l0, l1] (.inl i :: .inr (.inl (some a)) :: st) (S, I, R) = if h_ia S a 0 i then rn Ls xs d 30 25 [l0, l1] (.inl (I a i.toNatClampNeg) :: st) (S, I, R) else none := rn_bc rfl rfl
theorem e_M_first_25 : rn Ls xs d 30 25 [l0, l1] (.inl y :: .inl x :: st) H = if x ≠ y then rn Ls xs d 30 38 [l0, l1] st H else rn Ls xs d 30 28 [l0, l1] st H := rn_cmp (p := fun x y => x ≠ y) rfl
theorem e_M_first_28 : rn Ls xs d 30 28 [some (.inr u), l1] st H = rn Ls xs d 30 29 [some (.inr u), l1] (.inr u :: st) H := rn_nx rfl rfl
theorem e_M_first_29 : rn Ls xs (d + 1) 30 29 [l0, l1] [(.inr (.inl (some a)))] (S, I, R) = if h_is S a 9 36 then rb Ls xs (d + 1) 30 32 [l0, l1] [] (rn Ls xs d 131 0 [some (.inr (.inl (some a))), none, none, none] [] (S, I, R)) else none := rn_callO rfl rfl (Nat.le_of_ble_eq_true rfl) rfl rfl
theorem e_M_first_32 : rn Ls xs d 30 32 [l0, some (.inl x)] st H = rn Ls xs d 30 35 [l0, some (.inl (x + 1))] st H := rn_nx rfl rfl
theorem e_M_first_35 : rn Ls xs d 30 35 [l0, l1] st H = rn Ls xs d 30 6 [l0, l1] st H := rn_nx rfl rfl
theorem e_M_first_38 : rn Ls xs d 30 38 [some (.inr u), l1] st H = rn Ls xs d 30 39 [some (.inr u), l1] (.inr u :: st) H := rn_nx rfl rfl
theorem e_M_first_39 : rn Ls xs (d + 1) 30 39 [l0, l1] [(.inr (.inl (some a)))] (S, I, R) = if h_is S a 9 36 then rb Ls xs (d + 1) 30 42 [l0, l1] [] (rn Ls xs d 129 0 [some (.inr (.inl (some a))), none] [] (S, I, R)) else none := rn_callO rfl rfl (Nat.le_of_ble_eq_true rfl) rfl rfl
theorem e_M_first_42 : rn Ls xs d 30 42 [l0, some (.inl x)] st H = rn Ls xs d 30 43 [l0, some (.inl x)] (.inl x :: st) H := rn_nx rfl rfl
theorem e_M_first_43 : rn Ls xs d 30 43 [l0, l1]  st H = rn Ls xs d 30 46 [l0, l1] (.inl 200 :: st) H := rn_nx rfl rfl
theorem e_M_first_46 : rn Ls xs d 30 46 [l0, l1] (.inl y :: .inl x :: st) H = if x ≤ y then rn Ls xs d 30 54 [l0, l1] st H else rn Ls xs d 30 49 [l0, l1] st H := rn_cmp (p := fun x y => x ≤ y) rfl
theorem e_M_first_49 : rn Ls xs d 30 49 [l0, l1]  st H = rn Ls xs d 30 51 [l0, l1] (.inl (-1000000005) :: st) H := rn_nx rfl rfl
theorem e_M_first_51 : rn Ls xs d 30 51 [l0, l1] st H = rn Ls xs d 30 55 [l0, l1] st H := rn_nx rfl rfl
theorem e_M_first_54 : rn Ls xs d 30 54 [l0, some (.inl x)] st H = rn Ls xs d 30 55 [l0, some (.inl x)] (.inl x :: st) H := rn_nx rfl rfl
theorem e_M_first_55 : rn Ls xs d 30 55 [l0, l1] [.inl x] H = some (some (.inl x), H) := rn_done rfl rfl
theorem e_W_hole_0 : rn Ls xs d 31 0 [l0, some (.inl x)] st H = rn Ls xs d 31 1 [l0, some (.inl x)] (.inl x :: st) H := rn_nx rfl rfl
theorem e_W_hole_1 : rn Ls xs (d + 1) 31 1 [l0, l1] [v0] H = rb Ls xs (d + 1) 31 4 [l0, l1] [] (rn Ls xs d 95 0 [some v0] [] H) := rn_call rfl (Nat.le_of_ble_eq_true rfl) (Nat.le_of_ble_eq_true rfl) rfl rfl
theorem e_W_hole_4 : rn Ls xs d 31 4 [l0, l1] (.inl x :: st) H = if x ≠ 0 then rn Ls xs d 31 10 [l0, l1] st H else rn Ls xs d 31 7 [l0, l1] st H := rn_if (p := fun x => x ≠ 0) rfl
theorem e_W_hole_7 : rn Ls xs d 31 7 [l0, l1]  st H = rn Ls xs d 31 9 [l0, l1] (.inl (-1000000001) :: st) H := rn_nx rfl rfl
theorem e_W_hole_9 : rn Ls xs d 31 9 [l0, l1] [.inl x] H = some (some (.inl x), H) := rn_done rfl rfl
theorem e_W_hole_10 : rn Ls xs d 31 10 [some (.inr u), l1] st H = rn Ls xs d 31 11 [some (.inr u), l1] (.inr u :: st) H := rn_nx rfl rfl
theorem e_W_hole_11 : rn Ls xs d 31 11 [l0, l1] (.inr (.inl (some a)) :: st) (S, I, R) = if h_is S a 8 10 then rn Ls xs d 31 14 [l0, l1] (.inr (R a 2) :: st) (S, I, R) else none := rn_bc rfl rfl
theorem e_W_hole_14 : rn Ls xs d 31 14 [some (.inr u), l1] st H = rn Ls xs d 31 15 [some (.inr u), l1] (.inr u :: st) H := rn_nx rfl rfl
theorem e_W_hole_15 : rn Ls xs d 31 15 [l0, l1] (.inr (.inl (some a)) :: st) (S, I, R) = if h_is S a 8 10 then rn Ls xs d 31 18 [l0, l1] (.inr (R a 0) :: st) (S, I, R) else none := rn_bc rfl rfl
theorem e_W_hole_18 : rn Ls xs (d + 1) 31 18 [l0, l1] [v1, (.inr (.inl (some a)))] (S, I, R) = if h_is S a 0 5 then rb Ls xs (d + 1) 31 21 [l0, l1] [] (rn Ls xs d 132 0 [some (.inr (.inl (some a))), some v1, none] [] (S, I, R)) else none := rn_callO rfl rfl (Nat.le_of_ble_eq_true rfl) rfl rfl
theorem e_W_hole_21 : rn Ls xs d 31 21 [some (.inr u), l1] st H = rn Ls xs d 31 22 [some (.inr u), l1] (.inr u :: st) H := rn_nx rfl rfl
theorem e_W_hole_22 : rn Ls xs d 31 22 [l0, l1] (.inr (.inl (some a)) :: st) (S, I, R) = if h_is S a 8 10 then rn Ls xs d 31 25 [l0, l1] (.inr (R a 2) :: st) (S, I, R) else none := rn_bc rfl rfl
theorem e_W_hole_25 : rn Ls xs d 31 25 [l0, some (.inl x)] st H = rn Ls xs d 31 26 [l0, some (.inl x)] (.inl x :: st) H := rn_nx rfl rfl
theorem e_W_hole_26 : rn Ls xs (d + 1) 31 26 [l0, l1] [v1, (.inr (.inl (some a)))] (S, I, R) = if h_is S a 0 5 then rb Ls xs (d + 1) 31 29 [l0, l1] [] (rn Ls xs d 133 0 [some (.inr (.inl (some a))), some v1, none] [] (S, I, R)) else none := rn_callO rfl rfl (Nat.le_of_ble_eq_true rfl) rfl rfl
theorem e_W_hole_29 : rn Ls xs d 31 29 [l0, l1] [.inl x] H = some (some (.inl x), H) := rn_done rfl rfl
theorem e_M_hole_0 : rn Ls xs d 32 0 [l0, l1]  st H = rn Ls xs d 32 1 [l0, l1] (.inl 2 :: st) H := rn_nx rfl rfl
theorem e_M_hole_1 : rn Ls xs d 32 1 [l0, some (.inl x)] st H = rn Ls xs d 32 2 [l0, some (.inl x)] (.inl x :: st) H := rn_nx rfl rfl
theorem e_M_hole_2 : rn Ls xs (d + 1) 32 2 [l0, l1] [v1, v0] H = rb Ls xs (d + 1) 32 5 [l0, l1] [] (rn Ls xs d 98 0 [some v0, some v1] [] H) := rn_call rfl (Nat.le_of_ble_eq_true rfl) (Nat.le_of_ble_eq_true rfl) rfl rfl
theorem e_M_hole_5 : rn Ls xs d 32 5 [l0, l1] (.inl x :: st) H = if x ≠ 0 then rn Ls xs d 32 11 [l0, l1] st H else rn Ls xs d 32 8 [l0, l1] st H := rn_if (p := fun x => x ≠ 0) rfl
theorem e_M_hole_8 : rn Ls xs d 32 8 [l0, l1]  st H = rn Ls xs d 32 10 [l0, l1] (.inl (-1000000001) :: st) H := rn_nx rfl rfl
theorem e_M_hole_10 : rn Ls xs d 32 10 [l0, l1] [.inl x] H = some (some (.inl x), H) := rn_done rfl rfl
theorem e_M_hole_11 : rn Ls xs d 32 11 [some (.inr u), l1] st H = rn Ls xs d 32 12 [some (.inr u), l1] (.inr u :: st) H := rn_nx rfl rfl
theorem e_M_hole_12 : rn Ls xs (d + 1) 32 12 [l0, l1] [(.inr (.inl (some a)))] (S, I, R) = if h_is S a 9 36 then rb Ls xs (d + 1) 32 15 [l0, l1] [] (rn Ls xs d 134 0 [some (.inr (.inl (some a))), none, none, none, none] [] (S, I, R)) else none := rn_callO rfl rfl (Nat.le_of_ble_eq_true rfl) rfl rfl
theorem e_M_hole_15 : rn Ls xs d 32 15 [some (.inr u), l1] st H = rn Ls xs d 32 16 [some (.inr u), l1] (.inr u :: st) H := rn_nx rfl rfl
theorem e_M_hole_16 : rn Ls xs d 32 16 [l0, some (.inl x)] st H = rn Ls xs d 32 17 [l0, some (.inl x)] (.inl x :: st) H := rn_nx rfl rfl
theorem e_M_hole_17 : rn Ls xs (d + 1) 32 17 [l0, l1] [v1, (.inr (.inl (some a)))] (S, I, R) = if h_is S a 9 36 then rb Ls xs (d + 1) 32 20 [l0, l1] [] (rn Ls xs d 135 0 [some (.inr (.inl (some a))), some v1, none, none, none] [] (S, I, R)) else none := rn_callO rfl rfl (Nat.le_of_ble_eq_true rfl) rfl rfl
theorem e_M_hole_20 : rn Ls xs d 32 20 [l0, l1] [.inl x] H = some (some (.inl x), H) := rn_done rfl rfl
theorem e_W_open_0 : rn Ls xs d 33 0 [l0, some (.inl x), l2, l3] st H = rn Ls xs d 33 1 [l0, some (.inl x), l2, l3] (.inl x :: st) H := rn_nx rfl rfl
theorem e_W_open_1 : rn Ls xs d 33 1 [l0, l1, l2, l3]  st H = rn Ls xs d 33 2 [l0, l1, l2, l3] (.inl 0 :: st) H := rn_nx rfl rfl
theorem e_W_open_2 : rn Ls xs d 33 2 [l0, l1, l2, l3]  st H = rn Ls xs d 33 4 [l0, l1, l2, l3] (.inl 60 :: st) H := rn_nx rfl rfl
theorem e_W_open_4 : rn Ls xs (d + 1) 33 4 [l0, l1, l2, l3] [v2, v1, v0] H = rb Ls xs (d + 1) 33 7 [l0, l1, l2, l3] [] (rn Ls xs d 94 0 [some v0, some v1, some v2] [] H) := rn_call rfl (Nat.le_of_ble_eq_true rfl) (Nat.le_of_ble_eq_true rfl) rfl rfl
theorem e_W_open_7 : rn Ls xs d 33 7 [l0, l1, l2, l3] (.inl x :: st) H = if x ≠ 0 then rn Ls xs d 33 13 [l0, l1, l2, l3] st H else rn Ls xs d 33 10 [l0, l1, l2, l3] st H := rn_if (p := fun x => x ≠ 0) rfl
theorem e_W_open_10 : rn Ls xs d 33 10 [l0, l1, l2, l3]  st H = rn Ls xs d 33 12 [l0, l1, l2, l3] (.inl (-1000000001) :: st) H := rn_nx rfl rfl
theorem e_W_open_12 : rn Ls xs d 33 12 [l0, l1, l2, l3] [.inl x] H = some (some (.inl x), H) := rn_done rfl rfl
theorem e_W_open_13 : rn Ls xs d 33 13 [some (.inr u), l1, l2, l3] st H = rn Ls xs d 33 14 [some (.inr u), l1, l2, l3] (.inr u :: st) H := rn_nx rfl rfl
theorem e_W_open_14 : rn Ls xs d 33 14 [l0, l1, l2, l3] (.inr (.inl (some a)) :: st) (S, I, R) = if h_is S a 8 10 then rn Ls xs d 33 17 [l0, l1, l2, l3] (.inr (R a 2) :: st) (S, I, R) else none := rn_bc rfl rfl
theorem e_W_open_17 : rn Ls xs d 33 17 [some (.inr u), l1, l2, l3] st H = rn Ls xs d 33 18 [some (.inr u), l1, l2, l3] (.inr u :: st) H := rn_nx rfl rfl
theorem e_W_open_18 : rn Ls xs d 33 18 [l0, l1, l2, l3] (.inr (.inl (some a)) :: st) (S, I, R) = if h_is S a 8 10 then rn Ls xs d 33 21 [l0, l1, l2, l3] (.inr (R a 0) :: st) (S, I, R) else none := rn_bc rfl rfl
theorem e_W_open_21 : rn Ls xs (d + 1) 33 21 [l0, l1, l2, l3] [v1, (.inr (.inl (some a)))] (S, I, R) = if h_is S a 0 5 then rb Ls xs (d + 1) 33 24 [l0, l1, l2, l3] [] (rn Ls xs d 132 0 [some (.inr (.inl (some a))), some v1, none] [] (S, I, R)) else none := rn_callO rfl rfl (Nat.le_of_ble_eq_true rfl) rfl rfl
theorem e_W_open_24 : rn Ls xs d 33 24 [l0, l1, l2, l3]  st H = rn Ls xs d 33 25 [l0, l1, l2, l3] (.inl 0 :: st) H := rn_nx rfl rfl
theorem e_W_open_25 : rn Ls xs d 33 25 [l0, l1, l2, l3] (.inl x :: st) H = rn Ls xs d 33 26 [l0, l1, some (.inl x), l3] st H := rn_nx rfl rfl
theorem e_W_open_26 : rn Ls xs d 33 26 [l0, l1, l2, l3]  st H = rn Ls xs d 33 27 [l0, l1, l2, l3] (.inl 0 :: st) H := rn_nx rfl rfl
theorem e_W_open_27 : rn Ls xs d 33 27 [l0, l1, l2, l3] (.inl x :: st) H = rn Ls xs d 33 28 [l0, l1, l2, some (.inl x)] st H := rn_nx rfl rfl
theorem e_W_open_28 : rn Ls xs d 33 28 [l0, l1, l2, some (.inl x)] st H = rn Ls xs d 33 29 [l0, l1, l2, some (.inl x)] (.inl x :: st) H := rn_nx rfl rfl
theorem e_W_open_29 : rn Ls xs d 33 29 [l0, l1, l2, l3]  st H = rn Ls xs d 33 31 [l0, l1, l2, l3] (.inl 30 :: st) H := rn_nx rfl rfl
theorem e_W_open_31 : rn Ls xs d 33 31 [l0, l1, l2, l3] (.inl y :: .inl x :: st) H = if y ≤ x then rn Ls xs d 33 55 [l0, l1, l2, l3] st H else rn Ls xs d 33 34 [l0, l1, l2, l3] st H := rn_cmp (p := fun x y => y ≤ x) rfl
theorem e_W_open_34 : rn Ls xs d 33 34 [some (.inr u), l1, l2, l3] st H = rn Ls xs d 33 35 [some (.inr u), l1, l2, l3] (.inr u :: st) H := rn_nx rfl rfl
theorem e_W_open_35 : rn Ls xs d 33 35 [l0, l1, l2, l3] (.inr (.inl (some a)) :: st) (S, I, R) = if h_is S a 8 10 then rn Ls xs d 33 38 [l0, l1, l2, l3] (.inr (R a 2) :: st) (S, I, R) else none := rn_bc rfl rfl
theorem e_W_open_38 : rn Ls xs d 33 38 [l0, l1, l2, some (.inl x)] st H = rn Ls xs d 33 39 [l0, l1, l2, some (.inl x)] (.inl x :: st) H := rn_nx rfl rfl
theorem e_W_open_39 : rn Ls xs (d + 1) 33 39 [l0, l1, l2, l3] [v1, (.inr (.inl (some a)))] (S, I, R) = if h_is S a 0 5 then rb Ls xs (d + 1) 33 42 [l0, l1, l2, l3] [] (rn Ls xs d 133 0 [some (.inr (.inl (some a))), some v1, none] [] (S, I, R)) else none := rn_callO rfl rfl (Nat.le_of_ble_eq_true rfl) rfl rfl
theorem e_W_open_42 : rn Ls xs d 33 42 [l0, some (.inl x), l2, l3] st H = rn Ls xs d 33 43 [l0, some (.inl x), l2, l3] (.inl x :: st) H := rn_nx rfl rfl
theorem e_W_open_43 : rn Ls xs d 33 43 [l0, l1, l2, l3] (.inl y :: .inl x :: st) H = if x ≠ y then rn Ls xs d 33 49 [l0, l1, l2, l3] st H else rn Ls xs d 33 46 [l0, l1, l2, l3] st H := rn_cmp (p := fun x y => x ≠ y) rfl
theorem e_W_open_46 : rn Ls xs d 33 46 [l0, l1, some (.inl x), l3] st H = rn Ls xs d 33 49 [l0, l1, some (.inl (x + 1)), l3] st H := rn_nx rfl rfl
theorem e_W_open_49 : rn Ls xs d 33 49 [l0, l1, l2, some (.inl x)] st H = rn Ls xs d 33 52 [l0, l1, l2, some (.inl (x + 1))] st H := rn_nx rfl rfl
theorem e_W_open_52 : rn Ls xs d 33 52 [l0, l1, l2, l3] st H = rn Ls xs d 33 28 [l0, l1, l2, l3] st H := rn_nx rfl rfl
theorem e_W_open_55 : rn Ls xs d 33 55 [l0, l1, some (.inl x), l3] st H = rn Ls xs d 33 56 [l0, l1, some (.inl x), l3] (.inl x :: st) H := rn_nx rfl rfl
theorem e_W_open_56 : rn Ls xs d 33 56 [l0, l1, l2, l3] [.inl x] H = some (some (.inl x), H) := rn_done rfl rfl
theorem e_M_open_0 : rn Ls xs d 34 0 [l0, some (.inl x), l2, l3] st H = rn Ls xs d 34 1 [l0, some (.inl x), l2, l3] (.inl x :: st) H := rn_nx rfl rfl
theorem e_M_open_1 : rn Ls xs d 34 1 [l0, l1, l2, l3]  st H = rn Ls xs d 34 2 [l0, l1, l2, l3] (.inl 0 :: st) H := rn_nx rfl rfl
theorem e_M_open_2 : rn Ls xs d 34 2 [l0, l1, l2, l3]  st H = rn Ls xs d 34 4 [l0, l1, l2, l3] (.inl 60 :: st) H := rn_nx rfl rfl
theorem e_M_open_4 : rn Ls xs (d + 1) 34 4 [l0, l1, l2, l3] [v2, v1, v0] H = rb Ls xs (d + 1) 34 7 [l0, l1, l2, l3] [] (rn Ls xs d 97 0 [some v0, some v1, some v2] [] H) := rn_call rfl (Nat.le_of_ble_eq_true rfl) (Nat.le_of_ble_eq_true rfl) rfl rfl
theorem e_M_open_7 : rn Ls xs d 34 7 [l0, l1, l2, l3] (.inl x :: st) H = if x ≠ 0 then rn Ls xs d 34 13 [l0, l1, l2, l3] st H else rn Ls xs d 34 10 [l0, l1, l2, l3] st H := rn_if (p := fun x => x ≠ 0) rfl
theorem e_M_open_10 : rn Ls xs d 34 10 [l0, l1, l2, l3]  st H = rn Ls xs d 34 12 [l0, l1, l2, l3] (.inl (-1000000001) :: st) H := rn_nx rfl rfl
theorem e_M_open_12 : rn Ls xs d 34 12 [l0, l1, l2, l3] [.inl x] H = some (some (.inl x), H) := rn_done rfl rfl
theorem e_M_open_13 : rn Ls xs d 34 13 [some (.inr u), l1, l2, l3] st H = rn Ls xs d 34 14 [some (.inr u), l1, l2, l3] (.inr u :: st) H := rn_nx rfl rfl
theorem e_M_open_14 : rn Ls xs (d + 1) 34 14 [l0, l1, l2, l3] [(.inr (.inl (some a)))] (S, I, R) = if h_is S a 9 36 then rb Ls xs (d + 1) 34 17 [l0, l1, l2, l3] [] (rn Ls xs d 134 0 [some (.inr (.inl (some a))), none, none, none, none] [] (S, I, R)) else none := rn_callO rfl rfl (Nat.le_of_ble_eq_true rfl) rfl rfl
theorem e_M_open_17 : rn Ls xs d 34 17 [l0, l1, l2, l3]  st H = rn Ls xs d 34 18 [l0, l1, l2, l3] (.inl 0 :: st) H := rn_nx rfl rfl
theorem e_M_open_18 : rn Ls xs d 34 18 [l0, l1, l2, l3] (.inl x :: st) H = rn Ls xs d 34 19 [l0, l1, some (.inl x), l3] st H := rn_nx rfl rfl
theorem e_M_open_19 : rn Ls xs d 34 19 [l0, l1, l2, l3]  st H = rn Ls xs d 34 20 [l0, l1, l2, l3] (.inl 0 :: st) H := rn_nx rfl rfl
theorem e_M_open_20 : rn Ls xs d 34 20 [l0, l1, l2, l3] (.inl x :: st) H = rn Ls xs d 34 21 [l0, l1, l2, some (.inl x)] st H := rn_nx rfl rfl
theorem e_M_open_21 : rn Ls xs d 34 21 [l0, l1, l2, some (.inl x)] st H = rn Ls xs d 34 22 [l0, l1, l2, some (.inl x)] (.inl x :: st) H := rn_nx rfl rfl
theorem e_M_open_22 : rn Ls xs d 34 22 [l0, l1, l2, l3]  st H = rn Ls xs d 34 24 [l0, l1, l2, l3] (.inl 30 :: st) H := rn_nx rfl rfl
theorem e_M_open_24 : rn Ls xs d 34 24 [l0, l1, l2, l3] (.inl y :: .inl x :: st) H = if y ≤ x then rn Ls xs d 34 50 [l0, l1, l2, l3] st H else rn Ls xs d 34 27 [l0, l1, l2, l3] st H := rn_cmp (p := fun x y => y ≤ x) rfl
theorem e_M_open_27 : rn Ls xs d 34 27 [l0, l1, some (.inl x), l3] st H = rn Ls xs d 34 28 [l0, l1, some (.inl x), l3] (.inl x :: st) H := rn_nx rfl rfl
theorem e_M_open_28 : rn Ls xs d 34 28 [some (.inr u), l1, l2, l3] st H = rn Ls xs d 34 29 [some (.inr u), l1, l2, l3] (.inr u :: st) H := rn_nx rfl rfl
theorem e_M_open_29 : rn Ls xs d 34 29 [l0, l1, l2, some (.inl x)] st H = rn Ls xs d 34 30 [l0, l1, l2, some (.inl x)] (.inl x :: st) H := rn_nx rfl rfl
theorem e_M_open_30 : rn Ls xs (d + 1) 34 30 [l0, l1, l2, l3] [v1, (.inr (.inl (some a))), v2] (S, I, R) = if h_is S a 9 36 then rb Ls xs (d + 1) 34 33 [l0, l1, l2, l3] [v2] (rn Ls xs d 135 0 [some (.inr (.inl (some a))), some v1, none, none, none] [] (S, I, R)) else none := rn_callO rfl rfl (Nat.le_of_ble_eq_true rfl) rfl rfl
theorem e_M_open_33 : rn Ls xs d 34 33 [l0, some (.inl x), l2, l3] st H = rn Ls xs d 34 34 [l0, some (.inl x), l2, l3] (.inl x :: st) H := rn_nx rfl rfl
theorem e_M_open_34 : rn Ls xs d 34 34 [l0, l1, l2, l3] (.inl y :: .inl x :: st) H = if x ≠ y then rn Ls xs d 34 41 [l0, l1, l2, l3] st H else rn Ls xs d 34 37 [l0, l1, l2, l3] st H := rn_cmp (p := fun x y => x ≠ y) rfl
theorem e_M_open_37 : rn Ls xs d 34 37 [l0, l1, l2, l3]  st H = rn Ls xs d 34 38 [l0, l1, l2, l3] (.inl 1 :: st) H := rn_nx rfl rfl
theorem e_M_open_38 : rn Ls xs d 34 38 [l0, l1, l2, l3] st H = rn Ls xs d 34 42 [l0, l1, l2, l3] st H := rn_nx rfl rfl
theorem e_M_open_41 : rn Ls xs d 34 41 [l0, l1, l2, l3]  st H = rn Ls xs d 34 42 [l0, l1, l2, l3] (.inl 0 :: st) H := rn_nx rfl rfl
theorem e_M_open_42 : rn Ls xs d 34 42 [l0, l1, l2, l3] (.inl y :: .inl x :: st) H = rn Ls xs d 34 43 [l0, l1, l2, l3] (.inl (x + y) :: st) H := rn_nx rfl rfl
theorem e_M_open_43 : rn Ls xs d 34 43 [l0, l1, l2, l3] (.inl x :: st) H = rn Ls xs d 34 44 [l0, l1, some (.inl x), l3] st H := rn_nx rfl rfl
theorem e_M_open_44 : rn Ls xs d 34 44 [l0, l1, l2, some (.inl x)] st H = rn Ls xs d 34 47 [l0, l1, l2, some (.inl (x + 1))] st H := rn_nx rfl rfl
theorem e_M_open_47 : rn Ls xs d 34 47 [l0, l1, l2, l3] st H = rn Ls xs d 34 21 [l0, l1, l2, l3] st H := rn_nx rfl rfl
theorem e_M_open_50 : rn Ls xs d 34 50 [l0, l1, some (.inl x), l3] st H = rn Ls xs d 34 51 [l0, l1, some (.inl x), l3] (.inl x :: st) H := rn_nx rfl rfl
theorem e_M_open_51 : rn Ls xs d 34 51 [l0, l1, l2, l3] [.inl x] H = some (some (.inl x), H) := rn_done rfl rfl
theorem e_W_best_0 : rn Ls xs d 35 0 [l0, some (.inl x), l2] st H = rn Ls xs d 35 1 [l0, some (.inl x), l2] (.inl x :: st) H := rn_nx rfl rfl
theorem e_W_best_1 : rn Ls xs d 35 1 [l0, l1, l2]  st H = rn Ls xs d 35 2 [l0, l1, l2] (.inl 1 :: st) H := rn_nx rfl rfl
theorem e_W_best_2 : rn Ls xs d 35 2 [l0, l1, l2]  st H = rn Ls xs d 35 4 [l0, l1, l2] (.inl 60 :: st) H := rn_nx rfl rfl
theorem e_W_best_4 : rn Ls xs (d + 1) 35 4 [l0, l1, l2] [v2, v1, v0] H = rb Ls xs (d + 1) 35 7 [l0, l1, l2] [] (rn Ls xs d 94 0 [some v0, some v1, some v2] [] H) := rn_call rfl (Nat.le_of_ble_eq_true rfl) (Nat.le_of_ble_eq_true rfl) rfl rfl
theorem e_W_best_7 : rn Ls xs d 35 7 [l0, l1, l2] (.inl x :: st) H = if x = 0 then rn Ls xs d 35 19 [l0, l1, l2] st H else rn Ls xs d 35 10 [l0, l1, l2] st H := rn_if (p := fun x => x = 0) rfl
theorem e_W_best_10 : rn Ls xs d 35 10 [l0, l1, some (.inl x)] st H = rn Ls xs d 35 11 [l0, l1, some (.inl x)] (.inl x :: st) H := rn_nx rfl rfl
theorem e_W_best_11 : rn Ls xs d 35 11 [l0, l1, l2]  st H = rn Ls xs d 35 12 [l0, l1, l2] (.inl 0 :: st) H := rn_nx rfl rfl
theorem e_W_best_12 : rn Ls xs d 35 12 [l0, l1, l2]  st H = rn Ls xs d 35 13 [l0, l1, l2] (.inl 1 :: st) H := rn_nx rfl rfl
theorem e_W_best_13 : rn Ls xs (d + 1) 35 13 [l0, l1, l2] [v2, v1, v0] H = rb Ls xs (d + 1) 35 16 [l0, l1, l2] [] (rn Ls xs d 94 0 [some v0, some v1, some v2] [] H) := rn_call rfl (Nat.le_of_ble_eq_true rfl) (Nat.le_of_ble_eq_true rfl) rfl rfl
theorem e_W_best_16 : rn Ls xs d 35 16 [l0, l1, l2] (.inl x :: st) H = if x ≠ 0 then rn Ls xs d 35 22 [l0, l1, l2] st H else rn Ls xs d 35 19 [l0, l1, l2] st H := rn_if (p := fun x => x ≠ 0) rfl
theorem e_W_best_19 : rn Ls xs d 35 19 [l0, l1, l2]  st H = rn Ls xs d 35 21 [l0, l1, l2] (.inl (-1000000001) :: st) H := rn_nx rfl rfl
theorem e_W_best_21 : rn Ls xs d 35 21 [l0, l1, l2] [.inl x] H = some (some (.inl x), H) := rn_done rfl rfl
theorem e_W_best_22 : rn Ls xs d 35 22 [some (.inr u), l1, l2] st H = rn Ls xs d 35 23 [some (.inr u), l1, l2] (.inr u :: st) H := rn_nx rfl rfl
theorem e_W_best_23 : rn Ls xs d 35 23 [l0, l1, l2] (.inr (.inl (some a)) :: st) (S, I, R) = if h_is S a 8 10 then rn Ls xs d 35 26 [l0, l1, l2] (.inr (R a 2) :: st) (S, I, R) else none := rn_bc rfl rfl
theorem e_W_best_26 : rn Ls xs d 35 26 [some (.inr u), l1, l2] st H = rn Ls xs d 35 27 [some (.inr u), l1, l2] (.inr u :: st) H := rn_nx rfl rfl
theorem e_W_best_27 : rn Ls xs d 35 27 [l0, l1, l2] (.inr (.inl (some a)) :: st) (S, I, R) = if h_is S a 8 10 then rn Ls xs d 35 30 [l0, l1, l2] (.inr (R a 0) :: st) (S, I, R) else none := rn_bc rfl rfl
theorem e_W_best_30 : rn Ls xs d 35 30 [l0, some (.inl x), l2] st H = rn Ls xs d 35 31 [l0, some (.inl x), l2] (.inl x :: st) H := rn_nx rfl rfl
theorem e_W_best_31 : rn Ls xs (d + 1) 35 31 [l0, l1, l2] [v2, v1, (.inr (.inl (some a)))] (S, I, R) = if h_is S a 0 5 then rb Ls xs (d + 1) 35 34 [l0, l1, l2] [] (rn Ls xs d 136 0 [some (.inr (.inl (some a))), some v1, some v2, none] [] (S, I, R)) else none := rn_callO rfl rfl (Nat.le_of_ble_eq_true rfl) rfl rfl
theorem e_W_best_34 : rn Ls xs d 35 34 [some (.inr u), l1, l2] st H = rn Ls xs d 35 35 [some (.inr u), l1, l2] (.inr u :: st) H := rn_nx rfl rfl
theorem e_W_best_35 : rn Ls xs d 35 35 [l0, l1, l2] (.inr (.inl (some a)) :: st) (S, I, R) = if h_is S a 8 10 then rn Ls xs d 35 38 [l0, l1, l2] (.inr (R a 2) :: st) (S, I, R) else none := rn_bc rfl rfl
theorem e_W_best_38 : rn Ls xs d 35 38 [l0, l1, some (.inl x)] st H = rn Ls xs d 35 39 [l0, l1, some (.inl x)] (.inl x :: st) H := rn_nx rfl rfl
theorem e_W_best_39 : rn Ls xs (d + 1) 35 39 [l0, l1, l2] [v1, (.inr (.inl (some a)))] (S, I, R) = if h_is S a 0 5 then rb Ls xs (d + 1) 35 42 [l0, l1, l2] [] (rn Ls xs d 137 0 [some (.inr (.inl (some a))), some v1] [] (S, I, R)) else none := rn_callO rfl rfl (Nat.le_of_ble_eq_true rfl) rfl rfl
theorem e_W_best_42 : rn Ls xs d 35 42 [l0, l1, l2] [.inl x] H = some (some (.inl x), H) := rn_done rfl rfl
theorem e_M_best_0 : rn Ls xs d 36 0 [l0, some (.inl x), l2, l3, l4, l5, l6] st H = rn Ls xs d 36 1 [l0, some (.inl x), l2, l3, l4, l5, l6] (.inl x :: st) H := rn_nx rfl rfl
theorem e_M_best_1 : rn Ls xs d 36 1 [l0, l1, l2, l3, l4, l5, l6]  st H = rn Ls xs d 36 2 [l0, l1, l2, l3, l4, l5, l6] (.inl 1 :: st) H := rn_nx rfl rfl
theorem e_M_best_2 : rn Ls xs d 36 2 [l0, l1, l2, l3, l4, l5, l6]  st H = rn Ls xs d 36 4 [l0, l1, l2, l3, l4, l5, l6] (.inl 60 :: st) H := rn_nx rfl rfl
theorem e_M_best_4 : rn Ls xs (d + 1) 36 4 [l0, l1, l2, l3, l4, l5, l6] [v2, v1, v0] H = rb Ls xs (d + 1) 36 7 [l0, l1, l2, l3, l4, l5, l6] [] (rn Ls xs d 97 0 [some v0, some v1, some v2] [] H) := rn_call rfl (Nat.le_of_ble_eq_true rfl) (Nat.le_of_ble_eq_true rfl) rfl rfl
theorem e_M_best_7 : rn Ls xs d 36 7 [l0, l1, l2, l3, l4, l5, l6] (.inl x :: st) H = if x = 0 then rn Ls xs d 36 19 [l0, l1, l2, l3, l4, l5, l6] st H else rn Ls xs d 36 10 [l0, l1, l2, l3, l4, l5, l6] st H := rn_if (p := fun x => x = 0) rfl
theorem e_M_best_10 : rn Ls xs d 36 10 [l0, l1, some (.inl x), l3, l4, l5, l6] st H = rn Ls xs d 36 11 [l0, l1, some (.inl x), l3, l4, l5, l6] (.inl x :: st) H := rn_nx rfl rfl
theorem e_M_best_11 : rn Ls xs d 36 11 [l0, l1, l2, l3, l4, l5, l6]  st H = rn Ls xs d 36 12 [l0, l1, l2, l3, l4, l5, l6] (.inl 0 :: st) H := rn_nx rfl rfl
theorem e_M_best_12 : rn Ls xs d 36 12 [l0, l1, l2, l3, l4, l5, l6]  st H = rn Ls xs d 36 13 [l0, l1, l2, l3, l4, l5, l6] (.inl 1 :: st) H := rn_nx rfl rfl
theorem e_M_best_13 : rn Ls xs (d + 1) 36 13 [l0, l1, l2, l3, l4, l5, l6] [v2, v1, v0] H = rb Ls xs (d + 1) 36 16 [l0, l1, l2, l3, l4, l5, l6] [] (rn Ls xs d 97 0 [some v0, some v1, some v2] [] H) := rn_call rfl (Nat.le_of_ble_eq_true rfl) (Nat.le_of_ble_eq_true rfl) rfl rfl
theorem e_M_best_16 : rn Ls xs d 36 16 [l0, l1, l2, l3, l4, l5, l6] (.inl x :: st) H = if x ≠ 0 then rn Ls xs d 36 22 [l0, l1, l2, l3, l4, l5, l6] st H else rn Ls xs d 36 19 [l0, l1, l2, l3, l4, l5, l6] st H := rn_if (p := fun x => x ≠ 0) rfl
theorem e_M_best_19 : rn Ls xs d 36 19 [l0, l1, l2, l3, l4, l5, l6]  st H = rn Ls xs d 36 21 [l0, l1, l2, l3, l4, l5, l6] (.inl (-1000000001) :: st) H := rn_nx rfl rfl
theorem e_M_best_21 : rn Ls xs d 36 21 [l0, l1, l2, l3, l4, l5, l6] [.inl x] H = some (some (.inl x), H) := rn_done rfl rfl
theorem e_M_best_22 : rn Ls xs d 36 22 [some (.inr u), l1, l2, l3, l4, l5, l6] st H = rn Ls xs d 36 23 [some (.inr u), l1, l2, l3, l4, l5, l6] (.inr u :: st) H := rn_nx rfl rfl
theorem e_M_best_23 : rn Ls xs (d + 1) 36 23 [l0, l1, l2, l3, l4, l5, l6] [(.inr (.inl (some a)))] (S, I, R) = if h_is S a 9 36 then rb Ls xs (d + 1) 36 26 [l0, l1, l2, l3, l4, l5, l6] [] (rn Ls xs d 128 0 [some (.inr (.inl (some a))), none] [] (S, I, R)) else none := rn_callO rfl rfl (Nat.le_of_ble_eq_true rfl) rfl rfl
theorem e_M_best_26 : rn Ls xs d 36 26 [l0, l1, l2, l3, l4, l5, l6]  st H = rn Ls xs d 36 27 [l0, l1, l2, l3, l4, l5, l6] (.inl (-1) :: st) H := rn_nx rfl rfl
theorem e_M_best_27 : rn Ls xs d 36 27 [l0, l1, l2, l3, l4, l5, l6] (.inl x :: st) H = rn Ls xs d 36 28 [l0, l1, l2, some (.inl x), l4, l5, l6] st H := rn_nx rfl rfl
theorem e_M_best_28 : rn Ls xs d 36 28 [l0, l1, l2, l3, l4, l5, l6]  st H = rn Ls xs d 36 29 [l0, l1, l2, l3, l4, l5, l6] (.inl 0 :: st) H := rn_nx rfl rfl
theorem e_M_best_29 : rn Ls xs d 36 29 [l0, l1, l2, l3, l4, l5, l6] (.inl x :: st) H = rn Ls xs d 36 31 [l0, l1, l2, l3, some (.inl x), l5, l6] st H := rn_nx rfl rfl
theorem e_M_best_31 : rn Ls xs d 36 31 [l0, l1, l2, l3, l4, l5, l6]  st H = rn Ls xs d 36 32 [l0, l1, l2, l3, l4, l5, l6] (.inl 0 :: st) H := rn_nx rfl rfl
theorem e_M_best_32 : rn Ls xs d 36 32 [l0, l1, l2, l3, l4, l5, l6] (.inl x :: st) H = rn Ls xs d 36 34 [l0, l1, l2, l3, l4, some (.inl x), l6] st H := rn_nx rfl rfl
theorem e_M_best_34 : rn Ls xs d 36 34 [l0, l1, l2, l3, l4, some (.inl x), l6] st H = rn Ls xs d 36 36 [l0, l1, l2, l3, l4, some (.inl x), l6] (.inl x :: st) H := rn_nx rfl rfl
theorem e_M_best_36 : rn Ls xs d 36 36 [some (.inr u), l1, l2, l3, l4, l5, l6] st H = rn Ls xs d 36 37 [some (.inr u), l1, l2, l3, l4, l5, l6] (.inr u :: st) H := rn_nx rfl rfl
theorem e_M_best_37 : rn Ls xs d 36 37 [l0, l1, l2, l3, l4, l5, l6] (.inr (.inl (some a)) :: st) (S, I, R) = if h_is S a 9 36 then rn Ls xs d 36 40 [l0, l1, l2, l3, l4, l5, l6] (.inr (R a 0) :: st) (S, I, R) else none := rn_bc rfl rfl
theorem e_M_best_40 : rn Ls xs d 36 40 [l0, l1, l2, l3, l4, l5, l6]  st H = rn Ls xs d 36 41 [l0, l1, l2, l3, l4, l5, l6] (.inl 1 :: st) H := rn_nx rfl rfl
theorem e_M_best_41 : rn Ls xs d 36 41 [l0, l1, l2, l3, l4, l5, l6] (.inl i :: .inr (.inl (some a)) :: st) (S, I, R) = if h_ia S a 0 i then rn Ls xs d 36 42 [l0, l1, l2, l3, l4, l5, l6] (.inl (I a i.toNatClampNeg) :: st) (S, I, R) else none := rn_bc rfl rfl
theorem e_M_best_42 : rn Ls xs d 36 42 [l0, l1, l2, l3, l4, l5, l6] (.inl y :: .inl x :: st) H = if y ≤ x then rn Ls xs d 36 108 [l0, l1, l2, l3, l4, l5, l6] st H else rn Ls xs d 36 45 [l0, l1, l2, l3, l4, l5, l6] st H := rn_cmp (p := fun x y => y ≤ x) rfl
theorem e_M_best_45 : rn Ls xs d 36 45 [some (.inr u), l1, l2, l3, l4, l5, l6] st H = rn Ls xs d 36 46 [some (.inr u), l1, l2, l3, l4, l5, l6] (.inr u :: st) H := rn_nx rfl rfl
theorem e_M_best_46 : rn Ls xs d 36 46 [l0, l1, l2, l3, l4, some (.inl x), l6] st H = rn Ls xs d 36 48 [l0, l1, l2, l3, l4, some (.inl x), l6] (.inl x :: st) H := rn_nx rfl rfl
theorem e_M_best_48 : rn Ls xs (d + 1) 36 48 [l0, l1, l2, l3, l4, l5, l6] [v1, (.inr (.inl (some a)))] (S, I, R) = if h_is S a 9 36 then rb Ls xs (d + 1) 36 51 [l0, l1, l2, l3, l4, l5, l6] [] (rn Ls xs d 113 0 [some (.inr (.inl (some a))), some v1] [] (S, I, R)) else none := rn_callO rfl rfl (Nat.le_of_ble_eq_true rfl) rfl rfl
theorem e_M_best_51 : rn Ls xs d 36 51 [l0, l1, l2, l3, l4, l5, l6] (.inl x :: st) H = if x = 0 then rn Ls xs d 36 102 [l0, l1, l2, l3, l4, l5, l6] st H else rn Ls xs d 36 54 [l0, l1, l2, l3, l4, l5, l6] st H := rn_if (p := fun x => x = 0) rfl
theorem e_M_best_54 : rn Ls xs d 36 54 [some (.inr u), l1, l2, l3, l4, l5, l6] st H = rn Ls xs d 36 55 [some (.inr u), l1, l2, l3, l4, l5, l6] (.inr u :: st) H := rn_nx rfl rfl
theorem e_M_best_55 : rn Ls xs d 36 55 [l0, l1, l2, l3, l4, some (.inl x), l6] st H = rn Ls xs d 36 57 [l0, l1, l2, l3, l4, some (.inl x), l6] (.inl x :: st) H := rn_nx rfl rfl
theorem e_M_best_57 : rn Ls xs d 36 57 [l0, l1, l2, l3, l4, l5, l6]  st H = rn Ls xs d 36 58 [l0, l1, l2, l3, l4, l5, l6] (.inl 5 :: st) H := rn_nx rfl rfl
theorem e_M_best_58 : rn Ls xs d 36 58 [l0, l1, l2, l3, l4, l5, l6]  st H = rn Ls xs d 36 59 [l0, l1, l2, l3, l4, l5, l6] (.inl 0 :: st) H := rn_nx rfl rfl
theorem e_M_best_59 : rn Ls xs (d + 1) 36 59 [l0, l1, l2, l3, l4, l5, l6] [v3, v2, v1, (.inr (.inl (some a)))] (S, I, R) = if h_is S a 9 36 then rb Ls xs (d + 1) 36 62 [l0, l1, l2, l3, l4, l5, l6] [] (rn Ls xs d 114 0 [some (.inr (.inl (some a))), some v1, some v2, some v3] [] (S, I, R)) else none := rn_callO rfl rfl (Nat.le_of_ble_eq_true rfl) rfl rfl
theorem e_M_best_62 : rn Ls xs d 36 62 [some (.inr u), l1, l2, l3, l4, l5, l6] st H = rn Ls xs d 36 63 [some (.inr u), l1, l2, l3, l4, l5, l6] (.inr u :: st) H := rn_nx rfl rfl
theorem e_M_best_63 : rn Ls xs d 36 63 [l0, some (.inl x), l2, l3, l4, l5, l6] st H = rn Ls xs d 36 64 [l0, some (.inl x), l2, l3, l4, l5, l6] (.inl x :: st) H := rn_nx rfl rfl
theorem e_M_best_64 : rn Ls xs (d + 1) 36 64 [l0, l1, l2, l3, l4, l5, l6] [v1, (.inr (.inl (some a)))] (S, I, R) = if h_is S a 9 36 then rb Ls xs (d + 1) 36 67 [l0, l1, l2, l3, l4, l5, l6] [] (rn Ls xs d 138 0 [some (.inr (.inl (some a))), some v1, none] [] (S, I, R)) else none := rn_callO rfl rfl (Nat.le_of_ble_eq_true rfl) rfl rfl
theorem e_M_best_67 : rn Ls xs d 36 67 [l0, l1, l2, l3, l4, l5, l6] (.inl x :: st) H = rn Ls xs d 36 69 [l0, l1, l2, l3, l4, l5, some (.inl x)] st H := rn_nx rfl rfl
theorem e_M_best_69 : rn Ls xs d 36 69 [l0, l1, l2, some (.inl x), l4, l5, l6] st H = rn Ls xs d 36 70 [l0, l1, l2, some (.inl x), l4, l5, l6] (.inl x :: st) H := rn_nx rfl rfl
theorem e_M_best_70 : rn Ls xs d 36 70 [l0, l1, l2, l3, l4, l5, l6] (.inl x :: st) H = if x < 0 then rn Ls xs d 36 80 [l0, l1, l2, l3, l4, l5, l6] st H else rn Ls xs d 36 73 [l0, l1, l2, l3, l4, l5, l6] st H := rn_if (p := fun x => x < 0) rfl
theorem e_M_best_73 : rn Ls xs d 36 73 [l0, l1, l2, l3, l4, l5, some (.inl x)] st H = rn Ls xs d 36 75 [l0, l1, l2, l3, l4, l5, some (.inl x)] (.inl x :: st) H := rn_nx rfl rfl
theorem e_M_best_75 : rn Ls xs d 36 75 [l0, l1, l2, l3, some (.inl x), l5, l6] st H = rn Ls xs d 36 77 [l0, l1, l2, l3, some (.inl x), l5, l6] (.inl x :: st) H := rn_nx rfl rfl
theorem e_M_best_77 : rn Ls xs d 36 77 [l0, l1, l2, l3, l4, l5, l6] (.inl y :: .inl x :: st) H = if y ≤ x then rn Ls xs d 36 85 [l0, l1, l2, l3, l4, l5, l6] st H else rn Ls xs d 36 80 [l0, l1, l2, l3, l4, l5, l6] st H := rn_cmp (p := fun x y => y ≤ x) rfl
theorem e_M_best_80 : rn Ls xs d 36 80 [l0, l1, l2, l3, l4, some (.inl x), l6] st H = rn Ls xs d 36 82 [l0, l1, l2, l3, l4, some (.inl x), l6] (.inl x :: st) H := rn_nx rfl rfl
theorem e_M_best_82 : rn Ls xs d 36 82 [l0, l1, l2, l3, l4, l5, l6] st H = rn Ls xs d 36 86 [l0, l1, l2, l3, l4, l5, l6] st H := rn_nx rfl rfl
theorem e_M_best_85 : rn Ls xs d 36 85 [l0, l1, l2, some (.inl x), l4, l5, l6] st H = rn Ls xs d 36 86 [l0, l1, l2, some (.inl x), l4, l5, l6] (.inl x :: st) H := rn_nx rfl rfl
theorem e_M_best_86 : rn Ls xs d 36 86 [l0, l1, l2, l3, l4, l5, l6] (.inl x :: st) H = rn Ls xs d 36 87 [l0, l1, l2, some (.inl x), l4, l5, l6] st H := rn_nx rfl rfl
theorem e_M_best_87 : rn Ls xs d 36 87 [l0, l1, l2, some (.inl x), l4, l5, l6] st H = rn Ls xs d 36 88 [l0, l1, l2, some (.inl x), l4, l5, l6] (.inl x :: st) H := rn_nx rfl rfl
theorem e_M_best_88 : rn Ls xs d 36 88 [l0, l1, l2, l3, l4, some (.inl x), l6] st H = rn Ls xs d 36 90 [l0, l1, l2, l3, l4, some (.inl x), l6] (.inl x :: st) H := rn_nx rfl rfl
theorem e_M_best_90 : rn Ls xs d 36 90 [l0, l1, l2, l3, l4, l5, l6] (.inl y :: .inl x :: st) H = if x ≠ y then rn Ls xs d 36 98 [l0, l1, l2, l3, l4, l5, l6] st H else rn Ls xs d 36 93 [l0, l1, l2, l3, l4, l5, l6] st H := rn_cmp (p := fun x y => x ≠ y) rfl
theorem e_M_best_93 : rn Ls xs d 36 93 [l0, l1, l2, l3, l4, l5, some (.inl x)] st H = rn Ls xs d 36 95 [l0, l1, l2, l3, l4, l5, some (.inl x)] (.inl x :: st) H := rn_nx rfl rfl
theorem e_M_best_95 : rn Ls xs d 36 95 [l0, l1, l2, l3, l4, l5, l6] st H = rn Ls xs d 36 100 [l0, l1, l2, l3, l4, l5, l6] st H := rn_nx rfl rfl
theorem e_M_best_98 : rn Ls xs d 36 98 [l0, l1, l2, l3, some (.inl x), l5, l6] st H = rn Ls xs d 36 100 [l0, l1, l2, l3, some (.inl x), l5, l6] (.inl x :: st) H := rn_nx rfl rfl
theorem e_M_best_100 : rn Ls xs d 36 100 [l0, l1, l2, l3, l4, l5, l6] (.inl x :: st) H = rn Ls xs d 36 102 [l0, l1, l2, l3, some (.inl x), l5, l6] st H := rn_nx rfl rfl
theorem e_M_best_102 : rn Ls xs d 36 102 [l0, l1, l2, l3, l4, some (.inl x), l6] st H = rn Ls xs d 36 105 [l0, l1, l2, l3, l4, some (.inl (x + 1)), l6] st H := rn_nx rfl rfl
theorem e_M_best_105 : rn Ls xs d 36 105 [l0, l1, l2, l3, l4, l5, l6] st H = rn Ls xs d 36 34 [l0, l1, l2, l3, l4, l5, l6] st H := rn_nx rfl rfl
theorem e_M_best_108 : rn Ls xs d 36 108 [l0, l1, l2, some (.inl x), l4, l5, l6] st H = rn Ls xs d 36 109 [l0, l1, l2, some (.inl x), l4, l5, l6] (.inl x :: st) H := rn_nx rfl rfl
theorem e_M_best_109 : rn Ls xs d 36 109 [l0, l1, l2, l3, l4, l5, l6] (.inl x :: st) H = if 0 ≤ x then rn Ls xs d 36 117 [l0, l1, l2, l3, l4, l5, l6] st H else rn Ls xs d 36 112 [l0, l1, l2, l3, l4, l5, l6] st H := rn_if (p := fun x => 0 ≤ x) rfl
theorem e_M_best_112 : rn Ls xs d 36 112 [l0, l1, l2, l3, l4, l5, l6]  st H = rn Ls xs d 36 114 [l0, l1, l2, l3, l4, l5, l6] (.inl (-1000000005) :: st) H := rn_nx rfl rfl
theorem e_M_best_114 : rn Ls xs d 36 114 [l0, l1, l2, l3, l4, l5, l6] st H = rn Ls xs d 36 127 [l0, l1, l2, l3, l4, l5, l6] st H := rn_nx rfl rfl
theorem e_M_best_117 : rn Ls xs d 36 117 [l0, l1, some (.inl x), l3, l4, l5, l6] st H = rn Ls xs d 36 118 [l0, l1, some (.inl x), l3, l4, l5, l6] (.inl x :: st) H := rn_nx rfl rfl
theorem e_M_best_118 : rn Ls xs d 36 118 [l0, l1, l2, l3, l4, l5, l6] (.inl x :: st) H = if x ≠ 0 then rn Ls xs d 36 125 [l0, l1, l2, l3, l4, l5, l6] st H else rn Ls xs d 36 121 [l0, l1, l2, l3, l4, l5, l6] st H := rn_if (p := fun x => x ≠ 0) rfl
theorem e_M_best_121 : rn Ls xs d 36 121 [l0, l1, l2, some (.inl x), l4, l5, l6] st H = rn Ls xs d 36 122 [l0, l1, l2, some (.inl x), l4, l5, l6] (.inl x :: st) H := rn_nx rfl rfl
theorem e_M_best_122 : rn Ls xs d 36 122 [l0, l1, l2, l3, l4, l5, l6] st H = rn Ls xs d 36 127 [l0, l1, l2, l3, l4, l5, l6] st H := rn_nx rfl rfl
theorem e_M_best_125 : rn Ls xs d 36 125 [l0, l1, l2, l3, some (.inl x), l5, l6] st H = rn Ls xs d 36 127 [l0, l1, l2, l3, some (.inl x), l5, l6] (.inl x :: st) H := rn_nx rfl rfl
theorem e_M_best_127 : rn Ls xs d 36 127 [l0, l1, l2, l3, l4, l5, l6] [.inl x] H = some (some (.inl x), H) := rn_done rfl rfl
theorem e_W_push_0 : rn Ls xs d 37 0 [some (.inr u), l1, l2, l3] st H = rn Ls xs d 37 1 [some (.inr u), l1, l2, l3] (.inr u :: st) H := rn_nx rfl rfl
theorem e_W_push_1 : rn Ls xs d 37 1 [l0, l1, l2, l3] (.inr (.inl (some a)) :: st) (S, I, R) = if h_is S a 8 10 then rn Ls xs d 37 4 [l0, l1, l2, l3] (.inr (R a 0) :: st) (S, I, R) else none := rn_bc rfl rfl
theorem e_W_push_4 : rn Ls xs d 37 4 [l0, some (.inl x), l2, l3] st H = rn Ls xs d 37 5 [l0, some (.inl x), l2, l3] (.inl x :: st) H := rn_nx rfl rfl
theorem e_W_push_5 : rn Ls xs (d + 1) 37 5 [l0, l1, l2, l3] [v1, (.inr (.inl (some a)))] (S, I, R) = if h_is S a 3 11 then rb Ls xs (d + 1) 37 8 [l0, l1, l2, l3] [] (rn Ls xs d 100 0 [some (.inr (.inl (some a))), some v1] [] (S, I, R)) else none := rn_callO rfl rfl (Nat.le_of_ble_eq_true rfl) rfl rfl
theorem e_W_push_8 : rn Ls xs d 37 8 [l0, l1, l2, l3] (.inl x :: st) H = if x = 0 then rn Ls xs d 37 30 [l0, l1, l2, l3] st H else rn Ls xs d 37 11 [l0, l1, l2, l3] st H := rn_if (p := fun x => x = 0) rfl
theorem e_W_push_11 : rn Ls xs d 37 11 [l0, l1, some (.inl x), l3] st H = rn Ls xs d 37 12 [l0, l1, some (.inl x), l3] (.inl x :: st) H := rn_nx rfl rfl
theorem e_W_push_12 : rn Ls xs d 37 12 [l0, l1, l2, l3]  st H = rn Ls xs d 37 13 [l0, l1, l2, l3] (.inl 1 :: st) H := rn_nx rfl rfl
theorem e_W_push_13 : rn Ls xs d 37 13 [l0, l1, l2, l3]  st H = rn Ls xs d 37 15 [l0, l1, l2, l3] (.inl 60 :: st) H := rn_nx rfl rfl
theorem e_W_push_15 : rn Ls xs (d + 1) 37 15 [l0, l1, l2, l3] [v2, v1, v0] H = rb Ls xs (d + 1) 37 18 [l0, l1, l2, l3] [] (rn Ls xs d 94 0 [some v0, some v1, some v2] [] H) := rn_call rfl (Nat.le_of_ble_eq_true rfl) (Nat.le_of_ble_eq_true rfl) rfl rfl
theorem e_W_push_18 : rn Ls xs d 37 18 [l0, l1, l2, l3] (.inl x :: st) H = if x = 0 then rn Ls xs d 37 30 [l0, l1, l2, l3] st H else rn Ls xs d 37 21 [l0, l1, l2, l3] st H := rn_if (p := fun x => x = 0) rfl
theorem e_W_push_21 : rn Ls xs d 37 21 [l0, l1, l2, some (.inl x)] st H = rn Ls xs d 37 22 [l0, l1, l2, some (.inl x)] (.inl x :: st) H := rn_nx rfl rfl
theorem e_W_push_22 : rn Ls xs d 37 22 [l0, l1, l2, l3]  st H = rn Ls xs d 37 23 [l0, l1, l2, l3] (.inl 0 :: st) H := rn_nx rfl rfl
theorem e_W_push_23 : rn Ls xs d 37 23 [l0, l1, l2, l3]  st H = rn Ls xs d 37 24 [l0, l1, l2, l3] (.inl 1 :: st) H := rn_nx rfl rfl
theorem e_W_push_24 : rn Ls xs (d + 1) 37 24 [l0, l1, l2, l3] [v2, v1, v0] H = rb Ls xs (d + 1) 37 27 [l0, l1, l2, l3] [] (rn Ls xs d 94 0 [some v0, some v1, some v2] [] H) := rn_call rfl (Nat.le_of_ble_eq_true rfl) (Nat.le_of_ble_eq_true rfl) rfl rfl
theorem e_W_push_27 : rn Ls xs d 37 27 [l0, l1, l2, l3] (.inl x :: st) H = if x ≠ 0 then rn Ls xs d 37 33 [l0, l1, l2, l3] st H else rn Ls xs d 37 30 [l0, l1, l2, l3] st H := rn_if (p := fun x => x ≠ 0) rfl
theorem e_W_push_30 : rn Ls xs d 37 30 [l0, l1, l2, l3]  st H = rn Ls xs d 37 32 [l0, l1, l2, l3] (.inl (-1000000001) :: st) H := rn_nx rfl rfl
theorem e_W_push_32 : rn Ls xs d 37 32 [l0, l1, l2, l3] [.inl x] H = some (some (.inl x), H) := rn_done rfl rfl
theorem e_W_push_33 : rn Ls xs d 37 33 [some (.inr u), l1, l2, l3] st H = rn Ls xs d 37 34 [some (.inr u), l1, l2, l3] (.inr u :: st) H := rn_nx rfl rfl
theorem e_W_push_34 : rn Ls xs d 37 34 [l0, l1, l2, l3] (.inr (.inl (some a)) :: st) (S, I, R) = if h_is S a 8 10 then rn Ls xs d 37 37 [l0, l1, l2, l3] (.inr (R a 2) :: st) (S, I, R) else none := rn_bc rfl rfl
theorem e_W_push_37 : rn Ls xs d 37 37 [some (.inr u), l1, l2, l3] st H = rn Ls xs d 37 38 [some (.inr u), l1, l2, l3] (.inr u :: st) H := rn_nx rfl rfl
theorem e_W_push_38 : rn Ls xs d 37 38 [l0, l1, l2, l3] (.inr (.inl (some a)) :: st) (S, I, R) = if h_is S a 8 10 then rn Ls xs d 37 41 [l0, l1, l2, l3] (.inr (R a 0) :: st) (S, I, R) else none := rn_bc rfl rfl
theorem e_W_push_41 : rn Ls xs d 37 41 [l0, some (.inl x), l2, l3] st H = rn Ls xs d 37 42 [l0, some (.inl x), l2, l3] (.inl x :: st) H := rn_nx rfl rfl
theorem e_W_push_42 : rn Ls xs d 37 42 [l0, l1, some (.inl x), l3] st H = rn Ls xs d 37 43 [l0, l1, some (.inl x), l3] (.inl x :: st) H := rn_nx rfl rfl
theorem e_W_push_43 : rn Ls xs (d + 1) 37 43 [l0, l1, l2, l3] [v3, v2, v1, (.inr (.inl (some a)))] (S, I, R) = if h_is S a 0 5 then rb Ls xs (d + 1) 37 46 [l0, l1, l2, l3] [] (rn Ls xs d 139 0 [some (.inr (.inl (some a))), some v1, some v2, some v3, none] [] (S, I, R)) else none := rn_callO rfl rfl (Nat.le_of_ble_eq_true rfl) rfl rfl
theorem e_W_push_46 : rn Ls xs d 37 46 [some (.inr u), l1, l2, l3] st H = rn Ls xs d 37 47 [some (.inr u), l1, l2, l3] (.inr u :: st) H := rn_nx rfl rfl
theorem e_W_push_47 : rn Ls xs d 37 47 [l0, l1, l2, l3] (.inr (.inl (some a)) :: st) (S, I, R) = if h_is S a 8 10 then rn Ls xs d 37 50 [l0, l1, l2, l3] (.inr (R a 2) :: st) (S, I, R) else none := rn_bc rfl rfl
theorem e_W_push_50 : rn Ls xs d 37 50 [l0, l1, l2, some (.inl x)] st H = rn Ls xs d 37 51 [l0, l1, l2, some (.inl x)] (.inl x :: st) H := rn_nx rfl rfl
theorem e_W_push_51 : rn Ls xs (d + 1) 37 51 [l0, l1, l2, l3] [v1, (.inr (.inl (some a)))] (S, I, R) = if h_is S a 0 5 then rb Ls xs (d + 1) 37 54 [l0, l1, l2, l3] [] (rn Ls xs d 137 0 [some (.inr (.inl (some a))), some v1] [] (S, I, R)) else none := rn_callO rfl rfl (Nat.le_of_ble_eq_true rfl) rfl rfl
theorem e_W_push_54 : rn Ls xs d 37 54 [l0, l1, l2, l3] [.inl x] H = some (some (.inl x), H) := rn_done rfl rfl
theorem e_M_push_0 : rn Ls xs d 38 0 [some (.inr u), l1, l2, l3, l4, l5, l6, l7] st H = rn Ls xs d 38 1 [some (.inr u), l1, l2, l3, l4, l5, l6, l7] (.inr u :: st) H := rn_nx rfl rfl
theorem e_M_push_1 : rn Ls xs d 38 1 [l0, some (.inl x), l2, l3, l4, l5, l6, l7] st H = rn Ls xs d 38 2 [l0, some (.inl x), l2, l3, l4, l5, l6, l7] (.inl x :: st) H := rn_nx rfl rfl
theorem e_M_push_2 : rn Ls xs (d + 1) 38 2 [l0, l1, l2, l3, l4, l5, l6, l7] [v1, (.inr (.inl (some a)))] (S, I, R) = if h_is S a 9 36 then rb Ls xs (d + 1) 38 5 [l0, l1, l2, l3, l4, l5, l6, l7] [] (rn Ls xs d 104 0 [some (.inr (.inl (some a))), some v1] [] (S, I, R)) else none := rn_callO rfl rfl (Nat.le_of_ble_eq_true rfl) rfl rfl
theorem e_M_push_5 : rn Ls xs d 38 5 [l0, l1, l2, l3, l4, l5, l6, l7] (.inl x :: st) H = if x = 0 then rn Ls xs d 38 27 [l0, l1, l2, l3, l4, l5, l6, l7] st H else rn Ls xs d 38 8 [l0, l1, l2, l3, l4, l5, l6, l7] st H := rn_if (p := fun x => x = 0) rfl
theorem e_M_push_8 : rn Ls xs d 38 8 [l0, l1, some (.inl x), l3, l4, l5, l6, l7] st H = rn Ls xs d 38 9 [l0, l1, some (.inl x), l3, l4, l5, l6, l7] (.inl x :: st) H := rn_nx rfl rfl
theorem e_M_push_9 : rn Ls xs d 38 9 [l0, l1, l2, l3, l4, l5, l6, l7]  st H = rn Ls xs d 38 10 [l0, l1, l2, l3, l4, l5, l6, l7] (.inl 1 :: st) H := rn_nx rfl rfl
theorem e_M_push_10 : rn Ls xs d 38 10 [l0, l1, l2, l3, l4, l5, l6, l7]  st H = rn Ls xs d 38 12 [l0, l1, l2, l3, l4, l5, l6, l7] (.inl 60 :: st) H := rn_nx rfl rfl
theorem e_M_push_12 : rn Ls xs (d + 1) 38 12 [l0, l1, l2, l3, l4, l5, l6, l7] [v2, v1, v0] H = rb Ls xs (d + 1) 38 15 [l0, l1, l2, l3, l4, l5, l6, l7] [] (rn Ls xs d 97 0 [some v0, some v1, some v2] [] H) := rn_call rfl (Nat.le_of_ble_eq_true rfl) (Nat.le_of_ble_eq_true rfl) rfl rfl
theorem e_M_push_15 : rn Ls xs d 38 15 [l0, l1, l2, l3, l4, l5, l6, l7] (.inl x :: st) H = if x = 0 then rn Ls xs d 38 27 [l0, l1, l2, l3, l4, l5, l6, l7] st H else rn Ls xs d 38 18 [l0, l1, l2, l3, l4, l5, l6, l7] st H := rn_if (p := fun x => x = 0) rfl
theorem e_M_push_18 : rn Ls xs d 38 18 [l0, l1, l2, some (.inl x), l4, l5, l6, l7] st H = rn Ls xs d 38 19 [l0, l1, l2, some (.inl x), l4, l5, l6, l7] (.inl x :: st) H := rn_nx rfl rfl
theorem e_M_push_19 : rn Ls xs d 38 19 [l0, l1, l2, l3, l4, l5, l6, l7]  st H = rn Ls xs d 38 20 [l0, l1, l2, l3, l4, l5, l6, l7] (.inl 0 :: st) H := rn_nx rfl rfl
theorem e_M_push_20 : rn Ls xs d 38 20 [l0, l1, l2, l3, l4, l5, l6, l7]  st H = rn Ls xs d 38 21 [l0, l1, l2, l3, l4, l5, l6, l7] (.inl 1 :: st) H := rn_nx rfl rfl
theorem e_M_push_21 : rn Ls xs (d + 1) 38 21 [l0, l1, l2, l3, l4, l5, l6, l7] [v2, v1, v0] H = rb Ls xs (d + 1) 38 24 [l0, l1, l2, l3, l4, l5, l6, l7] [] (rn Ls xs d 97 0 [some v0, some v1, some v2] [] H) := rn_call rfl (Nat.le_of_ble_eq_true rfl) (Nat.le_of_ble_eq_true rfl) rfl rfl
theorem e_M_push_24 : rn Ls xs d 38 24 [l0, l1, l2, l3, l4, l5, l6, l7] (.inl x :: st) H = if x ≠ 0 then rn Ls xs d 38 30 [l0, l1, l2, l3, l4, l5, l6, l7] st H else rn Ls xs d 38 27 [l0, l1, l2, l3, l4, l5, l6, l7] st H := rn_if (p := fun x => x ≠ 0) rfl
theorem e_M_push_27 : rn Ls xs d 38 27 [l0, l1, l2, l3, l4, l5, l6, l7]  st H = rn Ls xs d 38 29 [l0, l1, l2, l3, l4, l5, l6, l7] (.inl (-1000000001) :: st) H := rn_nx rfl rfl
theorem e_M_push_29 : rn Ls xs d 38 29 [l0, l1, l2, l3, l4, l5, l6, l7] [.inl x] H = some (some (.inl x), H) := rn_done rfl rfl
theorem e_M_push_30 : rn Ls xs d 38 30 [some (.inr u), l1, l2, l3, l4, l5, l6, l7] st H = rn Ls xs d 38 31 [some (.inr u), l1, l2, l3, l4, l5, l6, l7] (.inr u :: st) H := rn_nx rfl rfl
theorem e_M_push_31 : rn Ls xs (d + 1) 38 31 [l0, l1, l2, l3, l4, l5, l6, l7] [(.inr (.inl (some a)))] (S, I, R) = if h_is S a 9 36 then rb Ls xs (d + 1) 38 34 [l0, l1, l2, l3, l4, l5, l6, l7] [] (rn Ls xs d 128 0 [some (.inr (.inl (some a))), none] [] (S, I, R)) else none := rn_callO rfl rfl (Nat.le_of_ble_eq_true rfl) rfl rfl
theorem e_M_push_34 : rn Ls xs d 38 34 [l0, l1, l2, l3, l4, l5, l6, l7]  st H = rn Ls xs d 38 36 [l0, l1, l2, l3, l4, l5, l6, l7] (.inl (-10) :: st) H := rn_nx rfl rfl
theorem e_M_push_36 : rn Ls xs d 38 36 [l0, l1, l2, l3, l4, l5, l6, l7] (.inl x :: st) H = rn Ls xs d 38 38 [l0, l1, l2, l3, some (.inl x), l5, l6, l7] st H := rn_nx rfl rfl
theorem e_M_push_38 : rn Ls xs d 38 38 [l0, l1, l2, l3, l4, l5, l6, l7]  st H = rn Ls xs d 38 39 [l0, l1, l2, l3, l4, l5, l6, l7] (.inl 0 :: st) H := rn_nx rfl rfl
theorem e_M_push_39 : rn Ls xs d 38 39 [l0, l1, l2, l3, l4, l5, l6, l7] (.inl x :: st) H = rn Ls xs d 38 41 [l0, l1, l2, l3, l4, some (.inl x), l6, l7] st H := rn_nx rfl rfl
theorem e_M_push_41 : rn Ls xs d 38 41 [l0, l1, l2, l3, l4, l5, l6, l7]  st H = rn Ls xs d 38 43 [l0, l1, l2, l3, l4, l5, l6, l7] (.inl (-9) :: st) H := rn_nx rfl rfl
theorem e_M_push_43 : rn Ls xs d 38 43 [l0, l1, l2, l3, l4, l5, l6, l7] (.inl x :: st) H = rn Ls xs d 38 45 [l0, l1, l2, l3, l4, l5, some (.inl x), l7] st H := rn_nx rfl rfl
theorem e_M_push_45 : rn Ls xs d 38 45 [l0, l1, l2, l3, l4, l5, some (.inl x), l7] st H = rn Ls xs d 38 47 [l0, l1, l2, l3, l4, l5, some (.inl x), l7] (.inl x :: st) H := rn_nx rfl rfl
theorem e_M_push_47 : rn Ls xs d 38 47 [l0, l1, l2, l3, l4, l5, l6, l7]  st H = rn Ls xs d 38 49 [l0, l1, l2, l3, l4, l5, l6, l7] (.inl 10 :: st) H := rn_nx rfl rfl
theorem e_M_push_49 : rn Ls xs d 38 49 [l0, l1, l2, l3, l4, l5, l6, l7] (.inl y :: .inl x :: st) H = if y ≤ x then rn Ls xs d 38 112 [l0, l1, l2, l3, l4, l5, l6, l7] st H else rn Ls xs d 38 52 [l0, l1, l2, l3, l4, l5, l6, l7] st H := rn_cmp (p := fun x y => y ≤ x) rfl
theorem e_M_push_52 : rn Ls xs d 38 52 [some (.inr u), l1, l2, l3, l4, l5, l6, l7] st H = rn Ls xs d 38 53 [some (.inr u), l1, l2, l3, l4, l5, l6, l7] (.inr u :: st) H := rn_nx rfl rfl
theorem e_M_push_53 : rn Ls xs d 38 53 [l0, some (.inl x), l2, l3, l4, l5, l6, l7] st H = rn Ls xs d 38 54 [l0, some (.inl x), l2, l3, l4, l5, l6, l7] (.inl x :: st) H := rn_nx rfl rfl
theorem e_M_push_54 : rn Ls xs d 38 54 [l0, l1, l2, l3, l4, l5, l6, l7]  st H = rn Ls xs d 38 55 [l0, l1, l2, l3, l4, l5, l6, l7] (.inl 3 :: st) H := rn_nx rfl rfl
theorem e_M_push_55 : rn Ls xs d 38 55 [l0, l1, l2, l3, l4, l5, some (.inl x), l7] st H = rn Ls xs d 38 57 [l0, l1, l2, l3, l4, l5, some (.inl x), l7] (.inl x :: st) H := rn_nx rfl rfl
theorem e_M_push_57 : rn Ls xs (d + 1) 38 57 [l0, l1, l2, l3, l4, l5, l6, l7] [v3, v2, v1, (.inr (.inl (some a)))] (S, I, R) = if h_is S a 9 36 then rb Ls xs (d + 1) 38 60 [l0, l1, l2, l3, l4, l5, l6, l7] [] (rn Ls xs d 114 0 [some (.inr (.inl (some a))), some v1, some v2, some v3] [] (S, I, R)) else none := rn_callO rfl rfl (Nat.le_of_ble_eq_true rfl) rfl rfl
theorem e_M_push_60 : rn Ls xs d 38 60 [some (.inr u), l1, l2, l3, l4, l5, l6, l7] st H = rn Ls xs d 38 61 [some (.inr u), l1, l2, l3, l4, l5, l6, l7] (.inr u :: st) H := rn_nx rfl rfl
theorem e_M_push_61 : rn Ls xs d 38 61 [l0, l1, some (.inl x), l3, l4, l5, l6, l7] st H = rn Ls xs d 38 62 [l0, l1, some (.inl x), l3, l4, l5, l6, l7] (.inl x :: st) H := rn_nx rfl rfl
theorem e_M_push_62 : rn Ls xs (d + 1) 38 62 [l0, l1, l2, l3, l4, l5, l6, l7] [v1, (.inr (.inl (some a)))] (S, I, R) = if h_is S a 9 36 then rb Ls xs (d + 1) 38 65 [l0, l1, l2, l3, l4, l5, l6, l7] [] (rn Ls xs d 138 0 [some (.inr (.inl (some a))), some v1, none] [] (S, I, R)) else none := rn_callO rfl rfl (Nat.le_of_ble_eq_true rfl) rfl rfl
theorem e_M_push_65 : rn Ls xs d 38 65 [l0, l1, l2, l3, l4, l5, l6, l7] (.inl x :: st) H = rn Ls xs d 38 67 [l0, l1, l2, l3, l4, l5, l6, some (.inl x)] st H := rn_nx rfl rfl
theorem e_M_push_67 : rn Ls xs d 38 67 [l0, l1, l2, l3, some (.inl x), l5, l6, l7] st H = rn Ls xs d 38 69 [l0, l1, l2, l3, some (.inl x), l5, l6, l7] (.inl x :: st) H := rn_nx rfl rfl
theorem e_M_push_69 : rn Ls xs d 38 69 [l0, l1, l2, l3, l4, l5, l6, l7]  st H = rn Ls xs d 38 71 [l0, l1, l2, l3, l4, l5, l6, l7] (.inl (-9) :: st) H := rn_nx rfl rfl
theorem e_M_push_71 : rn Ls xs d 38 71 [l0, l1, l2, l3, l4, l5, l6, l7] (.inl y :: .inl x :: st) H = if x < y then rn Ls xs d 38 81 [l0, l1, l2, l3, l4, l5, l6, l7] st H else rn Ls xs d 38 74 [l0, l1, l2, l3, l4, l5, l6, l7] st H := rn_cmp (p := fun x y => x < y) rfl
theorem e_M_push_74 : rn Ls xs d 38 74 [l0, l1, l2, l3, l4, l5, l6, some (.inl x)] st H = rn Ls xs d 38 76 [l0, l1, l2, l3, l4, l5, l6, some (.inl x)] (.inl x :: st) H := rn_nx rfl rfl
theorem e_M_push_76 : rn Ls xs d 38 76 [l0, l1, l2, l3, l4, some (.inl x), l6, l7] st H = rn Ls xs d 38 78 [l0, l1, l2, l3, l4, some (.inl x), l6, l7] (.inl x :: st) H := rn_nx rfl rfl
theorem e_M_push_78 : rn Ls xs d 38 78 [l0, l1, l2, l3, l4, l5, l6, l7] (.inl y :: .inl x :: st) H = if y ≤ x then rn Ls xs d 38 86 [l0, l1, l2, l3, l4, l5, l6, l7] st H else rn Ls xs d 38 81 [l0, l1, l2, l3, l4, l5, l6, l7] st H := rn_cmp (p := fun x y => y ≤ x) rfl
theorem e_M_push_81 : rn Ls xs d 38 81 [l0, l1, l2, l3, l4, l5, some (.inl x), l7] st H = rn Ls xs d 38 83 [l0, l1, l2, l3, l4, l5, some (.inl x), l7] (.inl x :: st) H := rn_nx rfl rfl
theorem e_M_push_83 : rn Ls xs d 38 83 [l0, l1, l2, l3, l4, l5, l6, l7] st H = rn Ls xs d 38 88 [l0, l1, l2, l3, l4, l5, l6, l7] st H := rn_nx rfl rfl
theorem e_M_push_86 : rn Ls xs d 38 86 [l0, l1, l2, l3, some (.inl x), l5, l6, l7] st H = rn Ls xs d 38 88 [l0, l1, l2, l3, some (.inl x), l5, l6, l7] (.inl x :: st) H := rn_nx rfl rfl
theorem e_M_push_88 : rn Ls xs d 38 88 [l0, l1, l2, l3, l4, l5, l6, l7] (.inl x :: st) H = rn Ls xs d 38 90 [l0, l1, l2, l3, some (.inl x), l5, l6, l7] st H := rn_nx rfl rfl
theorem e_M_push_90 : rn Ls xs d 38 90 [l0, l1, l2, l3, some (.inl x), l5, l6, l7] st H = rn Ls xs d 38 92 [l0, l1, l2, l3, some (.inl x), l5, l6, l7] (.inl x :: st) H := rn_nx rfl rfl
theorem e_M_push_92 : rn Ls xs d 38 92 [l0, l1, l2, l3, l4, l5, some (.inl x), l7] st H = rn Ls xs d 38 94 [l0, l1, l2, l3, l4, l5, some (.inl x), l7] (.inl x :: st) H := rn_nx rfl rfl
theorem e_M_push_94 : rn Ls xs d 38 94 [l0, l1, l2, l3, l4, l5, l6, l7] (.inl y :: .inl x :: st) H = if x ≠ y then rn Ls xs d 38 102 [l0, l1, l2, l3, l4, l5, l6, l7] st H else rn Ls xs d 38 97 [l0, l1, l2, l3, l4, l5, l6, l7] st H := rn_cmp (p := fun x y => x ≠ y) rfl
theorem e_M_push_97 : rn Ls xs d 38 97 [l0, l1, l2, l3, l4, l5, l6, some (.inl x)] st H = rn Ls xs d 38 99 [l0, l1, l2, l3, l4, l5, l6, some (.inl x)] (.inl x :: st) H := rn_nx rfl rfl
theorem e_M_push_99 : rn Ls xs d 38 99 [l0, l1, l2, l3, l4, l5, l6, l7] st H = rn Ls xs d 38 104 [l0, l1, l2, l3, l4, l5, l6, l7] st H := rn_nx rfl rfl
theorem e_M_push_102 : rn Ls xs d 38 102 [l0, l1, l2, l3, l4, some (.inl x), l6, l7] st H = rn Ls xs d 38 104 [l0, l1, l2, l3, l4, some (.inl x), l6, l7] (.inl x :: st) H := rn_nx rfl rfl
theorem e_M_push_104 : rn Ls xs d 38 104 [l0, l1, l2, l3, l4, l5, l6, l7] (.inl x :: st) H = rn Ls xs d 38 106 [l0, l1, l2, l3, l4, some (.inl x), l6, l7] st H := rn_nx rfl rfl
theorem e_M_push_106 : rn Ls xs d 38 106 [l0, l1, l2, l3, l4, l5, some (.inl x), l7] st H = rn Ls xs d 38 109 [l0, l1, l2, l3, l4, l5, some (.inl (x + 1)), l7] st H := rn_nx rfl rfl
theorem e_M_push_109 : rn Ls xs d 38 109 [l0, l1, l2, l3, l4, l5, l6, l7] st H = rn Ls xs d 38 45 [l0, l1, l2, l3, l4, l5, l6, l7] st H := rn_nx rfl rfl
theorem e_M_push_112 : rn Ls xs d 38 112 [l0, l1, l2, some (.inl x), l4, l5, l6, l7] st H = rn Ls xs d 38 113 [l0, l1, l2, some (.inl x), l4, l5, l6, l7] (.inl x :: st) H := rn_nx rfl rfl
theorem e_M_push_113 : rn Ls xs d 38 113 [l0, l1, l2, l3, l4, l5, l6, l7] (.inl x :: st) H = if x ≠ 0 then rn Ls xs d 38 121 [l0, l1, l2, l3, l4, l5, l6, l7] st H else rn Ls xs d 38 116 [l0, l1, l2, l3, l4, l5, l6, l7] st H := rn_if (p := fun x => x ≠ 0) rfl
theorem e_M_push_116 : rn Ls xs d 38 116 [l0, l1, l2, l3, some (.inl x), l5, l6, l7] st H = rn Ls xs d 38 118 [l0, l1, l2, l3, some (.inl x), l5, l6, l7] (.inl x :: st) H := rn_nx rfl rfl
theorem e_M_push_118 : rn Ls xs d 38 118 [l0, l1, l2, l3, l4, l5, l6, l7] st H = rn Ls xs d 38 123 [l0, l1, l2, l3, l4, l5, l6, l7] st H := rn_nx rfl rfl
theorem e_M_push_121 : rn Ls xs d 38 121 [l0, l1, l2, l3, l4, some (.inl x), l6, l7] st H = rn Ls xs d 38 123 [l0, l1, l2, l3, l4, some (.inl x), l6, l7] (.inl x :: st) H := rn_nx rfl rfl
theorem e_M_push_123 : rn Ls xs d 38 123 [l0, l1, l2, l3, l4, l5, l6, l7] [.inl x] H = some (some (.inl x), H) := rn_done rfl rfl
theorem e_W_under_0 : rn Ls xs d 39 0 [l0, some (.inl x), l2] st H = rn Ls xs d 39 1 [l0, some (.inl x), l2] (.inl x :: st) H := rn_nx rfl rfl
theorem e_W_under_1 : rn Ls xs d 39 1 [l0, l1, l2]  st H = rn Ls xs d 39 2 [l0, l1, l2] (.inl 1 :: st) H := rn_nx rfl rfl
theorem e_W_under_2 : rn Ls xs d 39 2 [l0, l1, l2]  st H = rn Ls xs d 39 4 [l0, l1, l2] (.inl 100 :: st) H := rn_nx rfl rfl
theorem e_W_under_4 : rn Ls xs (d + 1) 39 4 [l0, l1, l2] [v2, v1, v0] H = rb Ls xs (d + 1) 39 7 [l0, l1, l2] [] (rn Ls xs d 94 0 [some v0, some v1, some v2] [] H) := rn_call rfl (Nat.le_of_ble_eq_true rfl) (Nat.le_of_ble_eq_true rfl) rfl rfl
theorem e_W_under_7 : rn Ls xs d 39 7 [l0, l1, l2] (.inl x :: st) H = if x = 0 then rn Ls xs d 39 19 [l0, l1, l2] st H else rn Ls xs d 39 10 [l0, l1, l2] st H := rn_if (p := fun x => x = 0) rfl
theorem e_W_under_10 : rn Ls xs d 39 10 [l0, l1, some (.inl x)] st H = rn Ls xs d 39 11 [l0, l1, some (.inl x)] (.inl x :: st) H := rn_nx rfl rfl
theorem e_W_under_11 : rn Ls xs d 39 11 [l0, l1, l2]  st H = rn Ls xs d 39 12 [l0, l1, l2] (.inl 0 :: st) H := rn_nx rfl rfl
theorem e_W_under_12 : rn Ls xs d 39 12 [l0, l1, l2]  st H = rn Ls xs d 39 13 [l0, l1, l2] (.inl 1 :: st) H := rn_nx rfl rfl
theorem e_W_under_13 : rn Ls xs (d + 1) 39 13 [l0, l1, l2] [v2, v1, v0] H = rb Ls xs (d + 1) 39 16 [l0, l1, l2] [] (rn Ls xs d 94 0 [some v0, some v1, some v2] [] H) := rn_call rfl (Nat.le_of_ble_eq_true rfl) (Nat.le_of_ble_eq_true rfl) rfl rfl
theorem e_W_under_16 : rn Ls xs d 39 16 [l0, l1, l2] (.inl x :: st) H = if x ≠ 0 then rn Ls xs d 39 22 [l0, l1, l2] st H else rn Ls xs d 39 19 [l0, l1, l2] st H := rn_if (p := fun x => x ≠ 0) rfl
theorem e_W_under_19 : rn Ls xs d 39 19 [l0, l1, l2]  st H = rn Ls xs d 39 21 [l0, l1, l2] (.inl (-1000000001) :: st) H := rn_nx rfl rfl
theorem e_W_under_21 : rn Ls xs d 39 21 [l0, l1, l2] [.inl x] H = some (some (.inl x), H) := rn_done rfl rfl
theorem e_W_under_22 : rn Ls xs d 39 22 [some (.inr u), l1, l2] st H = rn Ls xs d 39 23 [some (.inr u), l1, l2] (.inr u :: st) H := rn_nx rfl rfl
theorem e_W_under_23 : rn Ls xs d 39 23 [l0, l1, l2] (.inr (.inl (some a)) :: st) (S, I, R) = if h_is S a 8 10 then rn Ls xs d 39 26 [l0, l1, l2] (.inr (R a 2) :: st) (S, I, R) else none := rn_bc rfl rfl
theorem e_W_under_26 : rn Ls xs d 39 26 [some (.inr u), l1, l2] st H = rn Ls xs d 39 27 [some (.inr u), l1, l2] (.inr u :: st) H := rn_nx rfl rfl
theorem e_W_under_27 : rn Ls xs d 39 27 [l0, l1, l2] (.inr (.inl (some a)) :: st) (S, I, R) = if h_is S a 8 10 then rn Ls xs d 39 30 [l0, l1, l2] (.inr (R a 0) :: st) (S, I, R) else none := rn_bc rfl rfl
theorem e_W_under_30 : rn Ls xs d 39 30 [l0, some (.inl x), l2] st H = rn Ls xs d 39 31 [l0, some (.inl x), l2] (.inl x :: st) H := rn_nx rfl rfl
theorem e_W_under_31 : rn Ls xs (d + 1) 39 31 [l0, l1, l2] [v2, v1, (.inr (.inl (some a)))] (S, I, R) = if h_is S a 0 5 then rb Ls xs (d + 1) 39 34 [l0, l1, l2] [] (rn Ls xs d 140 0 [some (.inr (.inl (some a))), some v1, some v2, none, none, none] [] (S, I, R)) else none := rn_callO rfl rfl (Nat.le_of_ble_eq_true rfl) rfl rfl
theorem e_W_under_34 : rn Ls xs d 39 34 [some (.inr u), l1, l2] st H = rn Ls xs d 39 35 [some (.inr u), l1, l2] (.inr u :: st) H := rn_nx rfl rfl
theorem e_W_under_35 : rn Ls xs d 39 35 [l0, l1, l2] (.inr (.inl (some a)) :: st) (S, I, R) = if h_is S a 8 10 then rn Ls xs d 39 38 [l0, l1, l2] (.inr (R a 2) :: st) (S, I, R) else none := rn_bc rfl rfl
theorem e_W_under_38 : rn Ls xs d 39 38 [l0, l1, some (.inl x)] st H = rn Ls xs d 39 39 [l0, l1, some (.inl x)] (.inl x :: st) H := rn_nx rfl rfl
theorem e_W_under_39 : rn Ls xs (d + 1) 39 39 [l0, l1, l2] [v1, (.inr (.inl (some a)))] (S, I, R) = if h_is S a 0 5 then rb Ls xs (d + 1) 39 42 [l0, l1, l2] [] (rn Ls xs d 137 0 [some (.inr (.inl (some a))), some v1] [] (S, I, R)) else none := rn_callO rfl rfl (Nat.le_of_ble_eq_true rfl) rfl rfl
theorem e_W_under_42 : rn Ls xs d 39 42 [l0, l1, l2] [.inl x] H = some (some (.inl x), H) := rn_done rfl rfl
set_option maxRecDepth 20000 in
theorem e_M_under_0 : rn Ls xs d 40 0 [l0, some (.inl x), l2, l3, l4, l5] st H = rn Ls xs d 40 1 [l0, some (.inl x), l2, l3, l4, l5] (.inl x :: st) H := rn_nx rfl rfl
set_option maxRecDepth 20000 in
theorem e_M_under_1 : rn Ls xs d 40 1 [l0, l1, l2, l3, l4, l5]  st H = rn Ls xs d 40 2 [l0, l1, l2, l3, l4, l5] (.inl 1 :: st) H := rn_nx rfl rfl
set_option maxRecDepth 20000 in
theorem e_M_under_2 : rn Ls xs d 40 2 [l0, l1, l2, l3, l4, l5]  st H = rn Ls xs d 40 4 [l0, l1, l2, l3, l4, l5] (.inl 100 :: st) H := rn_nx rfl rfl
set_option maxRecDepth 20000 in
theorem e_M_under_4 : rn Ls xs (d + 1) 40 4 [l0, l1, l2, l3, l4, l5] [v2, v1, v0] H = rb Ls xs (d + 1) 40 7 [l0, l1, l2, l3, l4, l5] [] (rn Ls xs d 97 0 [some v0, some v1, some v2] [] H) := rn_call rfl (Nat.le_of_ble_eq_true rfl) (Nat.le_of_ble_eq_true rfl) rfl rfl
set_option maxRecDepth 20000 in
theorem e_M_under_7 : rn Ls xs d 40 7 [l0, l1, l2, l3, l4, l5] (.inl x :: st) H = if x = 0 then rn Ls xs d 40 19 [l0, l1, l2, l3, l4, l5] st H else rn Ls xs d 40 10 [l0, l1, l2, l3, l4, l5] st H := rn_if (p := fun x => x = 0) rfl
set_option maxRecDepth 20000 in
theorem e_M_under_10 : rn Ls xs d 40 10 [l0, l1, some (.inl x), l3, l4, l5] st H = rn Ls xs d 40 11 [l0, l1, some (.inl x), l3, l4, l5] (.inl x :: st) H := rn_nx rfl rfl
set_option maxRecDepth 20000 in
theorem e_M_under_11 : rn Ls xs d 40 11 [l0, l1, l2, l3, l4, l5]  st H = rn Ls xs d 40 12 [l0, l1, l2, l3, l4, l5] (.inl 0 :: st) H := rn_nx rfl rfl
set_option maxRecDepth 20000 in
theorem e_M_under_12 : rn Ls xs d 40 12 [l0, l1, l2, l3, l4, l5]  st H = rn Ls xs d 40 13 [l0, l1, l2, l3, l4, l5] (.inl 1 :: st) H := rn_nx rfl rfl
set_option maxRecDepth 20000 in
theorem e_M_under_13 : rn Ls xs (d + 1) 40 13 [l0, l1, l2, l3, l4, l5] [v2, v1, v0] H = rb Ls xs (d + 1) 40 16 [l0, l1, l2, l3, l4, l5] [] (rn Ls xs d 97 0 [some v0, some v1, some v2] [] H) := rn_call rfl (Nat.le_of_ble_eq_true rfl) (Nat.le_of_ble_eq_true rfl) rfl rfl
set_option maxRecDepth 20000 in
theorem e_M_under_16 : rn Ls xs d 40 16 [l0, l1, l2, l3, l4, l5] (.inl x :: st) H = if x ≠ 0 then rn Ls xs d 40 22 [l0, l1, l2, l3, l4, l5] st H else rn Ls xs d 40 19 [l0, l1, l2, l3, l4, l5] st H := rn_if (p := fun x => x ≠ 0) rfl
set_option maxRecDepth 20000 in
theorem e_M_under_19 : rn Ls xs d 40 19 [l0, l1, l2, l3, l4, l5]  st H = rn Ls xs d 40 21 [l0, l1, l2, l3, l4, l5] (.inl (-1000000001) :: st) H := rn_nx rfl rfl
set_option maxRecDepth 20000 in
theorem e_M_under_21 : rn Ls xs d 40 21 [l0, l1, l2, l3, l4, l5] [.inl x] H = some (some (.inl x), H) := rn_done rfl rfl
set_option maxRecDepth 20000 in
theorem e_M_under_22 : rn Ls xs d 40 22 [some (.inr u), l1, l2, l3, l4, l5] st H = rn Ls xs d 40 23 [some (.inr u), l1, l2, l3, l4, l5] (.inr u :: st) H := rn_nx rfl rfl
set_option maxRecDepth 20000 in
theorem e_M_under_23 : rn Ls xs (d + 1) 40 23 [l0, l1, l2, l3, l4, l5] [(.inr (.inl (some a)))] (S, I, R) = if h_is S a 9 36 then rb Ls xs (d + 1) 40 26 [l0, l1, l2, l3, l4, l5] [] (rn Ls xs d 128 0 [some (.inr (.inl (some a))), none] [] (S, I, R)) else none := rn_callO rfl rfl (Nat.le_of_ble_eq_true rfl) rfl rfl
set_option maxRecDepth 20000 in
theorem e_M_under_26 : rn Ls xs d 40 26 [l0, l1, l2, l3, l4, l5]  st H = rn Ls xs d 40 27 [l0, l1, l2, l3, l4, l5] (.inl 0 :: st) H := rn_nx rfl rfl
set_option maxRecDepth 20000 in
theorem e_M_under_27 : rn Ls xs d 40 27 [l0, l1, l2, l3, l4, l5] (.inl x :: st) H = rn Ls xs d 40 28 [l0, l1, l2, some (.inl x), l4, l5] st H := rn_nx rfl rfl
set_option maxRecDepth 20000 in
theorem e_M_under_28 : rn Ls xs d 40 28 [l0, l1, l2, some (.inl x), l4, l5] st H = rn Ls xs d 40 29 [l0, l1, l2, some (.inl x), l4, l5] (.inl x :: st) H := rn_nx rfl rfl
set_option maxRecDepth 20000 in
theorem e_M_under_29 : rn Ls xs d 40 29 [l0, l1, l2, l3, l4, l5]  st H = rn Ls xs d 40 31 [l0, l1, l2, l3, l4, l5] (.inl 30 :: st) H := rn_nx rfl rfl
set_option maxRecDepth 20000 in
theorem e_M_under_31 : rn Ls xs d 40 31 [l0, l1, l2, l3, l4, l5] (.inl y :: .inl x :: st) H = if y ≤ x then rn Ls xs d 40 47 [l0, l1, l2, l3, l4, l5] st H else rn Ls xs d 40 34 [l0, l1, l2, l3, l4, l5] st H := rn_cmp (p := fun x y => y ≤ x) rfl
set_option maxRecDepth 20000 in
theorem e_M_under_34 : rn Ls xs d 40 34 [some (.inr u), l1, l2, l3, l4, l5] st H = rn Ls xs d 40 35 [some (.inr u), l1, l2, l3, l4, l5] (.inr u :: st) H := rn_nx rfl rfl
set_option maxRecDepth 20000 in
theorem e_M_under_35 : rn Ls xs d 40 35 [l0, l1, l2, l3, l4, l5] (.inr (.inl (some a)) :: st) (S, I, R) = if h_is S a 9 36 then rn Ls xs d 40 38 [l0, l1, l2, l3, l4, l5] (.inr (R a 6) :: st) (S, I, R) else none := rn_bc rfl rfl
set_option maxRecDepth 20000 in
theorem e_M_under_38 : rn Ls xs d 40 38 [l0, l1, l2, some (.inl x), l4, l5] st H = rn Ls xs d 40 39 [l0, l1, l2, some (.inl x), l4, l5] (.inl x :: st) H := rn_nx rfl rfl
set_option maxRecDepth 20000 in
theorem e_M_under_39 : rn Ls xs d 40 39 [l0, l1, l2, l3, l4, l5]  st H = rn Ls xs d 40 40 [l0, l1, l2, l3, l4, l5] (.inl 0 :: st) H := rn_nx rfl rfl
set_option maxRecDepth 20000 in
theorem e_M_under_40 : rn Ls xs d 40 40 [l0, l1, l2, l3, l4, l5] (.inl x :: .inl i :: .inr (.inl (some a)) :: st) (S, I, R) = if h_ia S a 0 i then rn Ls xs d 40 41 [l0, l1, l2, l3, l4, l5] st (S, va_up I a (upd (I a) i.toNatClampNeg x), R) else none := rn_bc rfl rfl
set_option maxRecDepth 20000 in
theorem e_M_under_41 : rn Ls xs d 40 41 [l0, l1, l2, some (.inl x), l4, l5] st H = rn Ls xs d 40 44 [l0, l1, l2, some (.inl (x + 1)), l4, l5] st H := rn_nx rfl rfl
set_option maxRecDepth 20000 in
theorem e_M_under_44 : rn Ls xs d 40 44 [l0, l1, l2, l3, l4, l5] st H = rn Ls xs d 40 28 [l0, l1, l2, l3, l4, l5] st H := rn_nx rfl rfl
set_option maxRecDepth 20000 in
theorem e_M_under_47 : rn Ls xs d 40 47 [l0, l1, l2, l3, l4, l5]  st H = rn Ls xs d 40 48 [l0, l1, l2, l3, l4, l5] (.inl 0 :: st) H := rn_nx rfl rfl
set_option maxRecDepth 20000 in
theorem e_M_under_48 : rn Ls xs d 40 48 [l0, l1, l2, l3, l4, l5] (.inl x :: st) H = rn Ls xs d 40 49 [l0, l1, l2, some (.inl x), l4, l5] st H := rn_nx rfl rfl
set_option maxRecDepth 20000 in
theorem e_M_under_49 : rn Ls xs d 40 49 [l0, l1, l2, some (.inl x), l4, l5] st H = rn Ls xs d 40 50 [l0, l1, l2, some (.inl x), l4, l5] (.inl x :: st) H := rn_nx rfl rfl
set_option maxRecDepth 20000 in
theorem e_M_under_50 : rn Ls xs d 40 50 [l0, some (.inl x), l2, l3, l4, l5] st H = rn Ls xs d 40 51 [l0, some (.inl x), l2, l3, l4, l5] (.inl x :: st) H := rn_nx rfl rfl
set_option maxRecDepth 20000 in
theorem e_M_under_51 : rn Ls xs d 40 51 [l0, l1, l2, l3, l4, l5] (.inl y :: .inl x :: st) H = if y ≤ x then rn Ls xs d 40 147 [l0, l1, l2, l3, l4, l5] st H else rn Ls xs d 40 54 [l0, l1, l2, l3, l4, l5] st H := rn_cmp (p := fun x y => y ≤ x) rfl
set_option maxRecDepth 20000 in
theorem e_M_under_54 : rn Ls xs d 40 54 [some (.inr u), l1, l2, l3, l4, l5] st H = rn Ls xs d 40 55 [some (.inr u), l1, l2, l3, l4, l5] (.inr u :: st) H := rn_nx rfl rfl
set_option maxRecDepth 20000 in
theorem e_M_under_55 : rn Ls xs (d + 1) 40 55 [l0, l1, l2, l3, l4, l5] [(.inr (.inl (some a)))] (S, I, R) = if h_is S a 9 36 then rb Ls xs (d + 1) 40 58 [l0, l1, l2, l3, l4, l5] [] (rn Ls xs d 131 0 [some (.inr (.inl (some a))), none, none, none] [] (S, I, R)) else none := rn_callO rfl rfl (Nat.le_of_ble_eq_true rfl) rfl rfl
set_option maxRecDepth 20000 in
theorem e_M_under_58 : rn Ls xs d 40 58 [l0, l1, l2, l3, l4, l5]  st H = rn Ls xs d 40 59 [l0, l1, l2, l3, l4, l5] (.inl 0 :: st) H := rn_nx rfl rfl
set_option maxRecDepth 20000 in
theorem e_M_under_59 : rn Ls xs d 40 59 [l0, l1, l2, l3, l4, l5] (.inl x :: st) H = rn Ls xs d 40 61 [l0, l1, l2, l3, some (.inl x), l5] st H := rn_nx rfl rfl
set_option maxRecDepth 20000 in
theorem e_M_under_61 : rn Ls xs d 40 61 [l0, l1, l2, l3, l4, l5]  st H = rn Ls xs d 40 62 [l0, l1, l2, l3, l4, l5] (.inl 0 :: st) H := rn_nx rfl rfl
set_option maxRecDepth 20000 in
theorem e_M_under_62 : rn Ls xs d 40 62 [l0, l1, l2, l3, l4, l5] (.inl x :: st) H = rn Ls xs d 40 64 [l0, l1, l2, l3, l4, some (.inl x)] st H := rn_nx rfl rfl
set_option maxRecDepth 20000 in
theorem e_M_under_64 : rn Ls xs d 40 64 [l0, l1, l2, l3, l4, some (.inl x)] st H = rn Ls xs d 40 66 [l0, l1, l2, l3, l4, some (.inl x)] (.inl x :: st) H := rn_nx rfl rfl
set_option maxRecDepth 20000 in
theorem e_M_under_66 : rn Ls xs d 40 66 [some (.inr u), l1, l2, l3, l4, l5] st H = rn Ls xs d 40 67 [some (.inr u), l1, l2, l3, l4, l5] (.inr u :: st) H := rn_nx rfl rfl
set_option maxRecDepth 20000 in
theorem e_M_under_67 : rn Ls xs d 40 67 [l0, l1, l2, l3, l4, l5] (.inr (.inl (some a)) :: st) (S, I, R) = if h_is S a 9 36 then rn Ls xs d 40 70 [l0, l1, l2, l3, l4, l5] (.inr (R a 0) :: st) (S, I, R) else none := rn_bc rfl rfl
set_option maxRecDepth 20000 in
theorem e_M_under_70 : rn Ls xs d 40 70 [l0, l1, l2, l3, l4, l5]  st H = rn Ls xs d 40 71 [l0, l1, l2, l3, l4, l5] (.inl 1 :: st) H := rn_nx rfl rfl
set_option maxRecDepth 20000 in
theorem e_M_under_71 : rn Ls xs d 40 71 [l0, l1, l2, l3, l4, l5] (.inl i :: .inr (.inl (some a)) :: st) (S, I, R) = if h_ia S a 0 i then rn Ls xs d 40 72 [l0, l1, l2, l3, l4, l5] (.inl (I a i.toNatClampNeg) :: st) (S, I, R) else none := rn_bc rfl rfl
set_option maxRecDepth 20000 in
theorem e_M_under_72 : rn Ls xs d 40 72 [l0, l1, l2, l3, l4, l5] (.inl y :: .inl x :: st) H = if y ≤ x then rn Ls xs d 40 108 [l0, l1, l2, l3, l4, l5] st H else rn Ls xs d 40 75 [l0, l1, l2, l3, l4, l5] st H := rn_cmp (p := fun x y => y ≤ x) rfl
set_option maxRecDepth 20000 in
theorem e_M_under_75 : rn Ls xs d 40 75 [l0, l1, l2, l3, some (.inl x), l5] st H = rn Ls xs d 40 77 [l0, l1, l2, l3, some (.inl x), l5] (.inl x :: st) H := rn_nx rfl rfl
set_option maxRecDepth 20000 in
theorem e_M_under_77 : rn Ls xs d 40 77 [some (.inr u), l1, l2, l3, l4, l5] st H = rn Ls xs d 40 78 [some (.inr u), l1, l2, l3, l4, l5] (.inr u :: st) H := rn_nx rfl rfl
set_option maxRecDepth 20000 in
theorem e_M_under_78 : rn Ls xs d 40 78 [l0, l1, l2, l3, l4, some (.inl x)] st H = rn Ls xs d 40 80 [l0, l1, l2, l3, l4, some (.inl x)] (.inl x :: st) H := rn_nx rfl rfl
set_option maxRecDepth 20000 in
theorem e_M_under_80 : rn Ls xs (d + 1) 40 80 [l0, l1, l2, l3, l4, l5] [v1, (.inr (.inl (some a))), v2] (S, I, R) = if h_is S a 9 36 then rb Ls xs (d + 1) 40 83 [l0, l1, l2, l3, l4, l5] [v2] (rn Ls xs d 113 0 [some (.inr (.inl (some a))), some v1] [] (S, I, R)) else none := rn_callO rfl rfl (Nat.le_of_ble_eq_true rfl) rfl rfl
set_option maxRecDepth 20000 in
theorem e_M_under_83 : rn Ls xs d 40 83 [l0, l1, l2, l3, l4, l5] (.inl x :: st) H = if x = 0 then rn Ls xs d 40 98 [l0, l1, l2, l3, l4, l5] st H else rn Ls xs d 40 86 [l0, l1, l2, l3, l4, l5] st H := rn_if (p := fun x => x = 0) rfl
set_option maxRecDepth 20000 in
theorem e_M_under_86 : rn Ls xs d 40 86 [l0, l1, l2, l3, l4, l5]  st H = rn Ls xs d 40 87 [l0, l1, l2, l3, l4, l5] (.inl 1 :: st) H := rn_nx rfl rfl
set_option maxRecDepth 20000 in
theorem e_M_under_87 : rn Ls xs d 40 87 [some (.inr u), l1, l2, l3, l4, l5] st H = rn Ls xs d 40 88 [some (.inr u), l1, l2, l3, l4, l5] (.inr u :: st) H := rn_nx rfl rfl
set_option maxRecDepth 20000 in
theorem e_M_under_88 : rn Ls xs d 40 88 [l0, l1, l2, l3, l4, some (.inl x)] st H = rn Ls xs d 40 90 [l0, l1, l2, l3, l4, some (.inl x)] (.inl x :: st) H := rn_nx rfl rfl
set_option maxRecDepth 20000 in
theorem e_M_under_90 : rn Ls xs d 40 90 [l0, l1, l2, l3, l4, l5]  st H = rn Ls xs d 40 91 [l0, l1, l2, l3, l4, l5] (.inl 2 :: st) H := rn_nx rfl rfl
set_option maxRecDepth 20000 in
theorem e_M_under_91 : rn Ls xs (d + 1) 40 91 [l0, l1, l2, l3, l4, l5] [v2, v1, (.inr (.inl (some a))), v3, v4] (S, I, R) = if h_is S a 9 36 then rb Ls xs (d + 1) 40 94 [l0, l1, l2, l3, l4, l5] [v3, v4] (rn Ls xs d 105 0 [some (.inr (.inl (some a))), some v1, some v2] [] (S, I, R)) else none := rn_callO rfl rfl (Nat.le_of_ble_eq_true rfl) rfl rfl
set_option maxRecDepth 20000 in
theorem e_M_under_94 : rn Ls xs d 40 94 [l0, l1, l2, l3, l4, l5] (.inl y :: .inl x :: st) H = rn Ls xs d 40 95 [l0, l1, l2, l3, l4, l5] (.inl (x <<< (y &&& 31)) :: st) H := rn_nx rfl rfl
set_option maxRecDepth 20000 in
theorem e_M_under_95 : rn Ls xs d 40 95 [l0, l1, l2, l3, l4, l5] st H = rn Ls xs d 40 99 [l0, l1, l2, l3, l4, l5] st H := rn_nx rfl rfl
set_option maxRecDepth 20000 in
theorem e_M_under_98 : rn Ls xs d 40 98 [l0, l1, l2, l3, l4, l5]  st H = rn Ls xs d 40 99 [l0, l1, l2, l3, l4, l5] (.inl 0 :: st) H := rn_nx rfl rfl
set_option maxRecDepth 20000 in
theorem e_M_under_99 : rn Ls xs d 40 99 [l0, l1, l2, l3, l4, l5] (.inl y :: .inl x :: st) H = rn Ls xs d 40 100 [l0, l1, l2, l3, l4, l5] (.inl (x ||| y) :: st) H := rn_nx rfl rfl
set_option maxRecDepth 20000 in
theorem e_M_under_100 : rn Ls xs d 40 100 [l0, l1, l2, l3, l4, l5] (.inl x :: st) H = rn Ls xs d 40 102 [l0, l1, l2, l3, some (.inl x), l5] st H := rn_nx rfl rfl
set_option maxRecDepth 20000 in
theorem e_M_under_102 : rn Ls xs d 40 102 [l0, l1, l2, l3, l4, some (.inl x)] st H = rn Ls xs d 40 105 [l0, l1, l2, l3, l4, some (.inl (x + 1))] st H := rn_nx rfl rfl
set_option maxRecDepth 20000 in
theorem e_M_under_105 : rn Ls xs d 40 105 [l0, l1, l2, l3, l4, l5] st H = rn Ls xs d 40 64 [l0, l1, l2, l3, l4, l5] st H := rn_nx rfl rfl
set_option maxRecDepth 20000 in
theorem e_M_under_108 : rn Ls xs d 40 108 [l0, l1, l2, l3, l4, l5]  st H = rn Ls xs d 40 109 [l0, l1, l2, l3, l4, l5] (.inl 0 :: st) H := rn_nx rfl rfl
set_option maxRecDepth 20000 in
theorem e_M_under_109 : rn Ls xs d 40 109 [l0, l1, l2, l3, l4, l5] (.inl x :: st) H = rn Ls xs d 40 111 [l0, l1, l2, l3, l4, some (.inl x)] st H := rn_nx rfl rfl
set_option maxRecDepth 20000 in
theorem e_M_under_111 : rn Ls xs d 40 111 [l0, l1, l2, l3, l4, some (.inl x)] st H = rn Ls xs d 40 113 [l0, l1, l2, l3, l4, some (.inl x)] (.inl x :: st) H := rn_nx rfl rfl
set_option maxRecDepth 20000 in
theorem e_M_under_113 : rn Ls xs d 40 113 [l0, l1, l2, l3, l4, l5]  st H = rn Ls xs d 40 115 [l0, l1, l2, l3, l4, l5] (.inl 30 :: st) H := rn_nx rfl rfl
set_option maxRecDepth 20000 in
theorem e_M_under_115 : rn Ls xs d 40 115 [l0, l1, l2, l3, l4, l5] (.inl y :: .inl x :: st) H = if y ≤ x then rn Ls xs d 40 141 [l0, l1, l2, l3, l4, l5] st H else rn Ls xs d 40 118 [l0, l1, l2, l3, l4, l5] st H := rn_cmp (p := fun x y => y ≤ x) rfl
set_option maxRecDepth 20000 in
theorem e_M_under_118 : rn Ls xs d 40 118 [some (.inr u), l1, l2, l3, l4, l5] st H = rn Ls xs d 40 119 [some (.inr u), l1, l2, l3, l4, l5] (.inr u :: st) H := rn_nx rfl rfl
set_option maxRecDepth 20000 in
theorem e_M_under_119 : rn Ls xs d 40 119 [l0, l1, l2, l3, l4, l5] (.inr (.inl (some a)) :: st) (S, I, R) = if h_is S a 9 36 then rn Ls xs d 40 122 [l0, l1, l2, l3, l4, l5] (.inr (R a 6) :: st) (S, I, R) else none := rn_bc rfl rfl
set_option maxRecDepth 20000 in
theorem e_M_under_122 : rn Ls xs d 40 122 [l0, l1, l2, l3, l4, some (.inl x)] st H = rn Ls xs d 40 124 [l0, l1, l2, l3, l4, some (.inl x)] (.inl x :: st) H := rn_nx rfl rfl
set_option maxRecDepth 20000 in
theorem e_M_under_124 : rn Ls xs d 40 124 [l0, l1, l2, l3, l4, l5] (v :: w :: st) H = rn Ls xs d 40 125 [l0, l1, l2, l3, l4, l5] (v :: w :: v :: w :: st) H := rn_nx rfl rfl
set_option maxRecDepth 20000 in
theorem e_M_under_125 : rn Ls xs d 40 125 [l0, l1, l2, l3, l4, l5] (.inl i :: .inr (.inl (some a)) :: st) (S, I, R) = if h_ia S a 0 i then rn Ls xs d 40 126 [l0, l1, l2, l3, l4, l5] (.inl (I a i.toNatClampNeg) :: st) (S, I, R) else none := rn_bc rfl rfl
set_option maxRecDepth 20000 in
theorem e_M_under_126 : rn Ls xs d 40 126 [l0, l1, l2, l3, some (.inl x), l5] st H = rn Ls xs d 40 128 [l0, l1, l2, l3, some (.inl x), l5] (.inl x :: st) H := rn_nx rfl rfl
set_option maxRecDepth 20000 in
theorem e_M_under_128 : rn Ls xs d 40 128 [l0, l1, l2, l3, l4, some (.inl x)] st H = rn Ls xs d 40 130 [l0, l1, l2, l3, l4, some (.inl x)] (.inl x :: st) H := rn_nx rfl rfl
set_option maxRecDepth 20000 in
theorem e_M_under_130 : rn Ls xs d 40 130 [l0, l1, l2, l3, l4, l5] (.inl y :: .inl x :: st) H = rn Ls xs d 40 131 [l0, l1, l2, l3, l4, l5] (.inl (x >>> (y &&& 31)) :: st) H := rn_nx rfl rfl
set_option maxRecDepth 20000 in
theorem e_M_under_131 : rn Ls xs d 40 131 [l0, l1, l2, l3, l4, l5]  st H = rn Ls xs d 40 132 [l0, l1, l2, l3, l4, l5] (.inl 1 :: st) H := rn_nx rfl rfl
set_option maxRecDepth 20000 in
theorem e_M_under_132 : rn Ls xs d 40 132 [l0, l1, l2, l3, l4, l5] (.inl y :: .inl x :: st) H = rn Ls xs d 40 133 [l0, l1, l2, l3, l4, l5] (.inl (x &&& y) :: st) H := rn_nx rfl rfl
set_option maxRecDepth 20000 in
theorem e_M_under_133 : rn Ls xs d 40 133 [l0, l1, l2, l3, l4, l5] (.inl y :: .inl x :: st) H = rn Ls xs d 40 134 [l0, l1, l2, l3, l4, l5] (.inl (x + y) :: st) H := rn_nx rfl rfl
set_option maxRecDepth 20000 in
theorem e_M_under_134 : rn Ls xs d 40 134 [l0, l1, l2, l3, l4, l5] (.inl x :: .inl i :: .inr (.inl (some a)) :: st) (S, I, R) = if h_ia S a 0 i then rn Ls xs d 40 135 [l0, l1, l2, l3, l4, l5] st (S, va_up I a (upd (I a) i.toNatClampNeg x), R) else none := rn_bc rfl rfl
set_option maxRecDepth 20000 in
theorem e_M_under_135 : rn Ls xs d 40 135 [l0, l1, l2, l3, l4, some (.inl x)] st H = rn Ls xs d 40 138 [l0, l1, l2, l3, l4, some (.inl (x + 1))] st H := rn_nx rfl rfl
set_option maxRecDepth 20000 in
theorem e_M_under_138 : rn Ls xs d 40 138 [l0, l1, l2, l3, l4, l5] st H = rn Ls xs d 40 111 [l0, l1, l2, l3, l4, l5] st H := rn_nx rfl rfl
set_option maxRecDepth 20000 in
theorem e_M_under_141 : rn Ls xs d 40 141 [l0, l1, l2, some (.inl x), l4, l5] st H = rn Ls xs d 40 144 [l0, l1, l2, some (.inl (x + 1)), l4, l5] st H := rn_nx rfl rfl
set_option maxRecDepth 20000 in
theorem e_M_under_144 : rn Ls xs d 40 144 [l0, l1, l2, l3, l4, l5] st H = rn Ls xs d 40 49 [l0, l1, l2, l3, l4, l5] st H := rn_nx rfl rfl
set_option maxRecDepth 20000 in
theorem e_M_under_147 : rn Ls xs d 40 147 [some (.inr u), l1, l2, l3, l4, l5] st H = rn Ls xs d 40 148 [some (.inr u), l1, l2, l3, l4, l5] (.inr u :: st) H := rn_nx rfl rfl
set_option maxRecDepth 20000 in
theorem e_M_under_148 : rn Ls xs (d + 1) 40 148 [l0, l1, l2, l3, l4, l5] [(.inr (.inl (some a)))] (S, I, R) = if h_is S a 9 36 then rb Ls xs (d + 1) 40 151 [l0, l1, l2, l3, l4, l5] [] (rn Ls xs d 129 0 [some (.inr (.inl (some a))), none] [] (S, I, R)) else none := rn_callO rfl rfl (Nat.le_of_ble_eq_true rfl) rfl rfl
set_option maxRecDepth 20000 in
theorem e_M_under_151 : rn Ls xs d 40 151 [l0, l1, l2, l3, l4, l5]  st H = rn Ls xs d 40 152 [l0, l1, l2, l3, l4, l5] (.inl 0 :: st) H := rn_nx rfl rfl
set_option maxRecDepth 20000 in
theorem e_M_under_152 : rn Ls xs d 40 152 [l0, l1, l2, l3, l4, l5] (.inl x :: st) H = rn Ls xs d 40 153 [l0, l1, l2, some (.inl x), l4, l5] st H := rn_nx rfl rfl
set_option maxRecDepth 20000 in
theorem e_M_under_153 : rn Ls xs d 40 153 [l0, l1, l2, l3, l4, l5]  st H = rn Ls xs d 40 154 [l0, l1, l2, l3, l4, l5] (.inl 1 :: st) H := rn_nx rfl rfl
set_option maxRecDepth 20000 in
theorem e_M_under_154 : rn Ls xs d 40 154 [l0, l1, l2, l3, l4, l5] (.inl x :: st) H = rn Ls xs d 40 156 [l0, l1, l2, l3, some (.inl x), l5] st H := rn_nx rfl rfl
set_option maxRecDepth 20000 in
theorem e_M_under_156 : rn Ls xs d 40 156 [l0, l1, l2, l3, some (.inl x), l5] st H = rn Ls xs d 40 158 [l0, l1, l2, l3, some (.inl x), l5] (.inl x :: st) H := rn_nx rfl rfl
set_option maxRecDepth 20000 in
theorem e_M_under_158 : rn Ls xs d 40 158 [l0, l1, l2, l3, l4, l5]  st H = rn Ls xs d 40 160 [l0, l1, l2, l3, l4, l5] (.inl 30 :: st) H := rn_nx rfl rfl
set_option maxRecDepth 20000 in
theorem e_M_under_160 : rn Ls xs d 40 160 [l0, l1, l2, l3, l4, l5] (.inl y :: .inl x :: st) H = if y ≤ x then rn Ls xs d 40 192 [l0, l1, l2, l3, l4, l5] st H else rn Ls xs d 40 163 [l0, l1, l2, l3, l4, l5] st H := rn_cmp (p := fun x y => y ≤ x) rfl
set_option maxRecDepth 20000 in
theorem e_M_under_163 : rn Ls xs d 40 163 [some (.inr u), l1, l2, l3, l4, l5] st H = rn Ls xs d 40 164 [some (.inr u), l1, l2, l3, l4, l5] (.inr u :: st) H := rn_nx rfl rfl
set_option maxRecDepth 20000 in
theorem e_M_under_164 : rn Ls xs d 40 164 [l0, l1, l2, l3, l4, l5] (.inr (.inl (some a)) :: st) (S, I, R) = if h_is S a 9 36 then rn Ls xs d 40 167 [l0, l1, l2, l3, l4, l5] (.inr (R a 6) :: st) (S, I, R) else none := rn_bc rfl rfl
set_option maxRecDepth 20000 in
theorem e_M_under_167 : rn Ls xs d 40 167 [l0, l1, l2, l3, some (.inl x), l5] st H = rn Ls xs d 40 169 [l0, l1, l2, l3, some (.inl x), l5] (.inl x :: st) H := rn_nx rfl rfl
set_option maxRecDepth 20000 in
theorem e_M_under_169 : rn Ls xs d 40 169 [l0, l1, l2, l3, l4, l5] (.inl i :: .inr (.inl (some a)) :: st) (S, I, R) = if h_ia S a 0 i then rn Ls xs d 40 170 [l0, l1, l2, l3, l4, l5] (.inl (I a i.toNatClampNeg) :: st) (S, I, R) else none := rn_bc rfl rfl
set_option maxRecDepth 20000 in
theorem e_M_under_170 : rn Ls xs d 40 170 [some (.inr u), l1, l2, l3, l4, l5] st H = rn Ls xs d 40 171 [some (.inr u), l1, l2, l3, l4, l5] (.inr u :: st) H := rn_nx rfl rfl
set_option maxRecDepth 20000 in
theorem e_M_under_171 : rn Ls xs d 40 171 [l0, l1, l2, l3, l4, l5] (.inr (.inl (some a)) :: st) (S, I, R) = if h_is S a 9 36 then rn Ls xs d 40 174 [l0, l1, l2, l3, l4, l5] (.inr (R a 6) :: st) (S, I, R) else none := rn_bc rfl rfl
set_option maxRecDepth 20000 in
theorem e_M_under_174 : rn Ls xs d 40 174 [l0, l1, l2, some (.inl x), l4, l5] st H = rn Ls xs d 40 175 [l0, l1, l2, some (.inl x), l4, l5] (.inl x :: st) H := rn_nx rfl rfl
set_option maxRecDepth 20000 in
theorem e_M_under_175 : rn Ls xs d 40 175 [l0, l1, l2, l3, l4, l5] (.inl i :: .inr (.inl (some a)) :: st) (S, I, R) = if h_ia S a 0 i then rn Ls xs d 40 176 [l0, l1, l2, l3, l4, l5] (.inl (I a i.toNatClampNeg) :: st) (S, I, R) else none := rn_bc rfl rfl
set_option maxRecDepth 20000 in
theorem e_M_under_176 : rn Ls xs d 40 176 [l0, l1, l2, l3, l4, l5] (.inl y :: .inl x :: st) H = if x ≤ y then rn Ls xs d 40 184 [l0, l1, l2, l3, l4, l5] st H else rn Ls xs d 40 179 [l0, l1, l2, l3, l4, l5] st H := rn_cmp (p := fun x y => x ≤ y) rfl
set_option maxRecDepth 20000 in
theorem e_M_under_179 : rn Ls xs d 40 179 [l0, l1, l2, l3, some (.inl x), l5] st H = rn Ls xs d 40 181 [l0, l1, l2, l3, some (.inl x), l5] (.inl x :: st) H := rn_nx rfl rfl
set_option maxRecDepth 20000 in
theorem e_M_under_181 : rn Ls xs d 40 181 [l0, l1, l2, l3, l4, l5] st H = rn Ls xs d 40 185 [l0, l1, l2, l3, l4, l5] st H := rn_nx rfl rfl
set_option maxRecDepth 20000 in
theorem e_M_under_184 : rn Ls xs d 40 184 [l0, l1, l2, some (.inl x), l4, l5] st H = rn Ls xs d 40 185 [l0, l1, l2, some (.inl x), l4, l5] (.inl x :: st) H := rn_nx rfl rfl
set_option maxRecDepth 20000 in
theorem e_M_under_185 : rn Ls xs d 40 185 [l0, l1, l2, l3, l4, l5] (.inl x :: st) H = rn Ls xs d 40 186 [l0, l1, l2, some (.inl x), l4, l5] st H := rn_nx rfl rfl
set_option maxRecDepth 20000 in
theorem e_M_under_186 : rn Ls xs d 40 186 [l0, l1, l2, l3, some (.inl x), l5] st H = rn Ls xs d 40 189 [l0, l1, l2, l3, some (.inl (x + 1)), l5] st H := rn_nx rfl rfl
set_option maxRecDepth 20000 in
theorem e_M_under_189 : rn Ls xs d 40 189 [l0, l1, l2, l3, l4, l5] st H = rn Ls xs d 40 156 [l0, l1, l2, l3, l4, l5] st H := rn_nx rfl rfl
set_option maxRecDepth 20000 in
theorem e_M_under_192 : rn Ls xs d 40 192 [l0, l1, some (.inl x), l3, l4, l5] st H = rn Ls xs d 40 193 [l0, l1, some (.inl x), l3, l4, l5] (.inl x :: st) H := rn_nx rfl rfl
set_option maxRecDepth 20000 in
theorem e_M_under_193 : rn Ls xs d 40 193 [l0, l1, l2, l3, l4, l5] (.inl x :: st) H = if x ≠ 0 then rn Ls xs d 40 200 [l0, l1, l2, l3, l4, l5] st H else rn Ls xs d 40 196 [l0, l1, l2, l3, l4, l5] st H := rn_if (p := fun x => x ≠ 0) rfl
set_option maxRecDepth 20000 in
theorem e_M_under_196 : rn Ls xs d 40 196 [l0, l1, l2, some (.inl x), l4, l5] st H = rn Ls xs d 40 197 [l0, l1, l2, some (.inl x), l4, l5] (.inl x :: st) H := rn_nx rfl rfl
set_option maxRecDepth 20000 in
theorem e_M_under_197 : rn Ls xs d 40 197 [l0, l1, l2, l3, l4, l5] st H = rn Ls xs d 40 206 [l0, l1, l2, l3, l4, l5] st H := rn_nx rfl rfl
set_option maxRecDepth 20000 in
theorem e_M_under_200 : rn Ls xs d 40 200 [some (.inr u), l1, l2, l3, l4, l5] st H = rn Ls xs d 40 201 [some (.inr u), l1, l2, l3, l4, l5] (.inr u :: st) H := rn_nx rfl rfl
set_option maxRecDepth 20000 in
theorem e_M_under_201 : rn Ls xs d 40 201 [l0, l1, l2, l3, l4, l5] (.inr (.inl (some a)) :: st) (S, I, R) = if h_is S a 9 36 then rn Ls xs d 40 204 [l0, l1, l2, l3, l4, l5] (.inr (R a 6) :: st) (S, I, R) else none := rn_bc rfl rfl
set_option maxRecDepth 20000 in
theorem e_M_under_204 : rn Ls xs d 40 204 [l0, l1, l2, some (.inl x), l4, l5] st H = rn Ls xs d 40 205 [l0, l1, l2, some (.inl x), l4, l5] (.inl x :: st) H := rn_nx rfl rfl
set_option maxRecDepth 20000 in
theorem e_M_under_205 : rn Ls xs d 40 205 [l0, l1, l2, l3, l4, l5] (.inl i :: .inr (.inl (some a)) :: st) (S, I, R) = if h_ia S a 0 i then rn Ls xs d 40 206 [l0, l1, l2, l3, l4, l5] (.inl (I a i.toNatClampNeg) :: st) (S, I, R) else none := rn_bc rfl rfl
set_option maxRecDepth 20000 in
theorem e_M_under_206 : rn Ls xs d 40 206 [l0, l1, l2, l3, l4, l5] [.inl x] H = some (some (.inl x), H) := rn_done rfl rfl
theorem e_W_nearest_0 : rn Ls xs d 41 0 [some (.inr u), l1, l2] st H = rn Ls xs d 41 1 [some (.inr u), l1, l2] (.inr u :: st) H := rn_nx rfl rfl
theorem e_W_nearest_1 : rn Ls xs d 41 1 [l0, l1, l2] (.inr (.inl (some a)) :: st) (S, I, R) = if h_is S a 8 10 then rn Ls xs d 41 4 [l0, l1, l2] (.inr (R a 0) :: st) (S, I, R) else none := rn_bc rfl rfl
theorem e_W_nearest_4 : rn Ls xs d 41 4 [l0, some (.inl x), l2] st H = rn Ls xs d 41 5 [l0, some (.inl x), l2] (.inl x :: st) H := rn_nx rfl rfl
theorem e_W_nearest_5 : rn Ls xs (d + 1) 41 5 [l0, l1, l2] [v1, (.inr (.inl (some a)))] (S, I, R) = if h_is S a 3 11 then rb Ls xs (d + 1) 41 8 [l0, l1, l2] [] (rn Ls xs d 100 0 [some (.inr (.inl (some a))), some v1] [] (S, I, R)) else none := rn_callO rfl rfl (Nat.le_of_ble_eq_true rfl) rfl rfl
theorem e_W_nearest_8 : rn Ls xs d 41 8 [l0, l1, l2] (.inl x :: st) H = if x = 0 then rn Ls xs d 41 21 [l0, l1, l2] st H else rn Ls xs d 41 11 [l0, l1, l2] st H := rn_if (p := fun x => x = 0) rfl
theorem e_W_nearest_11 : rn Ls xs d 41 11 [l0, l1, some (.inl x)] st H = rn Ls xs d 41 12 [l0, l1, some (.inl x)] (.inl x :: st) H := rn_nx rfl rfl
theorem e_W_nearest_12 : rn Ls xs d 41 12 [l0, l1, l2]  st H = rn Ls xs d 41 13 [l0, l1, l2] (.inl 0 :: st) H := rn_nx rfl rfl
theorem e_W_nearest_13 : rn Ls xs d 41 13 [l0, l1, l2]  st H = rn Ls xs d 41 15 [l0, l1, l2] (.inl 100 :: st) H := rn_nx rfl rfl
theorem e_W_nearest_15 : rn Ls xs (d + 1) 41 15 [l0, l1, l2] [v2, v1, v0] H = rb Ls xs (d + 1) 41 18 [l0, l1, l2] [] (rn Ls xs d 94 0 [some v0, some v1, some v2] [] H) := rn_call rfl (Nat.le_of_ble_eq_true rfl) (Nat.le_of_ble_eq_true rfl) rfl rfl
theorem e_W_nearest_18 : rn Ls xs d 41 18 [l0, l1, l2] (.inl x :: st) H = if x ≠ 0 then rn Ls xs d 41 24 [l0, l1, l2] st H else rn Ls xs d 41 21 [l0, l1, l2] st H := rn_if (p := fun x => x ≠ 0) rfl
theorem e_W_nearest_21 : rn Ls xs d 41 21 [l0, l1, l2]  st H = rn Ls xs d 41 23 [l0, l1, l2] (.inl (-1000000001) :: st) H := rn_nx rfl rfl
theorem e_W_nearest_23 : rn Ls xs d 41 23 [l0, l1, l2] [.inl x] H = some (some (.inl x), H) := rn_done rfl rfl
theorem e_W_nearest_24 : rn Ls xs d 41 24 [some (.inr u), l1, l2] st H = rn Ls xs d 41 25 [some (.inr u), l1, l2] (.inr u :: st) H := rn_nx rfl rfl
theorem e_W_nearest_25 : rn Ls xs d 41 25 [l0, l1, l2] (.inr (.inl (some a)) :: st) (S, I, R) = if h_is S a 8 10 then rn Ls xs d 41 28 [l0, l1, l2] (.inr (R a 2) :: st) (S, I, R) else none := rn_bc rfl rfl
theorem e_W_nearest_28 : rn Ls xs d 41 28 [some (.inr u), l1, l2] st H = rn Ls xs d 41 29 [some (.inr u), l1, l2] (.inr u :: st) H := rn_nx rfl rfl
theorem e_W_nearest_29 : rn Ls xs d 41 29 [l0, l1, l2] (.inr (.inl (some a)) :: st) (S, I, R) = if h_is S a 8 10 then rn Ls xs d 41 32 [l0, l1, l2] (.inr (R a 0) :: st) (S, I, R) else none := rn_bc rfl rfl
theorem e_W_nearest_32 : rn Ls xs d 41 32 [l0, some (.inl x), l2] st H = rn Ls xs d 41 33 [l0, some (.inl x), l2] (.inl x :: st) H := rn_nx rfl rfl
theorem e_W_nearest_33 : rn Ls xs d 41 33 [l0, l1, some (.inl x)] st H = rn Ls xs d 41 34 [l0, l1, some (.inl x)] (.inl x :: st) H := rn_nx rfl rfl
theorem e_W_nearest_34 : rn Ls xs (d + 1) 41 34 [l0, l1, l2] [v3, v2, v1, (.inr (.inl (some a)))] (S, I, R) = if h_is S a 0 5 then rb Ls xs (d + 1) 41 37 [l0, l1, l2] [] (rn Ls xs d 141 0 [some (.inr (.inl (some a))), some v1, some v2, some v3, none, none] [] (S, I, R)) else none := rn_callO rfl rfl (Nat.le_of_ble_eq_true rfl) rfl rfl
theorem e_W_nearest_37 : rn Ls xs d 41 37 [l0, l1, l2] [.inl x] H = some (some (.inl x), H) := rn_done rfl rfl
theorem e_M_nearest_0 : rn Ls xs d 42 0 [some (.inr u), l1, l2, l3, l4] st H = rn Ls xs d 42 1 [some (.inr u), l1, l2, l3, l4] (.inr u :: st) H := rn_nx rfl rfl
theorem e_M_nearest_1 : rn Ls xs d 42 1 [l0, some (.inl x), l2, l3, l4] st H = rn Ls xs d 42 2 [l0, some (.inl x), l2, l3, l4] (.inl x :: st) H := rn_nx rfl rfl
theorem e_M_nearest_2 : rn Ls xs (d + 1) 42 2 [l0, l1, l2, l3, l4] [v1, (.inr (.inl (some a)))] (S, I, R) = if h_is S a 9 36 then rb Ls xs (d + 1) 42 5 [l0, l1, l2, l3, l4] [] (rn Ls xs d 104 0 [some (.inr (.inl (some a))), some v1] [] (S, I, R)) else none := rn_callO rfl rfl (Nat.le_of_ble_eq_true rfl) rfl rfl
theorem e_M_nearest_5 : rn Ls xs d 42 5 [l0, l1, l2, l3, l4] (.inl x :: st) H = if x = 0 then rn Ls xs d 42 18 [l0, l1, l2, l3, l4] st H else rn Ls xs d 42 8 [l0, l1, l2, l3, l4] st H := rn_if (p := fun x => x = 0) rfl
theorem e_M_nearest_8 : rn Ls xs d 42 8 [l0, l1, some (.inl x), l3, l4] st H = rn Ls xs d 42 9 [l0, l1, some (.inl x), l3, l4] (.inl x :: st) H := rn_nx rfl rfl
theorem e_M_nearest_9 : rn Ls xs d 42 9 [l0, l1, l2, l3, l4]  st H = rn Ls xs d 42 10 [l0, l1, l2, l3, l4] (.inl 0 :: st) H := rn_nx rfl rfl
theorem e_M_nearest_10 : rn Ls xs d 42 10 [l0, l1, l2, l3, l4]  st H = rn Ls xs d 42 12 [l0, l1, l2, l3, l4] (.inl 100 :: st) H := rn_nx rfl rfl
theorem e_M_nearest_12 : rn Ls xs (d + 1) 42 12 [l0, l1, l2, l3, l4] [v2, v1, v0] H = rb Ls xs (d + 1) 42 15 [l0, l1, l2, l3, l4] [] (rn Ls xs d 97 0 [some v0, some v1, some v2] [] H) := rn_call rfl (Nat.le_of_ble_eq_true rfl) (Nat.le_of_ble_eq_true rfl) rfl rfl
theorem e_M_nearest_15 : rn Ls xs d 42 15 [l0, l1, l2, l3, l4] (.inl x :: st) H = if x ≠ 0 then rn Ls xs d 42 21 [l0, l1, l2, l3, l4] st H else rn Ls xs d 42 18 [l0, l1, l2, l3, l4] st H := rn_if (p := fun x => x ≠ 0) rfl
theorem e_M_nearest_18 : rn Ls xs d 42 18 [l0, l1, l2, l3, l4]  st H = rn Ls xs d 42 20 [l0, l1, l2, l3, l4] (.inl (-1000000001) :: st) H := rn_nx rfl rfl
theorem e_M_nearest_20 : rn Ls xs d 42 20 [l0, l1, l2, l3, l4] [.inl x] H = some (some (.inl x), H) := rn_done rfl rfl
theorem e_M_nearest_21 : rn Ls xs d 42 21 [some (.inr u), l1, l2, l3, l4] st H = rn Ls xs d 42 22 [some (.inr u), l1, l2, l3, l4] (.inr u :: st) H := rn_nx rfl rfl
theorem e_M_nearest_22 : rn Ls xs (d + 1) 42 22 [l0, l1, l2, l3, l4] [(.inr (.inl (some a)))] (S, I, R) = if h_is S a 9 36 then rb Ls xs (d + 1) 42 25 [l0, l1, l2, l3, l4] [] (rn Ls xs d 128 0 [some (.inr (.inl (some a))), none] [] (S, I, R)) else none := rn_callO rfl rfl (Nat.le_of_ble_eq_true rfl) rfl rfl
theorem e_M_nearest_25 : rn Ls xs d 42 25 [some (.inr u), l1, l2, l3, l4] st H = rn Ls xs d 42 26 [some (.inr u), l1, l2, l3, l4] (.inr u :: st) H := rn_nx rfl rfl
theorem e_M_nearest_26 : rn Ls xs d 42 26 [l0, some (.inl x), l2, l3, l4] st H = rn Ls xs d 42 27 [l0, some (.inl x), l2, l3, l4] (.inl x :: st) H := rn_nx rfl rfl
theorem e_M_nearest_27 : rn Ls xs d 42 27 [l0, l1, l2, l3, l4]  st H = rn Ls xs d 42 29 [l0, l1, l2, l3, l4] (.inl (-1000000005) :: st) H := rn_nx rfl rfl
theorem e_M_nearest_29 : rn Ls xs (d + 1) 42 29 [l0, l1, l2, l3, l4] [v2, v1, (.inr (.inl (some a)))] (S, I, R) = if h_is S a 9 36 then rb Ls xs (d + 1) 42 32 [l0, l1, l2, l3, l4] [] (rn Ls xs d 142 0 [some (.inr (.inl (some a))), some v1, some v2, none, none, none] [] (S, I, R)) else none := rn_callO rfl rfl (Nat.le_of_ble_eq_true rfl) rfl rfl
theorem e_M_nearest_32 : rn Ls xs d 42 32 [l0, l1, l2, l3, l4] (.inl x :: st) H = rn Ls xs d 42 33 [l0, l1, l2, some (.inl x), l4] st H := rn_nx rfl rfl
theorem e_M_nearest_33 : rn Ls xs d 42 33 [l0, l1, l2, l3, l4]  st H = rn Ls xs d 42 34 [l0, l1, l2, l3, l4] (.inl 0 :: st) H := rn_nx rfl rfl
theorem e_M_nearest_34 : rn Ls xs d 42 34 [l0, l1, l2, l3, l4] (.inl x :: st) H = rn Ls xs d 42 36 [l0, l1, l2, l3, some (.inl x)] st H := rn_nx rfl rfl
theorem e_M_nearest_36 : rn Ls xs d 42 36 [l0, l1, l2, l3, some (.inl x)] st H = rn Ls xs d 42 38 [l0, l1, l2, l3, some (.inl x)] (.inl x :: st) H := rn_nx rfl rfl
theorem e_M_nearest_38 : rn Ls xs d 42 38 [l0, l1, some (.inl x), l3, l4] st H = rn Ls xs d 42 39 [l0, l1, some (.inl x), l3, l4] (.inl x :: st) H := rn_nx rfl rfl
theorem e_M_nearest_39 : rn Ls xs d 42 39 [l0, l1, l2, l3, l4] (.inl y :: .inl x :: st) H = if y ≤ x then rn Ls xs d 42 59 [l0, l1, l2, l3, l4] st H else rn Ls xs d 42 42 [l0, l1, l2, l3, l4] st H := rn_cmp (p := fun x y => y ≤ x) rfl
theorem e_M_nearest_42 : rn Ls xs d 42 42 [some (.inr u), l1, l2, l3, l4] st H = rn Ls xs d 42 43 [some (.inr u), l1, l2, l3, l4] (.inr u :: st) H := rn_nx rfl rfl
theorem e_M_nearest_43 : rn Ls xs (d + 1) 42 43 [l0, l1, l2, l3, l4] [(.inr (.inl (some a)))] (S, I, R) = if h_is S a 9 36 then rb Ls xs (d + 1) 42 46 [l0, l1, l2, l3, l4] [] (rn Ls xs d 131 0 [some (.inr (.inl (some a))), none, none, none] [] (S, I, R)) else none := rn_callO rfl rfl (Nat.le_of_ble_eq_true rfl) rfl rfl
theorem e_M_nearest_46 : rn Ls xs d 42 46 [some (.inr u), l1, l2, l3, l4] st H = rn Ls xs d 42 47 [some (.inr u), l1, l2, l3, l4] (.inr u :: st) H := rn_nx rfl rfl
theorem e_M_nearest_47 : rn Ls xs d 42 47 [l0, some (.inl x), l2, l3, l4] st H = rn Ls xs d 42 48 [l0, some (.inl x), l2, l3, l4] (.inl x :: st) H := rn_nx rfl rfl
theorem e_M_nearest_48 : rn Ls xs d 42 48 [l0, l1, l2, some (.inl x), l4] st H = rn Ls xs d 42 49 [l0, l1, l2, some (.inl x), l4] (.inl x :: st) H := rn_nx rfl rfl
theorem e_M_nearest_49 : rn Ls xs (d + 1) 42 49 [l0, l1, l2, l3, l4] [v2, v1, (.inr (.inl (some a)))] (S, I, R) = if h_is S a 9 36 then rb Ls xs (d + 1) 42 52 [l0, l1, l2, l3, l4] [] (rn Ls xs d 142 0 [some (.inr (.inl (some a))), some v1, some v2, none, none, none] [] (S, I, R)) else none := rn_callO rfl rfl (Nat.le_of_ble_eq_true rfl) rfl rfl
theorem e_M_nearest_52 : rn Ls xs d 42 52 [l0, l1, l2, l3, l4] (.inl x :: st) H = rn Ls xs d 42 53 [l0, l1, l2, some (.inl x), l4] st H := rn_nx rfl rfl
theorem e_M_nearest_53 : rn Ls xs d 42 53 [l0, l1, l2, l3, some (.inl x)] st H = rn Ls xs d 42 56 [l0, l1, l2, l3, some (.inl (x + 1))] st H := rn_nx rfl rfl
theorem e_M_nearest_56 : rn Ls xs d 42 56 [l0, l1, l2, l3, l4] st H = rn Ls xs d 42 36 [l0, l1, l2, l3, l4] st H := rn_nx rfl rfl
theorem e_M_nearest_59 : rn Ls xs d 42 59 [some (.inr u), l1, l2, l3, l4] st H = rn Ls xs d 42 60 [some (.inr u), l1, l2, l3, l4] (.inr u :: st) H := rn_nx rfl rfl
theorem e_M_nearest_60 : rn Ls xs (d + 1) 42 60 [l0, l1, l2, l3, l4] [(.inr (.inl (some a)))] (S, I, R) = if h_is S a 9 36 then rb Ls xs (d + 1) 42 63 [l0, l1, l2, l3, l4] [] (rn Ls xs d 129 0 [some (.inr (.inl (some a))), none] [] (S, I, R)) else none := rn_callO rfl rfl (Nat.le_of_ble_eq_true rfl) rfl rfl
theorem e_M_nearest_63 : rn Ls xs d 42 63 [l0, l1, l2, some (.inl x), l4] st H = rn Ls xs d 42 64 [l0, l1, l2, some (.inl x), l4] (.inl x :: st) H := rn_nx rfl rfl
theorem e_M_nearest_64 : rn Ls xs d 42 64 [l0, l1, l2, l3, l4] [.inl x] H = some (some (.inl x), H) := rn_done rfl rfl
theorem e_W_seen_0 : rn Ls xs d 43 0 [l0, some (.inl x), l2] st H = rn Ls xs d 43 1 [l0, some (.inl x), l2] (.inl x :: st) H := rn_nx rfl rfl
theorem e_W_seen_1 : rn Ls xs (d + 1) 43 1 [l0, l1, l2] [v0] H = rb Ls xs (d + 1) 43 4 [l0, l1, l2] [] (rn Ls xs d 143 0 [some v0] [] H) := rn_call rfl (Nat.le_of_ble_eq_true rfl) (Nat.le_of_ble_eq_true rfl) rfl rfl
theorem e_W_seen_4 : rn Ls xs d 43 4 [l0, l1, l2] (.inl x :: st) H = if x = 0 then rn Ls xs d 43 16 [l0, l1, l2] st H else rn Ls xs d 43 7 [l0, l1, l2] st H := rn_if (p := fun x => x = 0) rfl
theorem e_W_seen_7 : rn Ls xs d 43 7 [l0, l1, some (.inl x)] st H = rn Ls xs d 43 8 [l0, l1, some (.inl x)] (.inl x :: st) H := rn_nx rfl rfl
theorem e_W_seen_8 : rn Ls xs d 43 8 [l0, l1, l2]  st H = rn Ls xs d 43 9 [l0, l1, l2] (.inl 0 :: st) H := rn_nx rfl rfl
theorem e_W_seen_9 : rn Ls xs d 43 9 [l0, l1, l2]  st H = rn Ls xs d 43 10 [l0, l1, l2] (.inl 1 :: st) H := rn_nx rfl rfl
theorem e_W_seen_10 : rn Ls xs (d + 1) 43 10 [l0, l1, l2] [v2, v1, v0] H = rb Ls xs (d + 1) 43 13 [l0, l1, l2] [] (rn Ls xs d 94 0 [some v0, some v1, some v2] [] H) := rn_call rfl (Nat.le_of_ble_eq_true rfl) (Nat.le_of_ble_eq_true rfl) rfl rfl
theorem e_W_seen_13 : rn Ls xs d 43 13 [l0, l1, l2] (.inl x :: st) H = if x ≠ 0 then rn Ls xs d 43 19 [l0, l1, l2] st H else rn Ls xs d 43 16 [l0, l1, l2] st H := rn_if (p := fun x => x ≠ 0) rfl
theorem e_W_seen_16 : rn Ls xs d 43 16 [l0, l1, l2]  st H = rn Ls xs d 43 18 [l0, l1, l2] (.inl (-1000000001) :: st) H := rn_nx rfl rfl
theorem e_W_seen_18 : rn Ls xs d 43 18 [l0, l1, l2] [.inl x] H = some (some (.inl x), H) := rn_done rfl rfl
theorem e_W_seen_19 : rn Ls xs d 43 19 [some (.inr u), l1, l2] st H = rn Ls xs d 43 20 [some (.inr u), l1, l2] (.inr u :: st) H := rn_nx rfl rfl
theorem e_W_seen_20 : rn Ls xs d 43 20 [l0, l1, l2] (.inr (.inl (some a)) :: st) (S, I, R) = if h_is S a 8 10 then rn Ls xs d 43 23 [l0, l1, l2] (.inr (R a 5) :: st) (S, I, R) else none := rn_bc rfl rfl
theorem e_W_seen_23 : rn Ls xs d 43 23 [l0, some (.inl x), l2] st H = rn Ls xs d 43 24 [l0, some (.inl x), l2] (.inl x :: st) H := rn_nx rfl rfl
theorem e_W_seen_24 : rn Ls xs d 43 24 [l0, l1, l2] (.inl i :: .inr (.inl (some a)) :: st) (S, I, R) = if h_ia S a 6 i then (match R a i.toNatClampNeg with | .inl o => rn Ls xs d 43 25 [l0, l1, l2] (.inr (.inl o) :: st) (S, I, R) | .inr _ => none) else none := rn_aald rfl
theorem e_W_seen_25 : rn Ls xs (d + 1) 43 25 [l0, l1, l2] [(.inr (.inl (some a)))] (S, I, R) = if h_is S a 2 3 then rb Ls xs (d + 1) 43 28 [l0, l1, l2] [] (rn Ls xs d 144 0 [some (.inr (.inl (some a)))] [] (S, I, R)) else none := rn_callO rfl rfl (Nat.le_of_ble_eq_true rfl) rfl rfl
theorem e_W_seen_28 : rn Ls xs d 43 28 [l0, l1, l2] (.inl x :: st) H = if x = 0 then rn Ls xs d 43 34 [l0, l1, l2] st H else rn Ls xs d 43 31 [l0, l1, l2] st H := rn_if (p := fun x => x = 0) rfl
theorem e_W_seen_31 : rn Ls xs d 43 31 [l0, l1, l2]  st H = rn Ls xs d 43 33 [l0, l1, l2] (.inl (-1000000011) :: st) H := rn_nx rfl rfl
theorem e_W_seen_33 : rn Ls xs d 43 33 [l0, l1, l2] [.inl x] H = some (some (.inl x), H) := rn_done rfl rfl
theorem e_W_seen_34 : rn Ls xs d 43 34 [some (.inr u), l1, l2] st H = rn Ls xs d 43 35 [some (.inr u), l1, l2] (.inr u :: st) H := rn_nx rfl rfl
theorem e_W_seen_35 : rn Ls xs d 43 35 [l0, l1, l2] (.inr (.inl (some a)) :: st) (S, I, R) = if h_is S a 8 10 then rn Ls xs d 43 38 [l0, l1, l2] (.inr (R a 2) :: st) (S, I, R) else none := rn_bc rfl rfl
theorem e_W_seen_38 : rn Ls xs d 43 38 [some (.inr u), l1, l2] st H = rn Ls xs d 43 39 [some (.inr u), l1, l2] (.inr u :: st) H := rn_nx rfl rfl
theorem e_W_seen_39 : rn Ls xs d 43 39 [l0, l1, l2] (.inr (.inl (some a)) :: st) (S, I, R) = if h_is S a 8 10 then rn Ls xs d 43 42 [l0, l1, l2] (.inr (R a 0) :: st) (S, I, R) else none := rn_bc rfl rfl
theorem e_W_seen_42 : rn Ls xs d 43 42 [some (.inr u), l1, l2] st H = rn Ls xs d 43 43 [some (.inr u), l1, l2] (.inr u :: st) H := rn_nx rfl rfl
theorem e_W_seen_43 : rn Ls xs d 43 43 [l0, l1, l2] (.inr (.inl (some a)) :: st) (S, I, R) = if h_is S a 8 10 then rn Ls xs d 43 46 [l0, l1, l2] (.inr (R a 5) :: st) (S, I, R) else none := rn_bc rfl rfl
theorem e_W_seen_46 : rn Ls xs d 43 46 [l0, some (.inl x), l2] st H = rn Ls xs d 43 47 [l0, some (.inl x), l2] (.inl x :: st) H := rn_nx rfl rfl
theorem e_W_seen_47 : rn Ls xs d 43 47 [l0, l1, l2] (.inl i :: .inr (.inl (some a)) :: st) (S, I, R) = if h_ia S a 6 i then (match R a i.toNatClampNeg with | .inl o => rn Ls xs d 43 48 [l0, l1, l2] (.inr (.inl o) :: st) (S, I, R) | .inr _ => none) else none := rn_aald rfl
theorem e_W_seen_48 : rn Ls xs (d + 1) 43 48 [l0, l1, l2] [v2, v1, (.inr (.inl (some a)))] (S, I, R) = if h_is S a 0 5 then rb Ls xs (d + 1) 43 51 [l0, l1, l2] [] (rn Ls xs d 145 0 [some (.inr (.inl (some a))), some v1, some v2, none, none] [] (S, I, R)) else none := rn_callO rfl rfl (Nat.le_of_ble_eq_true rfl) rfl rfl
theorem e_W_seen_51 : rn Ls xs d 43 51 [some (.inr u), l1, l2] st H = rn Ls xs d 43 52 [some (.inr u), l1, l2] (.inr u :: st) H := rn_nx rfl rfl
theorem e_W_seen_52 : rn Ls xs d 43 52 [l0, l1, l2] (.inr (.inl (some a)) :: st) (S, I, R) = if h_is S a 8 10 then rn Ls xs d 43 55 [l0, l1, l2] (.inr (R a 2) :: st) (S, I, R) else none := rn_bc rfl rfl
theorem e_W_seen_55 : rn Ls xs d 43 55 [l0, l1, some (.inl x)] st H = rn Ls xs d 43 56 [l0, l1, some (.inl x)] (.inl x :: st) H := rn_nx rfl rfl
theorem e_W_seen_56 : rn Ls xs (d + 1) 43 56 [l0, l1, l2] [v1, (.inr (.inl (some a)))] (S, I, R) = if h_is S a 0 5 then rb Ls xs (d + 1) 43 59 [l0, l1, l2] [] (rn Ls xs d 137 0 [some (.inr (.inl (some a))), some v1] [] (S, I, R)) else none := rn_callO rfl rfl (Nat.le_of_ble_eq_true rfl) rfl rfl
theorem e_W_seen_59 : rn Ls xs d 43 59 [l0, l1, l2] [.inl x] H = some (some (.inl x), H) := rn_done rfl rfl
set_option maxRecDepth 20000 in
theorem e_M_seen_0 : rn Ls xs d 44 0 [l0, some (.inl x), l2, l3, l4, l5, l6] st H = rn Ls xs d 44 1 [l0, some (.inl x), l2, l3, l4, l5, l6] (.inl x :: st) H := rn_nx rfl rfl
set_option maxRecDepth 20000 in
theorem e_M_seen_1 : rn Ls xs (d + 1) 44 1 [l0, l1, l2, l3, l4, l5, l6] [v0] H = rb Ls xs (d + 1) 44 4 [l0, l1, l2, l3, l4, l5, l6] [] (rn Ls xs d 146 0 [some v0] [] H) := rn_call rfl (Nat.le_of_ble_eq_true rfl) (Nat.le_of_ble_eq_true rfl) rfl rfl
set_option maxRecDepth 20000 in
theorem e_M_seen_4 : rn Ls xs d 44 4 [l0, l1, l2, l3, l4, l5, l6] (.inl x :: st) H = if x = 0 then rn Ls xs d 44 16 [l0, l1, l2, l3, l4, l5, l6] st H else rn Ls xs d 44 7 [l0, l1, l2, l3, l4, l5, l6] st H := rn_if (p := fun x => x = 0) rfl
set_option maxRecDepth 20000 in
theorem e_M_seen_7 : rn Ls xs d 44 7 [l0, l1, some (.inl x), l3, l4, l5, l6] st H = rn Ls xs d 44 8 [l0, l1, some (.inl x), l3, l4, l5, l6] (.inl x :: st) H := rn_nx rfl rfl
set_option maxRecDepth 20000 in
theorem e_M_seen_8 : rn Ls xs d 44 8 [l0, l1, l2, l3, l4, l5, l6]  st H = rn Ls xs d 44 9 [l0, l1, l2, l3, l4, l5, l6] (.inl 0 :: st) H := rn_nx rfl rfl
set_option maxRecDepth 20000 in
theorem e_M_seen_9 : rn Ls xs d 44 9 [l0, l1, l2, l3, l4, l5, l6]  st H = rn Ls xs d 44 10 [l0, l1, l2, l3, l4, l5, l6] (.inl 1 :: st) H := rn_nx rfl rfl
set_option maxRecDepth 20000 in
theorem e_M_seen_10 : rn Ls xs (d + 1) 44 10 [l0, l1, l2, l3, l4, l5, l6] [v2, v1, v0] H = rb Ls xs (d + 1) 44 13 [l0, l1, l2, l3, l4, l5, l6] [] (rn Ls xs d 97 0 [some v0, some v1, some v2] [] H) := rn_call rfl (Nat.le_of_ble_eq_true rfl) (Nat.le_of_ble_eq_true rfl) rfl rfl
set_option maxRecDepth 20000 in
theorem e_M_seen_13 : rn Ls xs d 44 13 [l0, l1, l2, l3, l4, l5, l6] (.inl x :: st) H = if x ≠ 0 then rn Ls xs d 44 19 [l0, l1, l2, l3, l4, l5, l6] st H else rn Ls xs d 44 16 [l0, l1, l2, l3, l4, l5, l6] st H := rn_if (p := fun x => x ≠ 0) rfl
set_option maxRecDepth 20000 in
theorem e_M_seen_16 : rn Ls xs d 44 16 [l0, l1, l2, l3, l4, l5, l6]  st H = rn Ls xs d 44 18 [l0, l1, l2, l3, l4, l5, l6] (.inl (-1000000001) :: st) H := rn_nx rfl rfl
set_option maxRecDepth 20000 in
theorem e_M_seen_18 : rn Ls xs d 44 18 [l0, l1, l2, l3, l4, l5, l6] [.inl x] H = some (some (.inl x), H) := rn_done rfl rfl
set_option maxRecDepth 20000 in
theorem e_M_seen_19 : rn Ls xs d 44 19 [some (.inr u), l1, l2, l3, l4, l5, l6] st H = rn Ls xs d 44 20 [some (.inr u), l1, l2, l3, l4, l5, l6] (.inr u :: st) H := rn_nx rfl rfl
set_option maxRecDepth 20000 in
theorem e_M_seen_20 : rn Ls xs d 44 20 [l0, l1, l2, l3, l4, l5, l6] (.inr (.inl (some a)) :: st) (S, I, R) = if h_is S a 9 36 then rn Ls xs d 44 23 [l0, l1, l2, l3, l4, l5, l6] (.inr (R a 26) :: st) (S, I, R) else none := rn_bc rfl rfl
set_option maxRecDepth 20000 in
theorem e_M_seen_23 : rn Ls xs d 44 23 [l0, some (.inl x), l2, l3, l4, l5, l6] st H = rn Ls xs d 44 24 [l0, some (.inl x), l2, l3, l4, l5, l6] (.inl x :: st) H := rn_nx rfl rfl
set_option maxRecDepth 20000 in
theorem e_M_seen_24 : rn Ls xs d 44 24 [l0, l1, l2, l3, l4, l5, l6] (.inl i :: .inr (.inl (some a)) :: st) (S, I, R) = if h_ia S a 0 i then rn Ls xs d 44 25 [l0, l1, l2, l3, l4, l5, l6] (.inl (I a i.toNatClampNeg) :: st) (S, I, R) else none := rn_bc rfl rfl
set_option maxRecDepth 20000 in
theorem e_M_seen_25 : rn Ls xs d 44 25 [l0, l1, l2, l3, l4, l5, l6] (.inl x :: st) H = if 0 ≤ x then rn Ls xs d 44 31 [l0, l1, l2, l3, l4, l5, l6] st H else rn Ls xs d 44 28 [l0, l1, l2, l3, l4, l5, l6] st H := rn_if (p := fun x => 0 ≤ x) rfl
set_option maxRecDepth 20000 in
theorem e_M_seen_28 : rn Ls xs d 44 28 [l0, l1, l2, l3, l4, l5, l6]  st H = rn Ls xs d 44 30 [l0, l1, l2, l3, l4, l5, l6] (.inl (-1000000011) :: st) H := rn_nx rfl rfl
set_option maxRecDepth 20000 in
theorem e_M_seen_30 : rn Ls xs d 44 30 [l0, l1, l2, l3, l4, l5, l6] [.inl x] H = some (some (.inl x), H) := rn_done rfl rfl
set_option maxRecDepth 20000 in
theorem e_M_seen_31 : rn Ls xs d 44 31 [some (.inr u), l1, l2, l3, l4, l5, l6] st H = rn Ls xs d 44 32 [some (.inr u), l1, l2, l3, l4, l5, l6] (.inr u :: st) H := rn_nx rfl rfl
set_option maxRecDepth 20000 in
theorem e_M_seen_32 : rn Ls xs (d + 1) 44 32 [l0, l1, l2, l3, l4, l5, l6] [(.inr (.inl (some a)))] (S, I, R) = if h_is S a 9 36 then rb Ls xs (d + 1) 44 35 [l0, l1, l2, l3, l4, l5, l6] [] (rn Ls xs d 128 0 [some (.inr (.inl (some a))), none] [] (S, I, R)) else none := rn_callO rfl rfl (Nat.le_of_ble_eq_true rfl) rfl rfl
set_option maxRecDepth 20000 in
theorem e_M_seen_35 : rn Ls xs d 44 35 [some (.inr u), l1, l2, l3, l4, l5, l6] st H = rn Ls xs d 44 36 [some (.inr u), l1, l2, l3, l4, l5, l6] (.inr u :: st) H := rn_nx rfl rfl
set_option maxRecDepth 20000 in
theorem e_M_seen_36 : rn Ls xs d 44 36 [l0, l1, l2, l3, l4, l5, l6] (.inr (.inl (some a)) :: st) (S, I, R) = if h_is S a 9 36 then rn Ls xs d 44 39 [l0, l1, l2, l3, l4, l5, l6] (.inr (R a 0) :: st) (S, I, R) else none := rn_bc rfl rfl
set_option maxRecDepth 20000 in
theorem e_M_seen_39 : rn Ls xs d 44 39 [l0, l1, l2, l3, l4, l5, l6]  st H = rn Ls xs d 44 40 [l0, l1, l2, l3, l4, l5, l6] (.inl 1 :: st) H := rn_nx rfl rfl
set_option maxRecDepth 20000 in
theorem e_M_seen_40 : rn Ls xs d 44 40 [l0, l1, l2, l3, l4, l5, l6] (.inl i :: .inr (.inl (some a)) :: st) (S, I, R) = if h_ia S a 0 i then rn Ls xs d 44 41 [l0, l1, l2, l3, l4, l5, l6] (.inl (I a i.toNatClampNeg) :: st) (S, I, R) else none := rn_bc rfl rfl
set_option maxRecDepth 20000 in
theorem e_M_seen_41 : rn Ls xs d 44 41 [l0, l1, l2, l3, l4, l5, l6] (.inl x :: st) H = rn Ls xs d 44 42 [l0, l1, l2, some (.inl x), l4, l5, l6] st H := rn_nx rfl rfl
set_option maxRecDepth 20000 in
theorem e_M_seen_42 : rn Ls xs d 44 42 [l0, l1, l2, l3, l4, l5, l6]  st H = rn Ls xs d 44 43 [l0, l1, l2, l3, l4, l5, l6] (.inl 0 :: st) H := rn_nx rfl rfl
set_option maxRecDepth 20000 in
theorem e_M_seen_43 : rn Ls xs d 44 43 [l0, l1, l2, l3, l4, l5, l6] (.inl x :: st) H = rn Ls xs d 44 45 [l0, l1, l2, l3, some (.inl x), l5, l6] st H := rn_nx rfl rfl
set_option maxRecDepth 20000 in
theorem e_M_seen_45 : rn Ls xs d 44 45 [l0, l1, l2, l3, some (.inl x), l5, l6] st H = rn Ls xs d 44 47 [l0, l1, l2, l3, some (.inl x), l5, l6] (.inl x :: st) H := rn_nx rfl rfl
set_option maxRecDepth 20000 in
theorem e_M_seen_47 : rn Ls xs d 44 47 [l0, l1, l2, some (.inl x), l4, l5, l6] st H = rn Ls xs d 44 48 [l0, l1, l2, some (.inl x), l4, l5, l6] (.inl x :: st) H := rn_nx rfl rfl
set_option maxRecDepth 20000 in
theorem e_M_seen_48 : rn Ls xs d 44 48 [l0, l1, l2, l3, l4, l5, l6] (.inl y :: .inl x :: st) H = if y ≤ x then rn Ls xs d 44 65 [l0, l1, l2, l3, l4, l5, l6] st H else rn Ls xs d 44 51 [l0, l1, l2, l3, l4, l5, l6] st H := rn_cmp (p := fun x y => y ≤ x) rfl
set_option maxRecDepth 20000 in
theorem e_M_seen_51 : rn Ls xs d 44 51 [some (.inr u), l1, l2, l3, l4, l5, l6] st H = rn Ls xs d 44 52 [some (.inr u), l1, l2, l3, l4, l5, l6] (.inr u :: st) H := rn_nx rfl rfl
set_option maxRecDepth 20000 in
theorem e_M_seen_52 : rn Ls xs d 44 52 [l0, l1, l2, l3, l4, l5, l6] (.inr (.inl (some a)) :: st) (S, I, R) = if h_is S a 9 36 then rn Ls xs d 44 55 [l0, l1, l2, l3, l4, l5, l6] (.inr (R a 7) :: st) (S, I, R) else none := rn_bc rfl rfl
set_option maxRecDepth 20000 in
theorem e_M_seen_55 : rn Ls xs d 44 55 [l0, l1, l2, l3, some (.inl x), l5, l6] st H = rn Ls xs d 44 57 [l0, l1, l2, l3, some (.inl x), l5, l6] (.inl x :: st) H := rn_nx rfl rfl
set_option maxRecDepth 20000 in
theorem e_M_seen_57 : rn Ls xs d 44 57 [l0, l1, l2, l3, l4, l5, l6]  st H = rn Ls xs d 44 58 [l0, l1, l2, l3, l4, l5, l6] (.inl 0 :: st) H := rn_nx rfl rfl
set_option maxRecDepth 20000 in
theorem e_M_seen_58 : rn Ls xs d 44 58 [l0, l1, l2, l3, l4, l5, l6] (.inl x :: .inl i :: .inr (.inl (some a)) :: st) (S, I, R) = if h_ia S a 0 i then rn Ls xs d 44 59 [l0, l1, l2, l3, l4, l5, l6] st (S, va_up I a (upd (I a) i.toNatClampNeg x), R) else none := rn_bc rfl rfl
set_option maxRecDepth 20000 in
theorem e_M_seen_59 : rn Ls xs d 44 59 [l0, l1, l2, l3, some (.inl x), l5, l6] st H = rn Ls xs d 44 62 [l0, l1, l2, l3, some (.inl (x + 1)), l5, l6] st H := rn_nx rfl rfl
set_option maxRecDepth 20000 in
theorem e_M_seen_62 : rn Ls xs d 44 62 [l0, l1, l2, l3, l4, l5, l6] st H = rn Ls xs d 44 45 [l0, l1, l2, l3, l4, l5, l6] st H := rn_nx rfl rfl
set_option maxRecDepth 20000 in
theorem e_M_seen_65 : rn Ls xs d 44 65 [l0, l1, l2, l3, l4, l5, l6]  st H = rn Ls xs d 44 66 [l0, l1, l2, l3, l4, l5, l6] (.inl 0 :: st) H := rn_nx rfl rfl
set_option maxRecDepth 20000 in
theorem e_M_seen_66 : rn Ls xs d 44 66 [l0, l1, l2, l3, l4, l5, l6] (.inl x :: st) H = rn Ls xs d 44 68 [l0, l1, l2, l3, some (.inl x), l5, l6] st H := rn_nx rfl rfl
set_option maxRecDepth 20000 in
theorem e_M_seen_68 : rn Ls xs d 44 68 [l0, l1, l2, l3, some (.inl x), l5, l6] st H = rn Ls xs d 44 70 [l0, l1, l2, l3, some (.inl x), l5, l6] (.inl x :: st) H := rn_nx rfl rfl
set_option maxRecDepth 20000 in
theorem e_M_seen_70 : rn Ls xs d 44 70 [some (.inr u), l1, l2, l3, l4, l5, l6] st H = rn Ls xs d 44 71 [some (.inr u), l1, l2, l3, l4, l5, l6] (.inr u :: st) H := rn_nx rfl rfl
set_option maxRecDepth 20000 in
theorem e_M_seen_71 : rn Ls xs d 44 71 [l0, l1, l2, l3, l4, l5, l6] (.inr (.inl (some a)) :: st) (S, I, R) = if h_is S a 9 36 then rn Ls xs d 44 74 [l0, l1, l2, l3, l4, l5, l6] (.inr (R a 27) :: st) (S, I, R) else none := rn_bc rfl rfl
set_option maxRecDepth 20000 in
theorem e_M_seen_74 : rn Ls xs d 44 74 [l0, some (.inl x), l2, l3, l4, l5, l6] st H = rn Ls xs d 44 75 [l0, some (.inl x), l2, l3, l4, l5, l6] (.inl x :: st) H := rn_nx rfl rfl
set_option maxRecDepth 20000 in
theorem e_M_seen_75 : rn Ls xs d 44 75 [l0, l1, l2, l3, l4, l5, l6] (.inl i :: .inr (.inl (some a)) :: st) (S, I, R) = if h_ia S a 0 i then rn Ls xs d 44 76 [l0, l1, l2, l3, l4, l5, l6] (.inl (I a i.toNatClampNeg) :: st) (S, I, R) else none := rn_bc rfl rfl
set_option maxRecDepth 20000 in
theorem e_M_seen_76 : rn Ls xs d 44 76 [l0, l1, l2, l3, l4, l5, l6] (.inl y :: .inl x :: st) H = if y ≤ x then rn Ls xs d 44 154 [l0, l1, l2, l3, l4, l5, l6] st H else rn Ls xs d 44 79 [l0, l1, l2, l3, l4, l5, l6] st H := rn_cmp (p := fun x y => y ≤ x) rfl
set_option maxRecDepth 20000 in
theorem e_M_seen_79 : rn Ls xs d 44 79 [some (.inr u), l1, l2, l3, l4, l5, l6] st H = rn Ls xs d 44 80 [some (.inr u), l1, l2, l3, l4, l5, l6] (.inr u :: st) H := rn_nx rfl rfl
set_option maxRecDepth 20000 in
theorem e_M_seen_80 : rn Ls xs d 44 80 [l0, l1, l2, l3, l4, l5, l6] (.inr (.inl (some a)) :: st) (S, I, R) = if h_is S a 9 36 then rn Ls xs d 44 83 [l0, l1, l2, l3, l4, l5, l6] (.inr (R a 28) :: st) (S, I, R) else none := rn_bc rfl rfl
set_option maxRecDepth 20000 in
theorem e_M_seen_83 : rn Ls xs d 44 83 [l0, l1, l2, l3, l4, l5, l6]  st H = rn Ls xs d 44 85 [l0, l1, l2, l3, l4, l5, l6] (.inl 24 :: st) H := rn_nx rfl rfl
set_option maxRecDepth 20000 in
theorem e_M_seen_85 : rn Ls xs d 44 85 [l0, some (.inl x), l2, l3, l4, l5, l6] st H = rn Ls xs d 44 86 [l0, some (.inl x), l2, l3, l4, l5, l6] (.inl x :: st) H := rn_nx rfl rfl
set_option maxRecDepth 20000 in
theorem e_M_seen_86 : rn Ls xs d 44 86 [l0, l1, l2, l3, l4, l5, l6] (.inl y :: .inl x :: st) H = rn Ls xs d 44 87 [l0, l1, l2, l3, l4, l5, l6] (.inl (x * y) :: st) H := rn_nx rfl rfl
set_option maxRecDepth 20000 in
theorem e_M_seen_87 : rn Ls xs d 44 87 [l0, l1, l2, l3, some (.inl x), l5, l6] st H = rn Ls xs d 44 89 [l0, l1, l2, l3, some (.inl x), l5, l6] (.inl x :: st) H := rn_nx rfl rfl
set_option maxRecDepth 20000 in
theorem e_M_seen_89 : rn Ls xs d 44 89 [l0, l1, l2, l3, l4, l5, l6] (.inl y :: .inl x :: st) H = rn Ls xs d 44 90 [l0, l1, l2, l3, l4, l5, l6] (.inl (x + y) :: st) H := rn_nx rfl rfl
set_option maxRecDepth 20000 in
theorem e_M_seen_90 : rn Ls xs d 44 90 [l0, l1, l2, l3, l4, l5, l6] (.inl i :: .inr (.inl (some a)) :: st) (S, I, R) = if h_ia S a 0 i then rn Ls xs d 44 91 [l0, l1, l2, l3, l4, l5, l6] (.inl (I a i.toNatClampNeg) :: st) (S, I, R) else none := rn_bc rfl rfl
set_option maxRecDepth 20000 in
theorem e_M_seen_91 : rn Ls xs d 44 91 [l0, l1, l2, l3, l4, l5, l6] (.inl x :: st) H = rn Ls xs d 44 93 [l0, l1, l2, l3, l4, some (.inl x), l6] st H := rn_nx rfl rfl
set_option maxRecDepth 20000 in
theorem e_M_seen_93 : rn Ls xs d 44 93 [l0, l1, l2, l3, l4, l5, l6]  st H = rn Ls xs d 44 94 [l0, l1, l2, l3, l4, l5, l6] (.inl 0 :: st) H := rn_nx rfl rfl
set_option maxRecDepth 20000 in
theorem e_M_seen_94 : rn Ls xs d 44 94 [l0, l1, l2, l3, l4, l5, l6] (.inl x :: st) H = rn Ls xs d 44 96 [l0, l1, l2, l3, l4, l5, some (.inl x)] st H := rn_nx rfl rfl
set_option maxRecDepth 20000 in
theorem e_M_seen_96 : rn Ls xs d 44 96 [l0, l1, l2, l3, l4, l5, some (.inl x)] st H = rn Ls xs d 44 98 [l0, l1, l2, l3, l4, l5, some (.inl x)] (.inl x :: st) H := rn_nx rfl rfl
set_option maxRecDepth 20000 in
theorem e_M_seen_98 : rn Ls xs d 44 98 [l0, l1, l2, some (.inl x), l4, l5, l6] st H = rn Ls xs d 44 99 [l0, l1, l2, some (.inl x), l4, l5, l6] (.inl x :: st) H := rn_nx rfl rfl
set_option maxRecDepth 20000 in
theorem e_M_seen_99 : rn Ls xs d 44 99 [l0, l1, l2, l3, l4, l5, l6] (.inl y :: .inl x :: st) H = if y ≤ x then rn Ls xs d 44 144 [l0, l1, l2, l3, l4, l5, l6] st H else rn Ls xs d 44 102 [l0, l1, l2, l3, l4, l5, l6] st H := rn_cmp (p := fun x y => y ≤ x) rfl
set_option maxRecDepth 20000 in
theorem e_M_seen_102 : rn Ls xs d 44 102 [some (.inr u), l1, l2, l3, l4, l5, l6] st H = rn Ls xs d 44 103 [some (.inr u), l1, l2, l3, l4, l5, l6] (.inr u :: st) H := rn_nx rfl rfl
set_option maxRecDepth 20000 in
theorem e_M_seen_103 : rn Ls xs d 44 103 [l0, l1, l2, l3, l4, l5, l6] (.inr (.inl (some a)) :: st) (S, I, R) = if h_is S a 9 36 then rn Ls xs d 44 106 [l0, l1, l2, l3, l4, l5, l6] (.inr (R a 7) :: st) (S, I, R) else none := rn_bc rfl rfl
set_option maxRecDepth 20000 in
theorem e_M_seen_106 : rn Ls xs d 44 106 [l0, l1, l2, l3, l4, l5, some (.inl x)] st H = rn Ls xs d 44 108 [l0, l1, l2, l3, l4, l5, some (.inl x)] (.inl x :: st) H := rn_nx rfl rfl
set_option maxRecDepth 20000 in
theorem e_M_seen_108 : rn Ls xs d 44 108 [l0, l1, l2, l3, l4, l5, l6] (v :: w :: st) H = rn Ls xs d 44 109 [l0, l1, l2, l3, l4, l5, l6] (v :: w :: v :: w :: st) H := rn_nx rfl rfl
set_option maxRecDepth 20000 in
theorem e_M_seen_109 : rn Ls xs d 44 109 [l0, l1, l2, l3, l4, l5, l6] (.inl i :: .inr (.inl (some a)) :: st) (S, I, R) = if h_ia S a 0 i then rn Ls xs d 44 110 [l0, l1, l2, l3, l4, l5, l6] (.inl (I a i.toNatClampNeg) :: st) (S, I, R) else none := rn_bc rfl rfl
set_option maxRecDepth 20000 in
theorem e_M_seen_110 : rn Ls xs d 44 110 [l0, l1, l2, l3, l4, some (.inl x), l6] st H = rn Ls xs d 44 112 [l0, l1, l2, l3, l4, some (.inl x), l6] (.inl x :: st) H := rn_nx rfl rfl
set_option maxRecDepth 20000 in
theorem e_M_seen_112 : rn Ls xs d 44 112 [l0, l1, l2, l3, l4, l5, l6]  st H = rn Ls xs d 44 114 [l0, l1, l2, l3, l4, l5, l6] (.inl (-1000000005) :: st) H := rn_nx rfl rfl
set_option maxRecDepth 20000 in
theorem e_M_seen_114 : rn Ls xs d 44 114 [l0, l1, l2, l3, l4, l5, l6] (.inl y :: .inl x :: st) H = if x ≠ y then rn Ls xs d 44 121 [l0, l1, l2, l3, l4, l5, l6] st H else rn Ls xs d 44 117 [l0, l1, l2, l3, l4, l5, l6] st H := rn_cmp (p := fun x y => x ≠ y) rfl
set_option maxRecDepth 20000 in
theorem e_M_seen_117 : rn Ls xs d 44 117 [l0, l1, l2, l3, l4, l5, l6]  st H = rn Ls xs d 44 118 [l0, l1, l2, l3, l4, l5, l6] (.inl 0 :: st) H := rn_nx rfl rfl
set_option maxRecDepth 20000 in
theorem e_M_seen_118 : rn Ls xs d 44 118 [l0, l1, l2, l3, l4, l5, l6] st H = rn Ls xs d 44 136 [l0, l1, l2, l3, l4, l5, l6] st H := rn_nx rfl rfl
set_option maxRecDepth 20000 in
theorem e_M_seen_121 : rn Ls xs d 44 121 [l0, l1, l2, l3, l4, some (.inl x), l6] st H = rn Ls xs d 44 123 [l0, l1, l2, l3, l4, some (.inl x), l6] (.inl x :: st) H := rn_nx rfl rfl
set_option maxRecDepth 20000 in
theorem e_M_seen_123 : rn Ls xs (d + 1) 44 123 [l0, l1, l2, l3, l4, l5, l6] [v0, v1, v2, v3] H = rb Ls xs (d + 1) 44 126 [l0, l1, l2, l3, l4, l5, l6] [v1, v2, v3] (rn Ls xs d 147 0 [some v0, none] [] H) := rn_call rfl (Nat.le_of_ble_eq_true rfl) (Nat.le_of_ble_eq_true rfl) rfl rfl
set_option maxRecDepth 20000 in
theorem e_M_seen_126 : rn Ls xs d 44 126 [some (.inr u), l1, l2, l3, l4, l5, l6] st H = rn Ls xs d 44 127 [some (.inr u), l1, l2, l3, l4, l5, l6] (.inr u :: st) H := rn_nx rfl rfl
set_option maxRecDepth 20000 in
theorem e_M_seen_127 : rn Ls xs d 44 127 [l0, l1, l2, l3, l4, l5, some (.inl x)] st H = rn Ls xs d 44 129 [l0, l1, l2, l3, l4, l5, some (.inl x)] (.inl x :: st) H := rn_nx rfl rfl
set_option maxRecDepth 20000 in
theorem e_M_seen_129 : rn Ls xs d 44 129 [l0, l1, l2, l3, l4, l5, l6]  st H = rn Ls xs d 44 130 [l0, l1, l2, l3, l4, l5, l6] (.inl 2 :: st) H := rn_nx rfl rfl
set_option maxRecDepth 20000 in
theorem e_M_seen_130 : rn Ls xs (d + 1) 44 130 [l0, l1, l2, l3, l4, l5, l6] [v2, v1, (.inr (.inl (some a))), v3, v4, v5, v6] (S, I, R) = if h_is S a 9 36 then rb Ls xs (d + 1) 44 133 [l0, l1, l2, l3, l4, l5, l6] [v3, v4, v5, v6] (rn Ls xs d 105 0 [some (.inr (.inl (some a))), some v1, some v2] [] (S, I, R)) else none := rn_callO rfl rfl (Nat.le_of_ble_eq_true rfl) rfl rfl
set_option maxRecDepth 20000 in
theorem e_M_seen_133 : rn Ls xs (d + 1) 44 133 [l0, l1, l2, l3, l4, l5, l6] [v1, v0, v2, v3, v4] H = rb Ls xs (d + 1) 44 136 [l0, l1, l2, l3, l4, l5, l6] [v2, v3, v4] (rn Ls xs d 148 0 [some v0, some v1, none] [] H) := rn_call rfl (Nat.le_of_ble_eq_true rfl) (Nat.le_of_ble_eq_true rfl) rfl rfl
set_option maxRecDepth 20000 in
theorem e_M_seen_136 : rn Ls xs d 44 136 [l0, l1, l2, l3, l4, l5, l6] (.inl y :: .inl x :: st) H = rn Ls xs d 44 137 [l0, l1, l2, l3, l4, l5, l6] (.inl (x + y) :: st) H := rn_nx rfl rfl
set_option maxRecDepth 20000 in
theorem e_M_seen_137 : rn Ls xs d 44 137 [l0, l1, l2, l3, l4, l5, l6] (.inl x :: .inl i :: .inr (.inl (some a)) :: st) (S, I, R) = if h_ia S a 0 i then rn Ls xs d 44 138 [l0, l1, l2, l3, l4, l5, l6] st (S, va_up I a (upd (I a) i.toNatClampNeg x), R) else none := rn_bc rfl rfl
set_option maxRecDepth 20000 in
theorem e_M_seen_138 : rn Ls xs d 44 138 [l0, l1, l2, l3, l4, l5, some (.inl x)] st H = rn Ls xs d 44 141 [l0, l1, l2, l3, l4, l5, some (.inl (x + 1))] st H := rn_nx rfl rfl
set_option maxRecDepth 20000 in
theorem e_M_seen_141 : rn Ls xs d 44 141 [l0, l1, l2, l3, l4, l5, l6] st H = rn Ls xs d 44 96 [l0, l1, l2, l3, l4, l5, l6] st H := rn_nx rfl rfl
set_option maxRecDepth 20000 in
theorem e_M_seen_144 : rn Ls xs d 44 144 [some (.inr u), l1, l2, l3, l4, l5, l6] st H = rn Ls xs d 44 145 [some (.inr u), l1, l2, l3, l4, l5, l6] (.inr u :: st) H := rn_nx rfl rfl
set_option maxRecDepth 20000 in
theorem e_M_seen_145 : rn Ls xs (d + 1) 44 145 [l0, l1, l2, l3, l4, l5, l6] [(.inr (.inl (some a)))] (S, I, R) = if h_is S a 9 36 then rb Ls xs (d + 1) 44 148 [l0, l1, l2, l3, l4, l5, l6] [] (rn Ls xs d 131 0 [some (.inr (.inl (some a))), none, none, none] [] (S, I, R)) else none := rn_callO rfl rfl (Nat.le_of_ble_eq_true rfl) rfl rfl
set_option maxRecDepth 20000 in
theorem e_M_seen_148 : rn Ls xs d 44 148 [l0, l1, l2, l3, some (.inl x), l5, l6] st H = rn Ls xs d 44 151 [l0, l1, l2, l3, some (.inl (x + 1)), l5, l6] st H := rn_nx rfl rfl
set_option maxRecDepth 20000 in
theorem e_M_seen_151 : rn Ls xs d 44 151 [l0, l1, l2, l3, l4, l5, l6] st H = rn Ls xs d 44 68 [l0, l1, l2, l3, l4, l5, l6] st H := rn_nx rfl rfl
set_option maxRecDepth 20000 in
theorem e_M_seen_154 : rn Ls xs d 44 154 [some (.inr u), l1, l2, l3, l4, l5, l6] st H = rn Ls xs d 44 155 [some (.inr u), l1, l2, l3, l4, l5, l6] (.inr u :: st) H := rn_nx rfl rfl
set_option maxRecDepth 20000 in
theorem e_M_seen_155 : rn Ls xs (d + 1) 44 155 [l0, l1, l2, l3, l4, l5, l6] [(.inr (.inl (some a)))] (S, I, R) = if h_is S a 9 36 then rb Ls xs (d + 1) 44 158 [l0, l1, l2, l3, l4, l5, l6] [] (rn Ls xs d 129 0 [some (.inr (.inl (some a))), none] [] (S, I, R)) else none := rn_callO rfl rfl (Nat.le_of_ble_eq_true rfl) rfl rfl
set_option maxRecDepth 20000 in
theorem e_M_seen_158 : rn Ls xs d 44 158 [l0, l1, l2, l3, l4, l5, l6]  st H = rn Ls xs d 44 159 [l0, l1, l2, l3, l4, l5, l6] (.inl 0 :: st) H := rn_nx rfl rfl
set_option maxRecDepth 20000 in
theorem e_M_seen_159 : rn Ls xs d 44 159 [l0, l1, l2, l3, l4, l5, l6] (.inl x :: st) H = rn Ls xs d 44 161 [l0, l1, l2, l3, some (.inl x), l5, l6] st H := rn_nx rfl rfl
set_option maxRecDepth 20000 in
theorem e_M_seen_161 : rn Ls xs d 44 161 [l0, l1, l2, l3, l4, l5, l6]  st H = rn Ls xs d 44 162 [l0, l1, l2, l3, l4, l5, l6] (.inl 1 :: st) H := rn_nx rfl rfl
set_option maxRecDepth 20000 in
theorem e_M_seen_162 : rn Ls xs d 44 162 [l0, l1, l2, l3, l4, l5, l6] (.inl x :: st) H = rn Ls xs d 44 164 [l0, l1, l2, l3, l4, some (.inl x), l6] st H := rn_nx rfl rfl
set_option maxRecDepth 20000 in
theorem e_M_seen_164 : rn Ls xs d 44 164 [l0, l1, l2, l3, l4, some (.inl x), l6] st H = rn Ls xs d 44 166 [l0, l1, l2, l3, l4, some (.inl x), l6] (.inl x :: st) H := rn_nx rfl rfl
set_option maxRecDepth 20000 in
theorem e_M_seen_166 : rn Ls xs d 44 166 [l0, l1, l2, some (.inl x), l4, l5, l6] st H = rn Ls xs d 44 167 [l0, l1, l2, some (.inl x), l4, l5, l6] (.inl x :: st) H := rn_nx rfl rfl
set_option maxRecDepth 20000 in
theorem e_M_seen_167 : rn Ls xs d 44 167 [l0, l1, l2, l3, l4, l5, l6] (.inl y :: .inl x :: st) H = if y ≤ x then rn Ls xs d 44 202 [l0, l1, l2, l3, l4, l5, l6] st H else rn Ls xs d 44 170 [l0, l1, l2, l3, l4, l5, l6] st H := rn_cmp (p := fun x y => y ≤ x) rfl
set_option maxRecDepth 20000 in
theorem e_M_seen_170 : rn Ls xs d 44 170 [some (.inr u), l1, l2, l3, l4, l5, l6] st H = rn Ls xs d 44 171 [some (.inr u), l1, l2, l3, l4, l5, l6] (.inr u :: st) H := rn_nx rfl rfl
set_option maxRecDepth 20000 in
theorem e_M_seen_171 : rn Ls xs d 44 171 [l0, l1, l2, l3, l4, l5, l6] (.inr (.inl (some a)) :: st) (S, I, R) = if h_is S a 9 36 then rn Ls xs d 44 174 [l0, l1, l2, l3, l4, l5, l6] (.inr (R a 7) :: st) (S, I, R) else none := rn_bc rfl rfl
set_option maxRecDepth 20000 in
theorem e_M_seen_174 : rn Ls xs d 44 174 [l0, l1, l2, l3, l4, some (.inl x), l6] st H = rn Ls xs d 44 176 [l0, l1, l2, l3, l4, some (.inl x), l6] (.inl x :: st) H := rn_nx rfl rfl
set_option maxRecDepth 20000 in
theorem e_M_seen_176 : rn Ls xs d 44 176 [l0, l1, l2, l3, l4, l5, l6] (.inl i :: .inr (.inl (some a)) :: st) (S, I, R) = if h_ia S a 0 i then rn Ls xs d 44 177 [l0, l1, l2, l3, l4, l5, l6] (.inl (I a i.toNatClampNeg) :: st) (S, I, R) else none := rn_bc rfl rfl
set_option maxRecDepth 20000 in
theorem e_M_seen_177 : rn Ls xs d 44 177 [some (.inr u), l1, l2, l3, l4, l5, l6] st H = rn Ls xs d 44 178 [some (.inr u), l1, l2, l3, l4, l5, l6] (.inr u :: st) H := rn_nx rfl rfl
set_option maxRecDepth 20000 in
theorem e_M_seen_178 : rn Ls xs d 44 178 [l0, l1, l2, l3, l4, l5, l6] (.inr (.inl (some a)) :: st) (S, I, R) = if h_is S a 9 36 then rn Ls xs d 44 181 [l0, l1, l2, l3, l4, l5, l6] (.inr (R a 7) :: st) (S, I, R) else none := rn_bc rfl rfl
set_option maxRecDepth 20000 in
theorem e_M_seen_181 : rn Ls xs d 44 181 [l0, l1, l2, l3, some (.inl x), l5, l6] st H = rn Ls xs d 44 183 [l0, l1, l2, l3, some (.inl x), l5, l6] (.inl x :: st) H := rn_nx rfl rfl
set_option maxRecDepth 20000 in
theorem e_M_seen_183 : rn Ls xs d 44 183 [l0, l1, l2, l3, l4, l5, l6] (.inl i :: .inr (.inl (some a)) :: st) (S, I, R) = if h_ia S a 0 i then rn Ls xs d 44 184 [l0, l1, l2, l3, l4, l5, l6] (.inl (I a i.toNatClampNeg) :: st) (S, I, R) else none := rn_bc rfl rfl
set_option maxRecDepth 20000 in
theorem e_M_seen_184 : rn Ls xs d 44 184 [l0, l1, l2, l3, l4, l5, l6] (.inl y :: .inl x :: st) H = if y ≤ x then rn Ls xs d 44 192 [l0, l1, l2, l3, l4, l5, l6] st H else rn Ls xs d 44 187 [l0, l1, l2, l3, l4, l5, l6] st H := rn_cmp (p := fun x y => y ≤ x) rfl
set_option maxRecDepth 20000 in
theorem e_M_seen_187 : rn Ls xs d 44 187 [l0, l1, l2, l3, l4, some (.inl x), l6] st H = rn Ls xs d 44 189 [l0, l1, l2, l3, l4, some (.inl x), l6] (.inl x :: st) H := rn_nx rfl rfl
set_option maxRecDepth 20000 in
theorem e_M_seen_189 : rn Ls xs d 44 189 [l0, l1, l2, l3, l4, l5, l6] st H = rn Ls xs d 44 194 [l0, l1, l2, l3, l4, l5, l6] st H := rn_nx rfl rfl
set_option maxRecDepth 20000 in
theorem e_M_seen_192 : rn Ls xs d 44 192 [l0, l1, l2, l3, some (.inl x), l5, l6] st H = rn Ls xs d 44 194 [l0, l1, l2, l3, some (.inl x), l5, l6] (.inl x :: st) H := rn_nx rfl rfl
set_option maxRecDepth 20000 in
theorem e_M_seen_194 : rn Ls xs d 44 194 [l0, l1, l2, l3, l4, l5, l6] (.inl x :: st) H = rn Ls xs d 44 196 [l0, l1, l2, l3, some (.inl x), l5, l6] st H := rn_nx rfl rfl
set_option maxRecDepth 20000 in
theorem e_M_seen_196 : rn Ls xs d 44 196 [l0, l1, l2, l3, l4, some (.inl x), l6] st H = rn Ls xs d 44 199 [l0, l1, l2, l3, l4, some (.inl (x + 1)), l6] st H := rn_nx rfl rfl
set_option maxRecDepth 20000 in
theorem e_M_seen_199 : rn Ls xs d 44 199 [l0, l1, l2, l3, l4, l5, l6] st H = rn Ls xs d 44 164 [l0, l1, l2, l3, l4, l5, l6] st H := rn_nx rfl rfl
set_option maxRecDepth 20000 in
theorem e_M_seen_202 : rn Ls xs d 44 202 [l0, l1, l2, some (.inl x), l4, l5, l6] st H = rn Ls xs d 44 203 [l0, l1, l2, some (.inl x), l4, l5, l6] (.inl x :: st) H := rn_nx rfl rfl
set_option maxRecDepth 20000 in
theorem e_M_seen_203 : rn Ls xs d 44 203 [l0, l1, l2, l3, l4, l5, l6] (.inl x :: st) H = if x ≠ 0 then rn Ls xs d 44 211 [l0, l1, l2, l3, l4, l5, l6] st H else rn Ls xs d 44 206 [l0, l1, l2, l3, l4, l5, l6] st H := rn_if (p := fun x => x ≠ 0) rfl
set_option maxRecDepth 20000 in
theorem e_M_seen_206 : rn Ls xs d 44 206 [l0, l1, l2, l3, l4, l5, l6]  st H = rn Ls xs d 44 208 [l0, l1, l2, l3, l4, l5, l6] (.inl (-1000000005) :: st) H := rn_nx rfl rfl
set_option maxRecDepth 20000 in
theorem e_M_seen_208 : rn Ls xs d 44 208 [l0, l1, l2, l3, l4, l5, l6] st H = rn Ls xs d 44 227 [l0, l1, l2, l3, l4, l5, l6] st H := rn_nx rfl rfl
set_option maxRecDepth 20000 in
theorem e_M_seen_211 : rn Ls xs d 44 211 [l0, l1, some (.inl x), l3, l4, l5, l6] st H = rn Ls xs d 44 212 [l0, l1, some (.inl x), l3, l4, l5, l6] (.inl x :: st) H := rn_nx rfl rfl
set_option maxRecDepth 20000 in
theorem e_M_seen_212 : rn Ls xs d 44 212 [l0, l1, l2, l3, l4, l5, l6] (.inl x :: st) H = if x ≠ 0 then rn Ls xs d 44 220 [l0, l1, l2, l3, l4, l5, l6] st H else rn Ls xs d 44 215 [l0, l1, l2, l3, l4, l5, l6] st H := rn_if (p := fun x => x ≠ 0) rfl
set_option maxRecDepth 20000 in
theorem e_M_seen_215 : rn Ls xs d 44 215 [l0, l1, l2, l3, some (.inl x), l5, l6] st H = rn Ls xs d 44 217 [l0, l1, l2, l3, some (.inl x), l5, l6] (.inl x :: st) H := rn_nx rfl rfl
set_option maxRecDepth 20000 in
theorem e_M_seen_217 : rn Ls xs d 44 217 [l0, l1, l2, l3, l4, l5, l6] st H = rn Ls xs d 44 227 [l0, l1, l2, l3, l4, l5, l6] st H := rn_nx rfl rfl
set_option maxRecDepth 20000 in
theorem e_M_seen_220 : rn Ls xs d 44 220 [some (.inr u), l1, l2, l3, l4, l5, l6] st H = rn Ls xs d 44 221 [some (.inr u), l1, l2, l3, l4, l5, l6] (.inr u :: st) H := rn_nx rfl rfl
set_option maxRecDepth 20000 in
theorem e_M_seen_221 : rn Ls xs d 44 221 [l0, l1, l2, l3, l4, l5, l6] (.inr (.inl (some a)) :: st) (S, I, R) = if h_is S a 9 36 then rn Ls xs d 44 224 [l0, l1, l2, l3, l4, l5, l6] (.inr (R a 7) :: st) (S, I, R) else none := rn_bc rfl rfl
set_option maxRecDepth 20000 in
theorem e_M_seen_224 : rn Ls xs d 44 224 [l0, l1, l2, l3, some (.inl x), l5, l6] st H = rn Ls xs d 44 226 [l0, l1, l2, l3, some (.inl x), l5, l6] (.inl x :: st) H := rn_nx rfl rfl
set_option maxRecDepth 20000 in
theorem e_M_seen_226 : rn Ls xs d 44 226 [l0, l1, l2, l3, l4, l5, l6] (.inl i :: .inr (.inl (some a)) :: st) (S, I, R) = if h_ia S a 0 i then rn Ls xs d 44 227 [l0, l1, l2, l3, l4, l5, l6] (.inl (I a i.toNatClampNeg) :: st) (S, I, R) else none := rn_bc rfl rfl
set_option maxRecDepth 20000 in
theorem e_M_seen_227 : rn Ls xs d 44 227 [l0, l1, l2, l3, l4, l5, l6] [.inl x] H = some (some (.inl x), H) := rn_done rfl rfl
theorem e_W_fee_0 : rn Ls xs d 45 0 [some (.inr u), l1] st H = rn Ls xs d 45 1 [some (.inr u), l1] (.inr u :: st) H := rn_nx rfl rfl
theorem e_W_fee_1 : rn Ls xs d 45 1 [l0, l1] (.inr (.inl (some a)) :: st) (S, I, R) = if h_is S a 8 10 then rn Ls xs d 45 4 [l0, l1] (.inr (R a 0) :: st) (S, I, R) else none := rn_bc rfl rfl
theorem e_W_fee_4 : rn Ls xs d 45 4 [l0, l1]  st H = rn Ls xs d 45 5 [l0, l1] (.inl 1 :: st) H := rn_nx rfl rfl
theorem e_W_fee_5 : rn Ls xs (d + 1) 45 5 [l0, l1] [v1, (.inr (.inl (some a)))] (S, I, R) = if h_is S a 3 11 then rb Ls xs (d + 1) 45 8 [l0, l1] [] (rn Ls xs d 149 0 [some (.inr (.inl (some a))), some v1, none] [] (S, I, R)) else none := rn_callO rfl rfl (Nat.le_of_ble_eq_true rfl) rfl rfl
theorem e_W_fee_8 : rn Ls xs d 45 8 [l0, l1] (.inl x :: st) H = rn Ls xs d 45 9 [l0, some (.inl x)] st H := rn_nx rfl rfl
theorem e_W_fee_9 : rn Ls xs d 45 9 [l0, some (.inl x)] st H = rn Ls xs d 45 10 [l0, some (.inl x)] (.inl x :: st) H := rn_nx rfl rfl
theorem e_W_fee_10 : rn Ls xs d 45 10 [l0, l1] (.inl x :: st) H = if 0 ≤ x then rn Ls xs d 45 23 [l0, l1] st H else rn Ls xs d 45 13 [l0, l1] st H := rn_if (p := fun x => 0 ≤ x) rfl
theorem e_W_fee_13 : rn Ls xs d 45 13 [some (.inr u), l1] st H = rn Ls xs d 45 14 [some (.inr u), l1] (.inr u :: st) H := rn_nx rfl rfl
theorem e_W_fee_14 : rn Ls xs d 45 14 [l0, l1] (.inr (.inl (some a)) :: st) (S, I, R) = if h_is S a 8 10 then rn Ls xs d 45 17 [l0, l1] (.inr (R a 0) :: st) (S, I, R) else none := rn_bc rfl rfl
theorem e_W_fee_17 : rn Ls xs d 45 17 [l0, l1] (.inr (.inl (some a)) :: st) (S, I, R) = if h_is S a 3 11 then rn Ls xs d 45 20 [l0, l1] (.inl (I a 6) :: st) (S, I, R) else none := rn_bc rfl rfl
theorem e_W_fee_20 : rn Ls xs d 45 20 [l0, l1] st H = rn Ls xs d 45 57 [l0, l1] st H := rn_nx rfl rfl
theorem e_W_fee_23 : rn Ls xs d 45 23 [some (.inr u), l1] st H = rn Ls xs d 45 24 [some (.inr u), l1] (.inr u :: st) H := rn_nx rfl rfl
theorem e_W_fee_24 : rn Ls xs d 45 24 [l0, l1] (.inr (.inl (some a)) :: st) (S, I, R) = if h_is S a 8 10 then rn Ls xs d 45 27 [l0, l1] (.inr (R a 0) :: st) (S, I, R) else none := rn_bc rfl rfl
theorem e_W_fee_27 : rn Ls xs d 45 27 [l0, l1] (.inr (.inl (some a)) :: st) (S, I, R) = if h_is S a 3 11 then rn Ls xs d 45 30 [l0, l1] (.inr (R a 1) :: st) (S, I, R) else none := rn_bc rfl rfl
theorem e_W_fee_30 : rn Ls xs d 45 30 [l0, some (.inl x)] st H = rn Ls xs d 45 31 [l0, some (.inl x)] (.inl x :: st) H := rn_nx rfl rfl
theorem e_W_fee_31 : rn Ls xs d 45 31 [l0, l1] (.inl i :: .inr (.inl (some a)) :: st) (S, I, R) = if h_ia S a 5 i then (match R a i.toNatClampNeg with | .inl o => rn Ls xs d 45 32 [l0, l1] (.inr (.inl o) :: st) (S, I, R) | .inr _ => none) else none := rn_aald rfl
theorem e_W_fee_32 : rn Ls xs d 45 32 [some (.inr u), l1] st H = rn Ls xs d 45 33 [some (.inr u), l1] (.inr u :: st) H := rn_nx rfl rfl
theorem e_W_fee_33 : rn Ls xs d 45 33 [l0, l1] (.inr (.inl (some a)) :: st) (S, I, R) = if h_is S a 8 10 then rn Ls xs d 45 36 [l0, l1] (.inr (R a 0) :: st) (S, I, R) else none := rn_bc rfl rfl
theorem e_W_fee_36 : rn Ls xs d 45 36 [l0, l1] (.inr (.inl (some a)) :: st) (S, I, R) = if h_is S a 3 11 then rn Ls xs d 45 39 [l0, l1] (.inl (I a 6) :: st) (S, I, R) else none := rn_bc rfl rfl
theorem e_W_fee_39 : rn Ls xs d 45 39 [some (.inr u), l1] st H = rn Ls xs d 45 40 [some (.inr u), l1] (.inr u :: st) H := rn_nx rfl rfl
theorem e_W_fee_40 : rn Ls xs d 45 40 [l0, l1] (.inr (.inl (some a)) :: st) (S, I, R) = if h_is S a 8 10 then rn Ls xs d 45 43 [l0, l1] (.inr (R a 0) :: st) (S, I, R) else none := rn_bc rfl rfl
theorem e_W_fee_43 : rn Ls xs d 45 43 [l0, l1] (.inr (.inl (some a)) :: st) (S, I, R) = if h_is S a 3 11 then rn Ls xs d 45 46 [l0, l1] (.inl (I a 7) :: st) (S, I, R) else none := rn_bc rfl rfl
theorem e_W_fee_46 : rn Ls xs d 45 46 [l0, l1]  st H = rn Ls xs d 45 47 [l0, l1] (.inl 0 :: st) H := rn_nx rfl rfl
theorem e_W_fee_47 : rn Ls xs d 45 47 [some (.inr u), l1] st H = rn Ls xs d 45 48 [some (.inr u), l1] (.inr u :: st) H := rn_nx rfl rfl
theorem e_W_fee_48 : rn Ls xs d 45 48 [l0, l1] (.inr (.inl (some a)) :: st) (S, I, R) = if h_is S a 8 10 then rn Ls xs d 45 51 [l0, l1] (.inr (R a 0) :: st) (S, I, R) else none := rn_bc rfl rfl
theorem e_W_fee_51 : rn Ls xs d 45 51 [l0, l1] (.inr (.inl (some a)) :: st) (S, I, R) = if h_is S a 3 11 then rn Ls xs d 45 54 [l0, l1] (.inr (R a 2) :: st) (S, I, R) else none := rn_bc rfl rfl
theorem e_W_fee_54 : rn Ls xs (d + 1) 45 54 [l0, l1] [v4, v3, v2, v1, (.inr (.inl (some a)))] (S, I, R) = if h_is S a 6 3 then rb Ls xs (d + 1) 45 57 [l0, l1] [] (rn Ls xs d 150 0 [some (.inr (.inl (some a))), some v1, some v2, some v3, some v4, none, none, none] [] (S, I, R)) else none := rn_callO rfl rfl (Nat.le_of_ble_eq_true rfl) rfl rfl
theorem e_W_fee_57 : rn Ls xs d 45 57 [l0, l1] [.inl x] H = some (some (.inl x), H) := rn_done rfl rfl
theorem e_M_fee_0 : rn Ls xs d 46 0 [some (.inr u), l1] st H = rn Ls xs d 46 1 [some (.inr u), l1] (.inr u :: st) H := rn_nx rfl rfl
theorem e_M_fee_1 : rn Ls xs d 46 1 [l0, l1]  st H = rn Ls xs d 46 2 [l0, l1] (.inl 1 :: st) H := rn_nx rfl rfl
theorem e_M_fee_2 : rn Ls xs (d + 1) 46 2 [l0, l1] [v1, (.inr (.inl (some a)))] (S, I, R) = if h_is S a 9 36 then rb Ls xs (d + 1) 46 5 [l0, l1] [] (rn Ls xs d 151 0 [some (.inr (.inl (some a))), some v1, none] [] (S, I, R)) else none := rn_callO rfl rfl (Nat.le_of_ble_eq_true rfl) rfl rfl
theorem e_M_fee_5 : rn Ls xs d 46 5 [l0, l1] (.inl x :: st) H = rn Ls xs d 46 6 [l0, some (.inl x)] st H := rn_nx rfl rfl
theorem e_M_fee_6 : rn Ls xs d 46 6 [some (.inr u), l1] st H = rn Ls xs d 46 7 [some (.inr u), l1] (.inr u :: st) H := rn_nx rfl rfl
theorem e_M_fee_7 : rn Ls xs d 46 7 [l0, l1] (.inr (.inl (some a)) :: st) (S, I, R) = if h_is S a 9 36 then rn Ls xs d 46 10 [l0, l1] (.inr (R a 25) :: st) (S, I, R) else none := rn_bc rfl rfl
theorem e_M_fee_10 : rn Ls xs d 46 10 [l0, l1]  st H = rn Ls xs d 46 11 [l0, l1] (.inl 0 :: st) H := rn_nx rfl rfl
theorem e_M_fee_11 : rn Ls xs d 46 11 [some (.inr u), l1] st H = rn Ls xs d 46 12 [some (.inr u), l1] (.inr u :: st) H := rn_nx rfl rfl
theorem e_M_fee_12 : rn Ls xs d 46 12 [l0, l1] (.inr (.inl (some a)) :: st) (S, I, R) = if h_is S a 9 36 then rn Ls xs d 46 15 [l0, l1] (.inr (R a 0) :: st) (S, I, R) else none := rn_bc rfl rfl
theorem e_M_fee_15 : rn Ls xs d 46 15 [l0, l1]  st H = rn Ls xs d 46 16 [l0, l1] (.inl 4 :: st) H := rn_nx rfl rfl
theorem e_M_fee_16 : rn Ls xs d 46 16 [l0, l1] (.inl i :: .inr (.inl (some a)) :: st) (S, I, R) = if h_ia S a 0 i then rn Ls xs d 46 17 [l0, l1] (.inl (I a i.toNatClampNeg) :: st) (S, I, R) else none := rn_bc rfl rfl
theorem e_M_fee_17 : rn Ls xs d 46 17 [l0, l1] (.inl x :: .inl i :: .inr (.inl (some a)) :: st) (S, I, R) = if h_ia S a 0 i then rn Ls xs d 46 18 [l0, l1] st (S, va_up I a (upd (I a) i.toNatClampNeg x), R) else none := rn_bc rfl rfl
theorem e_M_fee_18 : rn Ls xs d 46 18 [some (.inr u), l1] st H = rn Ls xs d 46 19 [some (.inr u), l1] (.inr u :: st) H := rn_nx rfl rfl
theorem e_M_fee_19 : rn Ls xs d 46 19 [l0, l1] (.inr (.inl (some a)) :: st) (S, I, R) = if h_is S a 9 36 then rn Ls xs d 46 22 [l0, l1] (.inr (R a 25) :: st) (S, I, R) else none := rn_bc rfl rfl
theorem e_M_fee_22 : rn Ls xs d 46 22 [l0, l1]  st H = rn Ls xs d 46 23 [l0, l1] (.inl 1 :: st) H := rn_nx rfl rfl
theorem e_M_fee_23 : rn Ls xs d 46 23 [some (.inr u), l1] st H = rn Ls xs d 46 24 [some (.inr u), l1] (.inr u :: st) H := rn_nx rfl rfl
theorem e_M_fee_24 : rn Ls xs d 46 24 [l0, l1] (.inr (.inl (some a)) :: st) (S, I, R) = if h_is S a 9 36 then rn Ls xs d 46 27 [l0, l1] (.inr (R a 0) :: st) (S, I, R) else none := rn_bc rfl rfl
theorem e_M_fee_27 : rn Ls xs d 46 27 [l0, l1]  st H = rn Ls xs d 46 28 [l0, l1] (.inl 5 :: st) H := rn_nx rfl rfl
theorem e_M_fee_28 : rn Ls xs d 46 28 [l0, l1] (.inl i :: .inr (.inl (some a)) :: st) (S, I, R) = if h_ia S a 0 i then rn Ls xs d 46 29 [l0, l1] (.inl (I a i.toNatClampNeg) :: st) (S, I, R) else none := rn_bc rfl rfl
theorem e_M_fee_29 : rn Ls xs d 46 29 [l0, l1] (.inl x :: .inl i :: .inr (.inl (some a)) :: st) (S, I, R) = if h_ia S a 0 i then rn Ls xs d 46 30 [l0, l1] st (S, va_up I a (upd (I a) i.toNatClampNeg x), R) else none := rn_bc rfl rfl
theorem e_M_fee_30 : rn Ls xs d 46 30 [l0, some (.inl x)] st H = rn Ls xs d 46 31 [l0, some (.inl x)] (.inl x :: st) H := rn_nx rfl rfl
theorem e_M_fee_31 : rn Ls xs d 46 31 [l0, l1] (.inl x :: st) H = if 0 ≤ x then rn Ls xs d 46 43 [l0, l1] st H else rn Ls xs d 46 34 [l0, l1] st H := rn_if (p := fun x => 0 ≤ x) rfl
theorem e_M_fee_34 : rn Ls xs d 46 34 [some (.inr u), l1] st H = rn Ls xs d 46 35 [some (.inr u), l1] (.inr u :: st) H := rn_nx rfl rfl
theorem e_M_fee_35 : rn Ls xs d 46 35 [l0, l1] (.inr (.inl (some a)) :: st) (S, I, R) = if h_is S a 9 36 then rn Ls xs d 46 38 [l0, l1] (.inr (R a 0) :: st) (S, I, R) else none := rn_bc rfl rfl
theorem e_M_fee_38 : rn Ls xs d 46 38 [l0, l1]  st H = rn Ls xs d 46 39 [l0, l1] (.inl 4 :: st) H := rn_nx rfl rfl
theorem e_M_fee_39 : rn Ls xs d 46 39 [l0, l1] (.inl i :: .inr (.inl (some a)) :: st) (S, I, R) = if h_ia S a 0 i then rn Ls xs d 46 40 [l0, l1] (.inl (I a i.toNatClampNeg) :: st) (S, I, R) else none := rn_bc rfl rfl
theorem e_M_fee_40 : rn Ls xs d 46 40 [l0, l1] st H = rn Ls xs d 46 48 [l0, l1] st H := rn_nx rfl rfl
theorem e_M_fee_43 : rn Ls xs d 46 43 [some (.inr u), l1] st H = rn Ls xs d 46 44 [some (.inr u), l1] (.inr u :: st) H := rn_nx rfl rfl
theorem e_M_fee_44 : rn Ls xs d 46 44 [l0, some (.inl x)] st H = rn Ls xs d 46 45 [l0, some (.inl x)] (.inl x :: st) H := rn_nx rfl rfl
theorem e_M_fee_45 : rn Ls xs (d + 1) 46 45 [l0, l1] [v1, (.inr (.inl (some a)))] (S, I, R) = if h_is S a 9 36 then rb Ls xs (d + 1) 46 48 [l0, l1] [] (rn Ls xs d 152 0 [some (.inr (.inl (some a))), some v1, none, none, none, none] [] (S, I, R)) else none := rn_callO rfl rfl (Nat.le_of_ble_eq_true rfl) rfl rfl
theorem e_M_fee_48 : rn Ls xs d 46 48 [l0, l1] [.inl x] H = some (some (.inl x), H) := rn_done rfl rfl
theorem e_W_fine_0 : rn Ls xs d 47 0 [some (.inr u), l1, l2, l3] st H = rn Ls xs d 47 1 [some (.inr u), l1, l2, l3] (.inr u :: st) H := rn_nx rfl rfl
theorem e_W_fine_1 : rn Ls xs d 47 1 [l0, l1, l2, l3] (.inr (.inl (some a)) :: st) (S, I, R) = if h_is S a 8 10 then rn Ls xs d 47 4 [l0, l1, l2, l3] (.inr (R a 0) :: st) (S, I, R) else none := rn_bc rfl rfl
theorem e_W_fine_4 : rn Ls xs d 47 4 [l0, some (.inl x), l2, l3] st H = rn Ls xs d 47 5 [l0, some (.inl x), l2, l3] (.inl x :: st) H := rn_nx rfl rfl
theorem e_W_fine_5 : rn Ls xs (d + 1) 47 5 [l0, l1, l2, l3] [v1, (.inr (.inl (some a)))] (S, I, R) = if h_is S a 3 11 then rb Ls xs (d + 1) 47 8 [l0, l1, l2, l3] [] (rn Ls xs d 100 0 [some (.inr (.inl (some a))), some v1] [] (S, I, R)) else none := rn_callO rfl rfl (Nat.le_of_ble_eq_true rfl) rfl rfl
theorem e_W_fine_8 : rn Ls xs d 47 8 [l0, l1, l2, l3] (.inl x :: st) H = if x ≠ 0 then rn Ls xs d 47 14 [l0, l1, l2, l3] st H else rn Ls xs d 47 11 [l0, l1, l2, l3] st H := rn_if (p := fun x => x ≠ 0) rfl
theorem e_W_fine_11 : rn Ls xs d 47 11 [l0, l1, l2, l3]  st H = rn Ls xs d 47 13 [l0, l1, l2, l3] (.inl (-1000000001) :: st) H := rn_nx rfl rfl
theorem e_W_fine_13 : rn Ls xs d 47 13 [l0, l1, l2, l3] [.inl x] H = some (some (.inl x), H) := rn_done rfl rfl
theorem e_W_fine_14 : rn Ls xs d 47 14 [some (.inr u), l1, l2, l3] st H = rn Ls xs d 47 15 [some (.inr u), l1, l2, l3] (.inr u :: st) H := rn_nx rfl rfl
theorem e_W_fine_15 : rn Ls xs d 47 15 [l0, l1, l2, l3] (.inr (.inl (some a)) :: st) (S, I, R) = if h_is S a 8 10 then rn Ls xs d 47 18 [l0, l1, l2, l3] (.inr (R a 0) :: st) (S, I, R) else none := rn_bc rfl rfl
theorem e_W_fine_18 : rn Ls xs d 47 18 [l0, l1, l2, l3] (.inr (.inl (some a)) :: st) (S, I, R) = if h_is S a 3 11 then rn Ls xs d 47 21 [l0, l1, l2, l3] (.inr (R a 0) :: st) (S, I, R) else none := rn_bc rfl rfl
theorem e_W_fine_21 : rn Ls xs d 47 21 [l0, some (.inl x), l2, l3] st H = rn Ls xs d 47 22 [l0, some (.inl x), l2, l3] (.inl x :: st) H := rn_nx rfl rfl
theorem e_W_fine_22 : rn Ls xs d 47 22 [l0, l1, l2, l3] (.inl i :: .inr (.inl (some a)) :: st) (S, I, R) = if h_ia S a 4 i then (match R a i.toNatClampNeg with | .inl o => rn Ls xs d 47 23 [l0, l1, l2, l3] (.inr (.inl o) :: st) (S, I, R) | .inr _ => none) else none := rn_aald rfl
theorem e_W_fine_23 : rn Ls xs d 47 23 [l0, l1, l2, l3] (.inr u :: st) H = rn Ls xs d 47 24 [l0, l1, some (.inr u), l3] st H := rn_nx rfl rfl
theorem e_W_fine_24 : rn Ls xs d 47 24 [some (.inr u), l1, l2, l3] st H = rn Ls xs d 47 25 [some (.inr u), l1, l2, l3] (.inr u :: st) H := rn_nx rfl rfl
theorem e_W_fine_25 : rn Ls xs d 47 25 [l0, l1, l2, l3] (.inr (.inl (some a)) :: st) (S, I, R) = if h_is S a 8 10 then rn Ls xs d 47 28 [l0, l1, l2, l3] (.inr (R a 0) :: st) (S, I, R) else none := rn_bc rfl rfl
theorem e_W_fine_28 : rn Ls xs d 47 28 [l0, l1, l2, l3]  st H = rn Ls xs d 47 29 [l0, l1, l2, l3] (.inl 2 :: st) H := rn_nx rfl rfl
theorem e_W_fine_29 : rn Ls xs (d + 1) 47 29 [l0, l1, l2, l3] [v1, (.inr (.inl (some a)))] (S, I, R) = if h_is S a 3 11 then rb Ls xs (d + 1) 47 32 [l0, l1, l2, l3] [] (rn Ls xs d 149 0 [some (.inr (.inl (some a))), some v1, none] [] (S, I, R)) else none := rn_callO rfl rfl (Nat.le_of_ble_eq_true rfl) rfl rfl
theorem e_W_fine_32 : rn Ls xs d 47 32 [l0, l1, l2, l3] (.inl x :: st) H = rn Ls xs d 47 33 [l0, l1, l2, some (.inl x)] st H := rn_nx rfl rfl
theorem e_W_fine_33 : rn Ls xs d 47 33 [l0, l1, l2, some (.inl x)] st H = rn Ls xs d 47 34 [l0, l1, l2, some (.inl x)] (.inl x :: st) H := rn_nx rfl rfl
theorem e_W_fine_34 : rn Ls xs d 47 34 [l0, l1, l2, l3] (.inl x :: st) H = if 0 ≤ x then rn Ls xs d 47 44 [l0, l1, l2, l3] st H else rn Ls xs d 47 37 [l0, l1, l2, l3] st H := rn_if (p := fun x => 0 ≤ x) rfl
theorem e_W_fine_37 : rn Ls xs d 47 37 [l0, l1, some (.inr u), l3] st H = rn Ls xs d 47 38 [l0, l1, some (.inr u), l3] (.inr u :: st) H := rn_nx rfl rfl
theorem e_W_fine_38 : rn Ls xs d 47 38 [l0, l1, l2, l3] (.inr (.inl (some a)) :: st) (S, I, R) = if h_is S a 7 6 then rn Ls xs d 47 41 [l0, l1, l2, l3] (.inl (I a 4) :: st) (S, I, R) else none := rn_bc rfl rfl
theorem e_W_fine_41 : rn Ls xs d 47 41 [l0, l1, l2, l3] st H = rn Ls xs d 47 72 [l0, l1, l2, l3] st H := rn_nx rfl rfl
theorem e_W_fine_44 : rn Ls xs d 47 44 [some (.inr u), l1, l2, l3] st H = rn Ls xs d 47 45 [some (.inr u), l1, l2, l3] (.inr u :: st) H := rn_nx rfl rfl
theorem e_W_fine_45 : rn Ls xs d 47 45 [l0, l1, l2, l3] (.inr (.inl (some a)) :: st) (S, I, R) = if h_is S a 8 10 then rn Ls xs d 47 48 [l0, l1, l2, l3] (.inr (R a 0) :: st) (S, I, R) else none := rn_bc rfl rfl
theorem e_W_fine_48 : rn Ls xs d 47 48 [l0, l1, l2, l3] (.inr (.inl (some a)) :: st) (S, I, R) = if h_is S a 3 11 then rn Ls xs d 47 51 [l0, l1, l2, l3] (.inr (R a 1) :: st) (S, I, R) else none := rn_bc rfl rfl
theorem e_W_fine_51 : rn Ls xs d 47 51 [l0, l1, l2, some (.inl x)] st H = rn Ls xs d 47 52 [l0, l1, l2, some (.inl x)] (.inl x :: st) H := rn_nx rfl rfl
theorem e_W_fine_52 : rn Ls xs d 47 52 [l0, l1, l2, l3] (.inl i :: .inr (.inl (some a)) :: st) (S, I, R) = if h_ia S a 5 i then (match R a i.toNatClampNeg with | .inl o => rn Ls xs d 47 53 [l0, l1, l2, l3] (.inr (.inl o) :: st) (S, I, R) | .inr _ => none) else none := rn_aald rfl
theorem e_W_fine_53 : rn Ls xs d 47 53 [l0, l1, some (.inr u), l3] st H = rn Ls xs d 47 54 [l0, l1, some (.inr u), l3] (.inr u :: st) H := rn_nx rfl rfl
theorem e_W_fine_54 : rn Ls xs d 47 54 [l0, l1, l2, l3] (.inr (.inl (some a)) :: st) (S, I, R) = if h_is S a 7 6 then rn Ls xs d 47 57 [l0, l1, l2, l3] (.inl (I a 4) :: st) (S, I, R) else none := rn_bc rfl rfl
theorem e_W_fine_57 : rn Ls xs d 47 57 [l0, l1, some (.inr u), l3] st H = rn Ls xs d 47 58 [l0, l1, some (.inr u), l3] (.inr u :: st) H := rn_nx rfl rfl
theorem e_W_fine_58 : rn Ls xs d 47 58 [l0, l1, l2, l3] (.inr (.inl (some a)) :: st) (S, I, R) = if h_is S a 7 6 then rn Ls xs d 47 61 [l0, l1, l2, l3] (.inl (I a 2) :: st) (S, I, R) else none := rn_bc rfl rfl
theorem e_W_fine_61 : rn Ls xs d 47 61 [l0, l1, l2, l3]  st H = rn Ls xs d 47 62 [l0, l1, l2, l3] (.inl 0 :: st) H := rn_nx rfl rfl
theorem e_W_fine_62 : rn Ls xs d 47 62 [some (.inr u), l1, l2, l3] st H = rn Ls xs d 47 63 [some (.inr u), l1, l2, l3] (.inr u :: st) H := rn_nx rfl rfl
theorem e_W_fine_63 : rn Ls xs d 47 63 [l0, l1, l2, l3] (.inr (.inl (some a)) :: st) (S, I, R) = if h_is S a 8 10 then rn Ls xs d 47 66 [l0, l1, l2, l3] (.inr (R a 0) :: st) (S, I, R) else none := rn_bc rfl rfl
theorem e_W_fine_66 : rn Ls xs d 47 66 [l0, l1, l2, l3] (.inr (.inl (some a)) :: st) (S, I, R) = if h_is S a 3 11 then rn Ls xs d 47 69 [l0, l1, l2, l3] (.inr (R a 2) :: st) (S, I, R) else none := rn_bc rfl rfl
theorem e_W_fine_69 : rn Ls xs (d + 1) 47 69 [l0, l1, l2, l3] [v4, v3, v2, v1, (.inr (.inl (some a)))] (S, I, R) = if h_is S a 6 3 then rb Ls xs (d + 1) 47 72 [l0, l1, l2, l3] [] (rn Ls xs d 150 0 [some (.inr (.inl (some a))), some v1, some v2, some v3, some v4, none, none, none] [] (S, I, R)) else none := rn_callO rfl rfl (Nat.le_of_ble_eq_true rfl) rfl rfl
theorem e_W_fine_72 : rn Ls xs d 47 72 [l0, l1, l2, l3] [.inl x] H = some (some (.inl x), H) := rn_done rfl rfl
end EQ

section EQ
variable {Ls : Nat} {xs : Nat → Int32} {d : Nat} {l0 l1 l2 l3 l4 l5 l6 l7 l8 l9 l10 l11 l12 : Option mV} {st : List mV} {H : mH} {S : mS} {I : mI} {R : mR} {x y z i : Int32} {a b : Nat} {k : Nat} {v w : mV} {u : mr} {v0 v1 v2 v3 v4 v5 v6 v7 v8 v9 v10 v11 : mV}
theorem e_M_fine_0 : rn Ls xs d 48 0 [some (.inr u), l1, l2] st H = rn Ls xs d 48 1 [some (.inr u), l1, l2] (.inr u :: st) H := rn_nx rfl rfl
theorem e_M_fine_1 : rn Ls xs d 48 1 [l0, some (.inl x), l2] st H = rn Ls xs d 48 2 [l0, some (.inl x), l2] (.inl x :: st) H := rn_nx rfl rfl
theorem e_M_fine_2 : rn Ls xs (d + 1) 48 2 [l0, l1, l2] [v1, (.inr (.inl (some a)))] (S, I, R) = if h_is S a 9 36 then rb Ls xs (d + 1) 48 5 [l0, l1, l2] [] (rn Ls xs d 104 0 [some (.inr (.inl (some a))), some v1] [] (S, I, R)) else none := rn_callO rfl rfl (Nat.le_of_ble_eq_true rfl) rfl rfl
theorem e_M_fine_5 : rn Ls xs d 48 5 [l0, l1, l2] (.inl x :: st) H = if x ≠ 0 then rn Ls xs d 48 11 [l0, l1, l2] st H else rn Ls xs d 48 8 [l0, l1, l2] st H := rn_if (p := fun x => x ≠ 0) rfl
theorem e_M_fine_8 : rn Ls xs d 48 8 [l0, l1, l2]  st H = rn Ls xs d 48 10 [l0, l1, l2] (.inl (-1000000001) :: st) H := rn_nx rfl rfl
theorem e_M_fine_10 : rn Ls xs d 48 10 [l0, l1, l2] [.inl x] H = some (some (.inl x), H) := rn_done rfl rfl
theorem e_M_fine_11 : rn Ls xs d 48 11 [some (.inr u), l1, l2] st H = rn Ls xs d 48 12 [some (.inr u), l1, l2] (.inr u :: st) H := rn_nx rfl rfl
theorem e_M_fine_12 : rn Ls xs d 48 12 [l0, l1, l2]  st H = rn Ls xs d 48 13 [l0, l1, l2] (.inl 2 :: st) H := rn_nx rfl rfl
theorem e_M_fine_13 : rn Ls xs (d + 1) 48 13 [l0, l1, l2] [v1, (.inr (.inl (some a)))] (S, I, R) = if h_is S a 9 36 then rb Ls xs (d + 1) 48 16 [l0, l1, l2] [] (rn Ls xs d 151 0 [some (.inr (.inl (some a))), some v1, none] [] (S, I, R)) else none := rn_callO rfl rfl (Nat.le_of_ble_eq_true rfl) rfl rfl
theorem e_M_fine_16 : rn Ls xs d 48 16 [l0, l1, l2] (.inl x :: st) H = rn Ls xs d 48 17 [l0, l1, some (.inl x)] st H := rn_nx rfl rfl
theorem e_M_fine_17 : rn Ls xs d 48 17 [some (.inr u), l1, l2] st H = rn Ls xs d 48 18 [some (.inr u), l1, l2] (.inr u :: st) H := rn_nx rfl rfl
theorem e_M_fine_18 : rn Ls xs d 48 18 [l0, l1, l2] (.inr (.inl (some a)) :: st) (S, I, R) = if h_is S a 9 36 then rn Ls xs d 48 21 [l0, l1, l2] (.inr (R a 25) :: st) (S, I, R) else none := rn_bc rfl rfl
theorem e_M_fine_21 : rn Ls xs d 48 21 [l0, l1, l2]  st H = rn Ls xs d 48 22 [l0, l1, l2] (.inl 0 :: st) H := rn_nx rfl rfl
theorem e_M_fine_22 : rn Ls xs d 48 22 [some (.inr u), l1, l2] st H = rn Ls xs d 48 23 [some (.inr u), l1, l2] (.inr u :: st) H := rn_nx rfl rfl
theorem e_M_fine_23 : rn Ls xs d 48 23 [l0, some (.inl x), l2] st H = rn Ls xs d 48 24 [l0, some (.inl x), l2] (.inl x :: st) H := rn_nx rfl rfl
theorem e_M_fine_24 : rn Ls xs d 48 24 [l0, l1, l2]  st H = rn Ls xs d 48 25 [l0, l1, l2] (.inl 4 :: st) H := rn_nx rfl rfl
theorem e_M_fine_25 : rn Ls xs (d + 1) 48 25 [l0, l1, l2] [v2, v1, (.inr (.inl (some a))), v3, v4] (S, I, R) = if h_is S a 9 36 then rb Ls xs (d + 1) 48 28 [l0, l1, l2] [v3, v4] (rn Ls xs d 105 0 [some (.inr (.inl (some a))), some v1, some v2] [] (S, I, R)) else none := rn_callO rfl rfl (Nat.le_of_ble_eq_true rfl) rfl rfl
theorem e_M_fine_28 : rn Ls xs d 48 28 [l0, l1, l2] (.inl x :: .inl i :: .inr (.inl (some a)) :: st) (S, I, R) = if h_ia S a 0 i then rn Ls xs d 48 29 [l0, l1, l2] st (S, va_up I a (upd (I a) i.toNatClampNeg x), R) else none := rn_bc rfl rfl
theorem e_M_fine_29 : rn Ls xs d 48 29 [some (.inr u), l1, l2] st H = rn Ls xs d 48 30 [some (.inr u), l1, l2] (.inr u :: st) H := rn_nx rfl rfl
theorem e_M_fine_30 : rn Ls xs d 48 30 [l0, l1, l2] (.inr (.inl (some a)) :: st) (S, I, R) = if h_is S a 9 36 then rn Ls xs d 48 33 [l0, l1, l2] (.inr (R a 25) :: st) (S, I, R) else none := rn_bc rfl rfl
theorem e_M_fine_33 : rn Ls xs d 48 33 [l0, l1, l2]  st H = rn Ls xs d 48 34 [l0, l1, l2] (.inl 1 :: st) H := rn_nx rfl rfl
theorem e_M_fine_34 : rn Ls xs d 48 34 [some (.inr u), l1, l2] st H = rn Ls xs d 48 35 [some (.inr u), l1, l2] (.inr u :: st) H := rn_nx rfl rfl
theorem e_M_fine_35 : rn Ls xs d 48 35 [l0, some (.inl x), l2] st H = rn Ls xs d 48 36 [l0, some (.inl x), l2] (.inl x :: st) H := rn_nx rfl rfl
theorem e_M_fine_36 : rn Ls xs d 48 36 [l0, l1, l2]  st H = rn Ls xs d 48 37 [l0, l1, l2] (.inl 2 :: st) H := rn_nx rfl rfl
theorem e_M_fine_37 : rn Ls xs (d + 1) 48 37 [l0, l1, l2] [v2, v1, (.inr (.inl (some a))), v3, v4] (S, I, R) = if h_is S a 9 36 then rb Ls xs (d + 1) 48 40 [l0, l1, l2] [v3, v4] (rn Ls xs d 105 0 [some (.inr (.inl (some a))), some v1, some v2] [] (S, I, R)) else none := rn_callO rfl rfl (Nat.le_of_ble_eq_true rfl) rfl rfl
theorem e_M_fine_40 : rn Ls xs d 48 40 [l0, l1, l2] (.inl x :: .inl i :: .inr (.inl (some a)) :: st) (S, I, R) = if h_ia S a 0 i then rn Ls xs d 48 41 [l0, l1, l2] st (S, va_up I a (upd (I a) i.toNatClampNeg x), R) else none := rn_bc rfl rfl
theorem e_M_fine_41 : rn Ls xs d 48 41 [l0, l1, some (.inl x)] st H = rn Ls xs d 48 42 [l0, l1, some (.inl x)] (.inl x :: st) H := rn_nx rfl rfl
theorem e_M_fine_42 : rn Ls xs d 48 42 [l0, l1, l2] (.inl x :: st) H = if 0 ≤ x then rn Ls xs d 48 54 [l0, l1, l2] st H else rn Ls xs d 48 45 [l0, l1, l2] st H := rn_if (p := fun x => 0 ≤ x) rfl
theorem e_M_fine_45 : rn Ls xs d 48 45 [some (.inr u), l1, l2] st H = rn Ls xs d 48 46 [some (.inr u), l1, l2] (.inr u :: st) H := rn_nx rfl rfl
theorem e_M_fine_46 : rn Ls xs d 48 46 [l0, some (.inl x), l2] st H = rn Ls xs d 48 47 [l0, some (.inl x), l2] (.inl x :: st) H := rn_nx rfl rfl
theorem e_M_fine_47 : rn Ls xs d 48 47 [l0, l1, l2]  st H = rn Ls xs d 48 48 [l0, l1, l2] (.inl 4 :: st) H := rn_nx rfl rfl
theorem e_M_fine_48 : rn Ls xs (d + 1) 48 48 [l0, l1, l2] [v2, v1, (.inr (.inl (some a)))] (S, I, R) = if h_is S a 9 36 then rb Ls xs (d + 1) 48 51 [l0, l1, l2] [] (rn Ls xs d 105 0 [some (.inr (.inl (some a))), some v1, some v2] [] (S, I, R)) else none := rn_callO rfl rfl (Nat.le_of_ble_eq_true rfl) rfl rfl
theorem e_M_fine_51 : rn Ls xs d 48 51 [l0, l1, l2] st H = rn Ls xs d 48 59 [l0, l1, l2] st H := rn_nx rfl rfl
theorem e_M_fine_54 : rn Ls xs d 48 54 [some (.inr u), l1, l2] st H = rn Ls xs d 48 55 [some (.inr u), l1, l2] (.inr u :: st) H := rn_nx rfl rfl
theorem e_M_fine_55 : rn Ls xs d 48 55 [l0, l1, some (.inl x)] st H = rn Ls xs d 48 56 [l0, l1, some (.inl x)] (.inl x :: st) H := rn_nx rfl rfl
theorem e_M_fine_56 : rn Ls xs (d + 1) 48 56 [l0, l1, l2] [v1, (.inr (.inl (some a)))] (S, I, R) = if h_is S a 9 36 then rb Ls xs (d + 1) 48 59 [l0, l1, l2] [] (rn Ls xs d 152 0 [some (.inr (.inl (some a))), some v1, none, none, none, none] [] (S, I, R)) else none := rn_callO rfl rfl (Nat.le_of_ble_eq_true rfl) rfl rfl
theorem e_M_fine_59 : rn Ls xs d 48 59 [l0, l1, l2] [.inl x] H = some (some (.inl x), H) := rn_done rfl rfl
theorem e_W_feed_0 : rn Ls xs d 49 0 [some (.inr u), l1, l2, l3] st H = rn Ls xs d 49 1 [some (.inr u), l1, l2, l3] (.inr u :: st) H := rn_nx rfl rfl
theorem e_W_feed_1 : rn Ls xs d 49 1 [l0, l1, l2, l3] (.inr (.inl (some a)) :: st) (S, I, R) = if h_is S a 8 10 then rn Ls xs d 49 4 [l0, l1, l2, l3] (.inr (R a 3) :: st) (S, I, R) else none := rn_bc rfl rfl
theorem e_W_feed_4 : rn Ls xs d 49 4 [l0, l1, l2, l3]  st H = rn Ls xs d 49 6 [l0, l1, l2, l3] (.inl 12 :: st) H := rn_nx rfl rfl
theorem e_W_feed_6 : rn Ls xs (d + 1) 49 6 [l0, l1, l2, l3] [v1, (.inr (.inl (some a)))] (S, I, R) = if h_is S a 5 2 then rb Ls xs (d + 1) 49 9 [l0, l1, l2, l3] [] (rn Ls xs d 153 0 [some (.inr (.inl (some a))), some v1] [] (S, I, R)) else none := rn_callO rfl rfl (Nat.le_of_ble_eq_true rfl) rfl rfl
theorem e_W_feed_9 : rn Ls xs d 49 9 [l0, l1, l2, l3] (.inl x :: st) H = if x ≠ 0 then rn Ls xs d 49 15 [l0, l1, l2, l3] st H else rn Ls xs d 49 12 [l0, l1, l2, l3] st H := rn_if (p := fun x => x ≠ 0) rfl
theorem e_W_feed_12 : rn Ls xs d 49 12 [l0, l1, l2, l3]  st H = rn Ls xs d 49 14 [l0, l1, l2, l3] (.inl (-1000000003) :: st) H := rn_nx rfl rfl
theorem e_W_feed_14 : rn Ls xs d 49 14 [l0, l1, l2, l3] [.inl x] H = some (some (.inl x), H) := rn_done rfl rfl
theorem e_W_feed_15 : rn Ls xs d 49 15 [some (.inr u), l1, l2, l3] st H = rn Ls xs d 49 16 [some (.inr u), l1, l2, l3] (.inr u :: st) H := rn_nx rfl rfl
theorem e_W_feed_16 : rn Ls xs d 49 16 [l0, l1, l2, l3] (.inr (.inl (some a)) :: st) (S, I, R) = if h_is S a 8 10 then rn Ls xs d 49 19 [l0, l1, l2, l3] (.inr (R a 3) :: st) (S, I, R) else none := rn_bc rfl rfl
theorem e_W_feed_19 : rn Ls xs d 49 19 [l0, some (.inl x), l2, l3] st H = rn Ls xs d 49 20 [l0, some (.inl x), l2, l3] (.inl x :: st) H := rn_nx rfl rfl
theorem e_W_feed_20 : rn Ls xs (d + 1) 49 20 [l0, l1, l2, l3] [v1, (.inr (.inl (some a)))] (S, I, R) = if h_is S a 5 2 then rb Ls xs (d + 1) 49 23 [l0, l1, l2, l3] [] (rn Ls xs d 154 0 [some (.inr (.inl (some a))), some v1, none] [] (S, I, R)) else none := rn_callO rfl rfl (Nat.le_of_ble_eq_true rfl) rfl rfl
theorem e_W_feed_23 : rn Ls xs d 49 23 [some (.inr u), l1, l2, l3] st H = rn Ls xs d 49 24 [some (.inr u), l1, l2, l3] (.inr u :: st) H := rn_nx rfl rfl
theorem e_W_feed_24 : rn Ls xs d 49 24 [l0, l1, l2, l3] (.inr (.inl (some a)) :: st) (S, I, R) = if h_is S a 8 10 then rn Ls xs d 49 27 [l0, l1, l2, l3] (.inr (R a 3) :: st) (S, I, R) else none := rn_bc rfl rfl
theorem e_W_feed_27 : rn Ls xs d 49 27 [l0, l1, some (.inl x), l3] st H = rn Ls xs d 49 28 [l0, l1, some (.inl x), l3] (.inl x :: st) H := rn_nx rfl rfl
theorem e_W_feed_28 : rn Ls xs (d + 1) 49 28 [l0, l1, l2, l3] [v1, (.inr (.inl (some a)))] (S, I, R) = if h_is S a 5 2 then rb Ls xs (d + 1) 49 31 [l0, l1, l2, l3] [] (rn Ls xs d 154 0 [some (.inr (.inl (some a))), some v1, none] [] (S, I, R)) else none := rn_callO rfl rfl (Nat.le_of_ble_eq_true rfl) rfl rfl
theorem e_W_feed_31 : rn Ls xs d 49 31 [some (.inr u), l1, l2, l3] st H = rn Ls xs d 49 32 [some (.inr u), l1, l2, l3] (.inr u :: st) H := rn_nx rfl rfl
theorem e_W_feed_32 : rn Ls xs d 49 32 [l0, l1, l2, l3] (.inr (.inl (some a)) :: st) (S, I, R) = if h_is S a 8 10 then rn Ls xs d 49 35 [l0, l1, l2, l3] (.inr (R a 3) :: st) (S, I, R) else none := rn_bc rfl rfl
theorem e_W_feed_35 : rn Ls xs d 49 35 [l0, l1, l2, some (.inl x)] st H = rn Ls xs d 49 36 [l0, l1, l2, some (.inl x)] (.inl x :: st) H := rn_nx rfl rfl
theorem e_W_feed_36 : rn Ls xs (d + 1) 49 36 [l0, l1, l2, l3] [v1, (.inr (.inl (some a)))] (S, I, R) = if h_is S a 5 2 then rb Ls xs (d + 1) 49 39 [l0, l1, l2, l3] [] (rn Ls xs d 154 0 [some (.inr (.inl (some a))), some v1, none] [] (S, I, R)) else none := rn_callO rfl rfl (Nat.le_of_ble_eq_true rfl) rfl rfl
theorem e_W_feed_39 : rn Ls xs d 49 39 [some (.inr u), l1, l2, l3] st H = rn Ls xs d 49 40 [some (.inr u), l1, l2, l3] (.inr u :: st) H := rn_nx rfl rfl
theorem e_W_feed_40 : rn Ls xs d 49 40 [l0, l1, l2, l3] (.inr (.inl (some a)) :: st) (S, I, R) = if h_is S a 8 10 then rn Ls xs d 49 43 [l0, l1, l2, l3] (.inr (R a 3) :: st) (S, I, R) else none := rn_bc rfl rfl
theorem e_W_feed_43 : rn Ls xs d 49 43 [l0, l1, l2, l3] (.inr (.inl (some a)) :: st) (S, I, R) = if h_is S a 5 2 then rn Ls xs d 49 46 [l0, l1, l2, l3] (.inl (I a 1) :: st) (S, I, R) else none := rn_bc rfl rfl
theorem e_W_feed_46 : rn Ls xs d 49 46 [l0, l1, l2, l3] [.inl x] H = some (some (.inl x), H) := rn_done rfl rfl
theorem e_M_feed_0 : rn Ls xs d 50 0 [some (.inr u), l1, l2, l3, l4, l5] st H = rn Ls xs d 50 1 [some (.inr u), l1, l2, l3, l4, l5] (.inr u :: st) H := rn_nx rfl rfl
theorem e_M_feed_1 : rn Ls xs d 50 1 [l0, l1, l2, l3, l4, l5] (.inr (.inl (some a)) :: st) (S, I, R) = if h_is S a 9 36 then rn Ls xs d 50 4 [l0, l1, l2, l3, l4, l5] (.inl (I a 9) :: st) (S, I, R) else none := rn_bc rfl rfl
theorem e_M_feed_4 : rn Ls xs d 50 4 [l0, l1, l2, l3, l4, l5]  st H = rn Ls xs d 50 6 [l0, l1, l2, l3, l4, l5] (.inl 12 :: st) H := rn_nx rfl rfl
theorem e_M_feed_6 : rn Ls xs d 50 6 [l0, l1, l2, l3, l4, l5] (.inl y :: .inl x :: st) H = rn Ls xs d 50 7 [l0, l1, l2, l3, l4, l5] (.inl (x + y) :: st) H := rn_nx rfl rfl
theorem e_M_feed_7 : rn Ls xs d 50 7 [l0, l1, l2, l3, l4, l5]  st H = rn Ls xs d 50 9 [l0, l1, l2, l3, l4, l5] (.inl 96 :: st) H := rn_nx rfl rfl
theorem e_M_feed_9 : rn Ls xs d 50 9 [l0, l1, l2, l3, l4, l5] (.inl y :: .inl x :: st) H = if x ≤ y then rn Ls xs d 50 15 [l0, l1, l2, l3, l4, l5] st H else rn Ls xs d 50 12 [l0, l1, l2, l3, l4, l5] st H := rn_cmp (p := fun x y => x ≤ y) rfl
theorem e_M_feed_12 : rn Ls xs d 50 12 [l0, l1, l2, l3, l4, l5]  st H = rn Ls xs d 50 14 [l0, l1, l2, l3, l4, l5] (.inl (-1000000003) :: st) H := rn_nx rfl rfl
theorem e_M_feed_14 : rn Ls xs d 50 14 [l0, l1, l2, l3, l4, l5] [.inl x] H = some (some (.inl x), H) := rn_done rfl rfl
theorem e_M_feed_15 : rn Ls xs d 50 15 [l0, l1, l2, l3, l4, l5]  st H = rn Ls xs d 50 16 [l0, l1, l2, l3, l4, l5] (.inl 0 :: st) H := rn_nx rfl rfl
theorem e_M_feed_16 : rn Ls xs d 50 16 [l0, l1, l2, l3, l4, l5] (.inl x :: st) H = rn Ls xs d 50 18 [l0, l1, l2, l3, some (.inl x), l5] st H := rn_nx rfl rfl
theorem e_M_feed_18 : rn Ls xs d 50 18 [l0, l1, l2, l3, some (.inl x), l5] st H = rn Ls xs d 50 20 [l0, l1, l2, l3, some (.inl x), l5] (.inl x :: st) H := rn_nx rfl rfl
theorem e_M_feed_20 : rn Ls xs d 50 20 [l0, l1, l2, l3, l4, l5]  st H = rn Ls xs d 50 22 [l0, l1, l2, l3, l4, l5] (.inl 12 :: st) H := rn_nx rfl rfl
theorem e_M_feed_22 : rn Ls xs d 50 22 [l0, l1, l2, l3, l4, l5] (.inl y :: .inl x :: st) H = if y ≤ x then rn Ls xs d 50 84 [l0, l1, l2, l3, l4, l5] st H else rn Ls xs d 50 25 [l0, l1, l2, l3, l4, l5] st H := rn_cmp (p := fun x y => y ≤ x) rfl
theorem e_M_feed_25 : rn Ls xs d 50 25 [l0, l1, l2, l3, some (.inl x), l5] st H = rn Ls xs d 50 27 [l0, l1, l2, l3, some (.inl x), l5] (.inl x :: st) H := rn_nx rfl rfl
theorem e_M_feed_27 : rn Ls xs d 50 27 [l0, l1, l2, l3, l4, l5]  st H = rn Ls xs d 50 28 [l0, l1, l2, l3, l4, l5] (.inl 4 :: st) H := rn_nx rfl rfl
theorem e_M_feed_28 : rn Ls xs d 50 28 [l0, l1, l2, l3, l4, l5] (.inl y :: .inl x :: st) H = if y ≤ x then rn Ls xs d 50 35 [l0, l1, l2, l3, l4, l5] st H else rn Ls xs d 50 31 [l0, l1, l2, l3, l4, l5] st H := rn_cmp (p := fun x y => y ≤ x) rfl
theorem e_M_feed_31 : rn Ls xs d 50 31 [l0, some (.inl x), l2, l3, l4, l5] st H = rn Ls xs d 50 32 [l0, some (.inl x), l2, l3, l4, l5] (.inl x :: st) H := rn_nx rfl rfl
theorem e_M_feed_32 : rn Ls xs d 50 32 [l0, l1, l2, l3, l4, l5] st H = rn Ls xs d 50 47 [l0, l1, l2, l3, l4, l5] st H := rn_nx rfl rfl
theorem e_M_feed_35 : rn Ls xs d 50 35 [l0, l1, l2, l3, some (.inl x), l5] st H = rn Ls xs d 50 37 [l0, l1, l2, l3, some (.inl x), l5] (.inl x :: st) H := rn_nx rfl rfl
theorem e_M_feed_37 : rn Ls xs d 50 37 [l0, l1, l2, l3, l4, l5]  st H = rn Ls xs d 50 39 [l0, l1, l2, l3, l4, l5] (.inl 8 :: st) H := rn_nx rfl rfl
theorem e_M_feed_39 : rn Ls xs d 50 39 [l0, l1, l2, l3, l4, l5] (.inl y :: .inl x :: st) H = if y ≤ x then rn Ls xs d 50 46 [l0, l1, l2, l3, l4, l5] st H else rn Ls xs d 50 42 [l0, l1, l2, l3, l4, l5] st H := rn_cmp (p := fun x y => y ≤ x) rfl
theorem e_M_feed_42 : rn Ls xs d 50 42 [l0, l1, some (.inl x), l3, l4, l5] st H = rn Ls xs d 50 43 [l0, l1, some (.inl x), l3, l4, l5] (.inl x :: st) H := rn_nx rfl rfl
theorem e_M_feed_43 : rn Ls xs d 50 43 [l0, l1, l2, l3, l4, l5] st H = rn Ls xs d 50 47 [l0, l1, l2, l3, l4, l5] st H := rn_nx rfl rfl
theorem e_M_feed_46 : rn Ls xs d 50 46 [l0, l1, l2, some (.inl x), l4, l5] st H = rn Ls xs d 50 47 [l0, l1, l2, some (.inl x), l4, l5] (.inl x :: st) H := rn_nx rfl rfl
theorem e_M_feed_47 : rn Ls xs d 50 47 [l0, l1, l2, l3, l4, l5] (.inl x :: st) H = rn Ls xs d 50 49 [l0, l1, l2, l3, l4, some (.inl x)] st H := rn_nx rfl rfl
theorem e_M_feed_49 : rn Ls xs d 50 49 [some (.inr u), l1, l2, l3, l4, l5] st H = rn Ls xs d 50 50 [some (.inr u), l1, l2, l3, l4, l5] (.inr u :: st) H := rn_nx rfl rfl
theorem e_M_feed_50 : rn Ls xs d 50 50 [l0, l1, l2, l3, l4, l5] (.inr (.inl (some a)) :: st) (S, I, R) = if h_is S a 9 36 then rn Ls xs d 50 53 [l0, l1, l2, l3, l4, l5] (.inr (R a 8) :: st) (S, I, R) else none := rn_bc rfl rfl
theorem e_M_feed_53 : rn Ls xs d 50 53 [some (.inr u), l1, l2, l3, l4, l5] st H = rn Ls xs d 50 54 [some (.inr u), l1, l2, l3, l4, l5] (.inr u :: st) H := rn_nx rfl rfl
theorem e_M_feed_54 : rn Ls xs d 50 54 [l0, l1, l2, l3, l4, l5] (.inr (.inl (some a)) :: st) (S, I, R) = if h_is S a 9 36 then rn Ls xs d 50 57 [l0, l1, l2, l3, l4, l5] (.inl (I a 9) :: st) (S, I, R) else none := rn_bc rfl rfl
theorem e_M_feed_57 : rn Ls xs d 50 57 [l0, l1, l2, l3, some (.inl x), l5] st H = rn Ls xs d 50 59 [l0, l1, l2, l3, some (.inl x), l5] (.inl x :: st) H := rn_nx rfl rfl
theorem e_M_feed_59 : rn Ls xs d 50 59 [l0, l1, l2, l3, l4, l5] (.inl y :: .inl x :: st) H = rn Ls xs d 50 60 [l0, l1, l2, l3, l4, l5] (.inl (x + y) :: st) H := rn_nx rfl rfl
theorem e_M_feed_60 : rn Ls xs d 50 60 [l0, l1, l2, l3, l4, some (.inl x)] st H = rn Ls xs d 50 62 [l0, l1, l2, l3, l4, some (.inl x)] (.inl x :: st) H := rn_nx rfl rfl
theorem e_M_feed_62 : rn Ls xs d 50 62 [l0, l1, l2, l3, l4, l5]  st H = rn Ls xs d 50 64 [l0, l1, l2, l3, l4, l5] (.inl 24 :: st) H := rn_nx rfl rfl
theorem e_M_feed_64 : rn Ls xs d 50 64 [l0, l1, l2, l3, l4, l5]  st H = rn Ls xs d 50 66 [l0, l1, l2, l3, l4, l5] (.inl 8 :: st) H := rn_nx rfl rfl
theorem e_M_feed_66 : rn Ls xs d 50 66 [l0, l1, l2, l3, some (.inl x), l5] st H = rn Ls xs d 50 68 [l0, l1, l2, l3, some (.inl x), l5] (.inl x :: st) H := rn_nx rfl rfl
theorem e_M_feed_68 : rn Ls xs d 50 68 [l0, l1, l2, l3, l4, l5]  st H = rn Ls xs d 50 69 [l0, l1, l2, l3, l4, l5] (.inl 4 :: st) H := rn_nx rfl rfl
theorem e_M_feed_69 : rn Ls xs d 50 69 [l0, l1, l2, l3, l4, l5] (.inl y :: .inl x :: st) H = if y = 0 then none else rn Ls xs d 50 70 [l0, l1, l2, l3, l4, l5] (.inl (x - x / y * y) :: st) H := rn_div (f := fun x y => x - x / y * y) rfl
theorem e_M_feed_70 : rn Ls xs d 50 70 [l0, l1, l2, l3, l4, l5] (.inl y :: .inl x :: st) H = rn Ls xs d 50 71 [l0, l1, l2, l3, l4, l5] (.inl (x * y) :: st) H := rn_nx rfl rfl
theorem e_M_feed_71 : rn Ls xs d 50 71 [l0, l1, l2, l3, l4, l5] (.inl y :: .inl x :: st) H = rn Ls xs d 50 72 [l0, l1, l2, l3, l4, l5] (.inl (x - y) :: st) H := rn_nx rfl rfl
theorem e_M_feed_72 : rn Ls xs d 50 72 [l0, l1, l2, l3, l4, l5] (.inl y :: .inl x :: st) H = rn Ls xs d 50 73 [l0, l1, l2, l3, l4, l5] (.inl (x >>> (y &&& 31)) :: st) H := rn_nx rfl rfl
theorem e_M_feed_73 : rn Ls xs d 50 73 [l0, l1, l2, l3, l4, l5]  st H = rn Ls xs d 50 76 [l0, l1, l2, l3, l4, l5] (.inl 255 :: st) H := rn_nx rfl rfl
theorem e_M_feed_76 : rn Ls xs d 50 76 [l0, l1, l2, l3, l4, l5] (.inl y :: .inl x :: st) H = rn Ls xs d 50 77 [l0, l1, l2, l3, l4, l5] (.inl (x &&& y) :: st) H := rn_nx rfl rfl
theorem e_M_feed_77 : rn Ls xs d 50 77 [l0, l1, l2, l3, l4, l5] (.inl x :: .inl i :: .inr (.inl (some a)) :: st) (S, I, R) = if h_ia S a 0 i then rn Ls xs d 50 78 [l0, l1, l2, l3, l4, l5] st (S, va_up I a (upd (I a) i.toNatClampNeg x), R) else none := rn_bc rfl rfl
theorem e_M_feed_78 : rn Ls xs d 50 78 [l0, l1, l2, l3, some (.inl x), l5] st H = rn Ls xs d 50 81 [l0, l1, l2, l3, some (.inl (x + 1)), l5] st H := rn_nx rfl rfl
theorem e_M_feed_81 : rn Ls xs d 50 81 [l0, l1, l2, l3, l4, l5] st H = rn Ls xs d 50 18 [l0, l1, l2, l3, l4, l5] st H := rn_nx rfl rfl
theorem e_M_feed_84 : rn Ls xs d 50 84 [some (.inr u), l1, l2, l3, l4, l5] st H = rn Ls xs d 50 85 [some (.inr u), l1, l2, l3, l4, l5] (.inr u :: st) H := rn_nx rfl rfl
theorem e_M_feed_85 : rn Ls xs d 50 85 [l0, l1, l2, l3, l4, l5] (v :: st) H = rn Ls xs d 50 86 [l0, l1, l2, l3, l4, l5] (v :: v :: st) H := rn_nx rfl rfl
theorem e_M_feed_86 : rn Ls xs d 50 86 [l0, l1, l2, l3, l4, l5] (.inr (.inl (some a)) :: st) (S, I, R) = if h_is S a 9 36 then rn Ls xs d 50 89 [l0, l1, l2, l3, l4, l5] (.inl (I a 9) :: st) (S, I, R) else none := rn_bc rfl rfl
theorem e_M_feed_89 : rn Ls xs d 50 89 [l0, l1, l2, l3, l4, l5]  st H = rn Ls xs d 50 91 [l0, l1, l2, l3, l4, l5] (.inl 12 :: st) H := rn_nx rfl rfl
theorem e_M_feed_91 : rn Ls xs d 50 91 [l0, l1, l2, l3, l4, l5] (.inl y :: .inl x :: st) H = rn Ls xs d 50 92 [l0, l1, l2, l3, l4, l5] (.inl (x + y) :: st) H := rn_nx rfl rfl
theorem e_M_feed_92 : rn Ls xs d 50 92 [l0, l1, l2, l3, l4, l5] (.inl x :: .inr (.inl (some a)) :: st) (S, I, R) = if h_is S a 9 36 then rn Ls xs d 50 95 [l0, l1, l2, l3, l4, l5] st (S, va_up I a (upd (I a) 9 x), R) else none := rn_bc rfl rfl
theorem e_M_feed_95 : rn Ls xs d 50 95 [some (.inr u), l1, l2, l3, l4, l5] st H = rn Ls xs d 50 96 [some (.inr u), l1, l2, l3, l4, l5] (.inr u :: st) H := rn_nx rfl rfl
theorem e_M_feed_96 : rn Ls xs d 50 96 [l0, l1, l2, l3, l4, l5] (.inr (.inl (some a)) :: st) (S, I, R) = if h_is S a 9 36 then rn Ls xs d 50 99 [l0, l1, l2, l3, l4, l5] (.inl (I a 9) :: st) (S, I, R) else none := rn_bc rfl rfl
theorem e_M_feed_99 : rn Ls xs d 50 99 [l0, l1, l2, l3, l4, l5] [.inl x] H = some (some (.inl x), H) := rn_done rfl rfl
theorem e_W_trim_0 : rn Ls xs d 51 0 [l0, some (.inl x)] st H = rn Ls xs d 51 1 [l0, some (.inl x)] (.inl x :: st) H := rn_nx rfl rfl
theorem e_W_trim_1 : rn Ls xs d 51 1 [l0, l1]  st H = rn Ls xs d 51 2 [l0, l1] (.inl 0 :: st) H := rn_nx rfl rfl
theorem e_W_trim_2 : rn Ls xs d 51 2 [some (.inr u), l1] st H = rn Ls xs d 51 3 [some (.inr u), l1] (.inr u :: st) H := rn_nx rfl rfl
theorem e_W_trim_3 : rn Ls xs d 51 3 [l0, l1] (.inr (.inl (some a)) :: st) (S, I, R) = if h_is S a 8 10 then rn Ls xs d 51 6 [l0, l1] (.inr (R a 3) :: st) (S, I, R) else none := rn_bc rfl rfl
theorem e_W_trim_6 : rn Ls xs d 51 6 [l0, l1] (.inr (.inl (some a)) :: st) (S, I, R) = if h_is S a 5 2 then rn Ls xs d 51 9 [l0, l1] (.inl (I a 1) :: st) (S, I, R) else none := rn_bc rfl rfl
theorem e_W_trim_9 : rn Ls xs (d + 1) 51 9 [l0, l1] [v2, v1, v0] H = rb Ls xs (d + 1) 51 12 [l0, l1] [] (rn Ls xs d 94 0 [some v0, some v1, some v2] [] H) := rn_call rfl (Nat.le_of_ble_eq_true rfl) (Nat.le_of_ble_eq_true rfl) rfl rfl
theorem e_W_trim_12 : rn Ls xs d 51 12 [l0, l1] (.inl x :: st) H = if x ≠ 0 then rn Ls xs d 51 18 [l0, l1] st H else rn Ls xs d 51 15 [l0, l1] st H := rn_if (p := fun x => x ≠ 0) rfl
theorem e_W_trim_15 : rn Ls xs d 51 15 [l0, l1]  st H = rn Ls xs d 51 17 [l0, l1] (.inl (-1000000001) :: st) H := rn_nx rfl rfl
theorem e_W_trim_17 : rn Ls xs d 51 17 [l0, l1] [.inl x] H = some (some (.inl x), H) := rn_done rfl rfl
theorem e_W_trim_18 : rn Ls xs d 51 18 [some (.inr u), l1] st H = rn Ls xs d 51 19 [some (.inr u), l1] (.inr u :: st) H := rn_nx rfl rfl
theorem e_W_trim_19 : rn Ls xs d 51 19 [l0, l1] (.inr (.inl (some a)) :: st) (S, I, R) = if h_is S a 8 10 then rn Ls xs d 51 22 [l0, l1] (.inr (R a 3) :: st) (S, I, R) else none := rn_bc rfl rfl
theorem e_W_trim_22 : rn Ls xs d 51 22 [l0, some (.inl x)] st H = rn Ls xs d 51 23 [l0, some (.inl x)] (.inl x :: st) H := rn_nx rfl rfl
theorem e_W_trim_23 : rn Ls xs d 51 23 [l0, l1] (.inl x :: .inr (.inl (some a)) :: st) (S, I, R) = if h_is S a 5 2 then rn Ls xs d 51 26 [l0, l1] st (S, va_up I a (upd (I a) 1 x), R) else none := rn_bc rfl rfl
theorem e_W_trim_26 : rn Ls xs d 51 26 [l0, some (.inl x)] st H = rn Ls xs d 51 27 [l0, some (.inl x)] (.inl x :: st) H := rn_nx rfl rfl
theorem e_W_trim_27 : rn Ls xs d 51 27 [l0, l1] [.inl x] H = some (some (.inl x), H) := rn_done rfl rfl
theorem e_M_trim_0 : rn Ls xs d 52 0 [l0, some (.inl x)] st H = rn Ls xs d 52 1 [l0, some (.inl x)] (.inl x :: st) H := rn_nx rfl rfl
theorem e_M_trim_1 : rn Ls xs d 52 1 [l0, l1]  st H = rn Ls xs d 52 2 [l0, l1] (.inl 0 :: st) H := rn_nx rfl rfl
theorem e_M_trim_2 : rn Ls xs d 52 2 [some (.inr u), l1] st H = rn Ls xs d 52 3 [some (.inr u), l1] (.inr u :: st) H := rn_nx rfl rfl
theorem e_M_trim_3 : rn Ls xs d 52 3 [l0, l1] (.inr (.inl (some a)) :: st) (S, I, R) = if h_is S a 9 36 then rn Ls xs d 52 6 [l0, l1] (.inl (I a 9) :: st) (S, I, R) else none := rn_bc rfl rfl
theorem e_M_trim_6 : rn Ls xs (d + 1) 52 6 [l0, l1] [v2, v1, v0] H = rb Ls xs (d + 1) 52 9 [l0, l1] [] (rn Ls xs d 97 0 [some v0, some v1, some v2] [] H) := rn_call rfl (Nat.le_of_ble_eq_true rfl) (Nat.le_of_ble_eq_true rfl) rfl rfl
theorem e_M_trim_9 : rn Ls xs d 52 9 [l0, l1] (.inl x :: st) H = if x ≠ 0 then rn Ls xs d 52 15 [l0, l1] st H else rn Ls xs d 52 12 [l0, l1] st H := rn_if (p := fun x => x ≠ 0) rfl
theorem e_M_trim_12 : rn Ls xs d 52 12 [l0, l1]  st H = rn Ls xs d 52 14 [l0, l1] (.inl (-1000000001) :: st) H := rn_nx rfl rfl
theorem e_M_trim_14 : rn Ls xs d 52 14 [l0, l1] [.inl x] H = some (some (.inl x), H) := rn_done rfl rfl
theorem e_M_trim_15 : rn Ls xs d 52 15 [some (.inr u), l1] st H = rn Ls xs d 52 16 [some (.inr u), l1] (.inr u :: st) H := rn_nx rfl rfl
theorem e_M_trim_16 : rn Ls xs d 52 16 [l0, some (.inl x)] st H = rn Ls xs d 52 17 [l0, some (.inl x)] (.inl x :: st) H := rn_nx rfl rfl
theorem e_M_trim_17 : rn Ls xs d 52 17 [l0, l1] (.inl x :: .inr (.inl (some a)) :: st) (S, I, R) = if h_is S a 9 36 then rn Ls xs d 52 20 [l0, l1] st (S, va_up I a (upd (I a) 9 x), R) else none := rn_bc rfl rfl
theorem e_M_trim_20 : rn Ls xs d 52 20 [l0, some (.inl x)] st H = rn Ls xs d 52 21 [l0, some (.inl x)] (.inl x :: st) H := rn_nx rfl rfl
theorem e_M_trim_21 : rn Ls xs d 52 21 [l0, l1] [.inl x] H = some (some (.inl x), H) := rn_done rfl rfl
theorem e_W_text_0 : rn Ls xs d 53 0 [some (.inr u), l1] st H = rn Ls xs d 53 1 [some (.inr u), l1] (.inr u :: st) H := rn_nx rfl rfl
theorem e_W_text_1 : rn Ls xs d 53 1 [l0, l1] (.inr (.inl (some a)) :: st) (S, I, R) = if h_is S a 8 10 then rn Ls xs d 53 4 [l0, l1] (.inr (R a 4) :: st) (S, I, R) else none := rn_bc rfl rfl
theorem e_W_text_4 : rn Ls xs (d + 1) 53 4 [l0, l1] [(.inr (.inl (some a)))] (S, I, R) = if h_is S a 1 10 then rb Ls xs (d + 1) 53 7 [l0, l1] [] (rn Ls xs d 155 0 [some (.inr (.inl (some a))), none] [] (S, I, R)) else none := rn_callO rfl rfl (Nat.le_of_ble_eq_true rfl) rfl rfl
theorem e_W_text_7 : rn Ls xs d 53 7 [l0, l1] (.inr u :: st) H = rn Ls xs d 53 8 [l0, some (.inr u)] st H := rn_nx rfl rfl
theorem e_W_text_8 : rn Ls xs d 53 8 [some (.inr u), l1] st H = rn Ls xs d 53 9 [some (.inr u), l1] (.inr u :: st) H := rn_nx rfl rfl
theorem e_W_text_9 : rn Ls xs d 53 9 [l0, l1] (.inr (.inl (some a)) :: st) (S, I, R) = if h_is S a 8 10 then rn Ls xs d 53 12 [l0, l1] (.inr (R a 3) :: st) (S, I, R) else none := rn_bc rfl rfl
theorem e_W_text_12 : rn Ls xs d 53 12 [l0, l1]  st H = rn Ls xs d 53 13 [l0, l1] (.inl 0 :: st) H := rn_nx rfl rfl
theorem e_W_text_13 : rn Ls xs d 53 13 [l0, l1] (.inl x :: .inr (.inl (some a)) :: st) (S, I, R) = if h_is S a 5 2 then rn Ls xs d 53 16 [l0, l1] st (S, va_up I a (upd (I a) 1 x), R) else none := rn_bc rfl rfl
theorem e_W_text_16 : rn Ls xs d 53 16 [l0, some (.inr u)] st H = rn Ls xs d 53 17 [l0, some (.inr u)] (.inr u :: st) H := rn_nx rfl rfl
theorem e_W_text_17 : rn Ls xs d 53 17 [l0, l1] (.inr (.inl none) :: st) H = rn Ls xs d 53 20 [l0, l1] st H := rn_nx rfl rfl
theorem e_W_text_17n : rn Ls xs d 53 17 [l0, l1] (.inr (.inl (some a)) :: st) H = rn Ls xs d 53 31 [l0, l1] st H := rn_nx rfl rfl
theorem e_W_text_20 : rn Ls xs d 53 20 [l0, l1]  st H = rn Ls xs d 53 22 [l0, l1] (.inl (-100) :: st) H := rn_nx rfl rfl
theorem e_W_text_22 : rn Ls xs d 53 22 [some (.inr u), l1] st H = rn Ls xs d 53 23 [some (.inr u), l1] (.inr u :: st) H := rn_nx rfl rfl
theorem e_W_text_23 : rn Ls xs d 53 23 [l0, l1] (.inr (.inl (some a)) :: st) (S, I, R) = if h_is S a 8 10 then rn Ls xs d 53 26 [l0, l1] (.inr (R a 4) :: st) (S, I, R) else none := rn_bc rfl rfl
theorem e_W_text_26 : rn Ls xs d 53 26 [l0, l1] (.inr (.inl (some a)) :: st) (S, I, R) = if h_is S a 1 10 then rn Ls xs d 53 29 [l0, l1] (.inl (I a 9) :: st) (S, I, R) else none := rn_bc rfl rfl
theorem e_W_text_29 : rn Ls xs d 53 29 [l0, l1] (.inl y :: .inl x :: st) H = rn Ls xs d 53 30 [l0, l1] (.inl (x - y) :: st) H := rn_nx rfl rfl
theorem e_W_text_30 : rn Ls xs d 53 30 [l0, l1] [.inl x] H = some (some (.inl x), H) := rn_done rfl rfl
theorem e_W_text_31 : rn Ls xs d 53 31 [some (.inr u), l1] st H = rn Ls xs d 53 32 [some (.inr u), l1] (.inr u :: st) H := rn_nx rfl rfl
theorem e_W_text_32 : rn Ls xs d 53 32 [l0, l1] (.inr (.inl (some a)) :: st) (S, I, R) = if h_is S a 8 10 then rn Ls xs d 53 35 [l0, l1] (.inr (R a 0) :: st) (S, I, R) else none := rn_bc rfl rfl
theorem e_W_text_35 : rn Ls xs d 53 35 [l0, some (.inr u)] st H = rn Ls xs d 53 36 [l0, some (.inr u)] (.inr u :: st) H := rn_nx rfl rfl
theorem e_W_text_36 : rn Ls xs (d + 1) 53 36 [l0, l1] [v1, (.inr (.inl (some a)))] (S, I, R) = if h_is S a 3 11 then rb Ls xs (d + 1) 53 39 [l0, l1] [] (rn Ls xs d 156 0 [some (.inr (.inl (some a))), some v1] [] (S, I, R)) else none := rn_callO rfl rfl (Nat.le_of_ble_eq_true rfl) rfl rfl
theorem e_W_text_39 : rn Ls xs d 53 39 [l0, l1] (.inl x :: st) H = if x = 0 then rn Ls xs d 53 54 [l0, l1] st H else rn Ls xs d 53 42 [l0, l1] st H := rn_if (p := fun x => x = 0) rfl
theorem e_W_text_42 : rn Ls xs d 53 42 [some (.inr u), l1] st H = rn Ls xs d 53 43 [some (.inr u), l1] (.inr u :: st) H := rn_nx rfl rfl
theorem e_W_text_43 : rn Ls xs d 53 43 [l0, l1] (.inr (.inl (some a)) :: st) (S, I, R) = if h_is S a 8 10 then rn Ls xs d 53 46 [l0, l1] (.inr (R a 0) :: st) (S, I, R) else none := rn_bc rfl rfl
theorem e_W_text_46 : rn Ls xs d 53 46 [l0, l1] (.inr (.inl (some a)) :: st) (S, I, R) = if h_is S a 3 11 then rn Ls xs d 53 49 [l0, l1] (.inl (I a 4) :: st) (S, I, R) else none := rn_bc rfl rfl
theorem e_W_text_49 : rn Ls xs d 53 49 [l0, l1]  st H = rn Ls xs d 53 50 [l0, l1] (.inl 1 :: st) H := rn_nx rfl rfl
theorem e_W_text_50 : rn Ls xs d 53 50 [l0, l1] (.inl y :: .inl x :: st) H = rn Ls xs d 53 51 [l0, l1] (.inl (x - y) :: st) H := rn_nx rfl rfl
theorem e_W_text_51 : rn Ls xs d 53 51 [l0, l1] st H = rn Ls xs d 53 56 [l0, l1] st H := rn_nx rfl rfl
theorem e_W_text_54 : rn Ls xs d 53 54 [l0, l1]  st H = rn Ls xs d 53 56 [l0, l1] (.inl (-1000000003) :: st) H := rn_nx rfl rfl
theorem e_W_text_56 : rn Ls xs d 53 56 [l0, l1] [.inl x] H = some (some (.inl x), H) := rn_done rfl rfl
set_option maxRecDepth 20000 in
theorem e_M_text_0 : rn Ls xs d 54 0 [some (.inr u), l1, l2, l3] st H = rn Ls xs d 54 1 [some (.inr u), l1, l2, l3] (.inr u :: st) H := rn_nx rfl rfl
set_option maxRecDepth 20000 in
theorem e_M_text_1 : rn Ls xs d 54 1 [l0, l1, l2, l3]  st H = rn Ls xs d 54 2 [l0, l1, l2, l3] (.inl 0 :: st) H := rn_nx rfl rfl
set_option maxRecDepth 20000 in
theorem e_M_text_2 : rn Ls xs d 54 2 [l0, l1, l2, l3] (.inl x :: .inr (.inl (some a)) :: st) (S, I, R) = if h_is S a 9 36 then rn Ls xs d 54 5 [l0, l1, l2, l3] st (S, va_up I a (upd (I a) 10 x), R) else none := rn_bc rfl rfl
set_option maxRecDepth 20000 in
theorem e_M_text_5 : rn Ls xs d 54 5 [some (.inr u), l1, l2, l3] st H = rn Ls xs d 54 6 [some (.inr u), l1, l2, l3] (.inr u :: st) H := rn_nx rfl rfl
set_option maxRecDepth 20000 in
theorem e_M_text_6 : rn Ls xs d 54 6 [l0, l1, l2, l3]  st H = rn Ls xs d 54 7 [l0, l1, l2, l3] (.inl (-1) :: st) H := rn_nx rfl rfl
set_option maxRecDepth 20000 in
theorem e_M_text_7 : rn Ls xs d 54 7 [l0, l1, l2, l3] (.inl x :: .inr (.inl (some a)) :: st) (S, I, R) = if h_is S a 9 36 then rn Ls xs d 54 10 [l0, l1, l2, l3] st (S, va_up I a (upd (I a) 14 x), R) else none := rn_bc rfl rfl
set_option maxRecDepth 20000 in
theorem e_M_text_10 : rn Ls xs d 54 10 [some (.inr u), l1, l2, l3] st H = rn Ls xs d 54 11 [some (.inr u), l1, l2, l3] (.inr u :: st) H := rn_nx rfl rfl
set_option maxRecDepth 20000 in
theorem e_M_text_11 : rn Ls xs (d + 1) 54 11 [l0, l1, l2, l3] [(.inr (.inl (some a)))] (S, I, R) = if h_is S a 9 36 then rb Ls xs (d + 1) 54 14 [l0, l1, l2, l3] [] (rn Ls xs d 157 0 [some (.inr (.inl (some a))), none] [] (S, I, R)) else none := rn_callO rfl rfl (Nat.le_of_ble_eq_true rfl) rfl rfl
set_option maxRecDepth 20000 in
theorem e_M_text_14 : rn Ls xs d 54 14 [some (.inr u), l1, l2, l3] st H = rn Ls xs d 54 15 [some (.inr u), l1, l2, l3] (.inr u :: st) H := rn_nx rfl rfl
set_option maxRecDepth 20000 in
theorem e_M_text_15 : rn Ls xs (d + 1) 54 15 [l0, l1, l2, l3] [(.inr (.inl (some a)))] (S, I, R) = if h_is S a 9 36 then rb Ls xs (d + 1) 54 18 [l0, l1, l2, l3] [] (rn Ls xs d 158 0 [some (.inr (.inl (some a))), none, none, none, none] [] (S, I, R)) else none := rn_callO rfl rfl (Nat.le_of_ble_eq_true rfl) rfl rfl
set_option maxRecDepth 20000 in
theorem e_M_text_18 : rn Ls xs d 54 18 [l0, l1, l2, l3] (.inl x :: st) H = if x = 0 then rn Ls xs d 54 32 [l0, l1, l2, l3] st H else rn Ls xs d 54 21 [l0, l1, l2, l3] st H := rn_if (p := fun x => x = 0) rfl
set_option maxRecDepth 20000 in
theorem e_M_text_21 : rn Ls xs d 54 21 [some (.inr u), l1, l2, l3] st H = rn Ls xs d 54 22 [some (.inr u), l1, l2, l3] (.inr u :: st) H := rn_nx rfl rfl
set_option maxRecDepth 20000 in
theorem e_M_text_22 : rn Ls xs (d + 1) 54 22 [l0, l1, l2, l3] [(.inr (.inl (some a)))] (S, I, R) = if h_is S a 9 36 then rb Ls xs (d + 1) 54 25 [l0, l1, l2, l3] [] (rn Ls xs d 159 0 [some (.inr (.inl (some a))), none, none, none, none] [] (S, I, R)) else none := rn_callO rfl rfl (Nat.le_of_ble_eq_true rfl) rfl rfl
set_option maxRecDepth 20000 in
theorem e_M_text_25 : rn Ls xs d 54 25 [l0, l1, l2, l3] (.inl x :: st) H = if x = 0 then rn Ls xs d 54 32 [l0, l1, l2, l3] st H else rn Ls xs d 54 28 [l0, l1, l2, l3] st H := rn_if (p := fun x => x = 0) rfl
set_option maxRecDepth 20000 in
theorem e_M_text_28 : rn Ls xs d 54 28 [l0, l1, l2, l3]  st H = rn Ls xs d 54 29 [l0, l1, l2, l3] (.inl 1 :: st) H := rn_nx rfl rfl
set_option maxRecDepth 20000 in
theorem e_M_text_29 : rn Ls xs d 54 29 [l0, l1, l2, l3] st H = rn Ls xs d 54 33 [l0, l1, l2, l3] st H := rn_nx rfl rfl
set_option maxRecDepth 20000 in
theorem e_M_text_32 : rn Ls xs d 54 32 [l0, l1, l2, l3]  st H = rn Ls xs d 54 33 [l0, l1, l2, l3] (.inl 0 :: st) H := rn_nx rfl rfl
set_option maxRecDepth 20000 in
theorem e_M_text_33 : rn Ls xs d 54 33 [l0, l1, l2, l3] (.inl x :: st) H = rn Ls xs d 54 34 [l0, some (.inl x), l2, l3] st H := rn_nx rfl rfl
set_option maxRecDepth 20000 in
theorem e_M_text_34 : rn Ls xs d 54 34 [some (.inr u), l1, l2, l3] st H = rn Ls xs d 54 35 [some (.inr u), l1, l2, l3] (.inr u :: st) H := rn_nx rfl rfl
set_option maxRecDepth 20000 in
theorem e_M_text_35 : rn Ls xs d 54 35 [l0, l1, l2, l3]  st H = rn Ls xs d 54 36 [l0, l1, l2, l3] (.inl 0 :: st) H := rn_nx rfl rfl
set_option maxRecDepth 20000 in
theorem e_M_text_36 : rn Ls xs d 54 36 [l0, l1, l2, l3] (.inl x :: .inr (.inl (some a)) :: st) (S, I, R) = if h_is S a 9 36 then rn Ls xs d 54 39 [l0, l1, l2, l3] st (S, va_up I a (upd (I a) 9 x), R) else none := rn_bc rfl rfl
set_option maxRecDepth 20000 in
theorem e_M_text_39 : rn Ls xs d 54 39 [l0, some (.inl x), l2, l3] st H = rn Ls xs d 54 40 [l0, some (.inl x), l2, l3] (.inl x :: st) H := rn_nx rfl rfl
set_option maxRecDepth 20000 in
theorem e_M_text_40 : rn Ls xs d 54 40 [l0, l1, l2, l3] (.inl x :: st) H = if x ≠ 0 then rn Ls xs d 54 51 [l0, l1, l2, l3] st H else rn Ls xs d 54 43 [l0, l1, l2, l3] st H := rn_if (p := fun x => x ≠ 0) rfl
set_option maxRecDepth 20000 in
theorem e_M_text_43 : rn Ls xs d 54 43 [l0, l1, l2, l3]  st H = rn Ls xs d 54 45 [l0, l1, l2, l3] (.inl (-100) :: st) H := rn_nx rfl rfl
set_option maxRecDepth 20000 in
theorem e_M_text_45 : rn Ls xs d 54 45 [some (.inr u), l1, l2, l3] st H = rn Ls xs d 54 46 [some (.inr u), l1, l2, l3] (.inr u :: st) H := rn_nx rfl rfl
set_option maxRecDepth 20000 in
theorem e_M_text_46 : rn Ls xs d 54 46 [l0, l1, l2, l3] (.inr (.inl (some a)) :: st) (S, I, R) = if h_is S a 9 36 then rn Ls xs d 54 49 [l0, l1, l2, l3] (.inl (I a 11) :: st) (S, I, R) else none := rn_bc rfl rfl
set_option maxRecDepth 20000 in
theorem e_M_text_49 : rn Ls xs d 54 49 [l0, l1, l2, l3] (.inl y :: .inl x :: st) H = rn Ls xs d 54 50 [l0, l1, l2, l3] (.inl (x - y) :: st) H := rn_nx rfl rfl
set_option maxRecDepth 20000 in
theorem e_M_text_50 : rn Ls xs d 54 50 [l0, l1, l2, l3] [.inl x] H = some (some (.inl x), H) := rn_done rfl rfl
set_option maxRecDepth 20000 in
theorem e_M_text_51 : rn Ls xs d 54 51 [some (.inr u), l1, l2, l3] st H = rn Ls xs d 54 52 [some (.inr u), l1, l2, l3] (.inr u :: st) H := rn_nx rfl rfl
set_option maxRecDepth 20000 in
theorem e_M_text_52 : rn Ls xs d 54 52 [l0, l1, l2, l3] (.inr (.inl (some a)) :: st) (S, I, R) = if h_is S a 9 36 then rn Ls xs d 54 55 [l0, l1, l2, l3] (.inr (R a 0) :: st) (S, I, R) else none := rn_bc rfl rfl
set_option maxRecDepth 20000 in
theorem e_M_text_55 : rn Ls xs d 54 55 [l0, l1, l2, l3]  st H = rn Ls xs d 54 57 [l0, l1, l2, l3] (.inl 7 :: st) H := rn_nx rfl rfl
set_option maxRecDepth 20000 in
theorem e_M_text_57 : rn Ls xs d 54 57 [l0, l1, l2, l3] (.inl i :: .inr (.inl (some a)) :: st) (S, I, R) = if h_ia S a 0 i then rn Ls xs d 54 58 [l0, l1, l2, l3] (.inl (I a i.toNatClampNeg) :: st) (S, I, R) else none := rn_bc rfl rfl
set_option maxRecDepth 20000 in
theorem e_M_text_58 : rn Ls xs d 54 58 [l0, l1, l2, l3]  st H = rn Ls xs d 54 60 [l0, l1, l2, l3] (.inl 14 :: st) H := rn_nx rfl rfl
set_option maxRecDepth 20000 in
theorem e_M_text_60 : rn Ls xs d 54 60 [l0, l1, l2, l3] (.inl y :: .inl x :: st) H = if x ≠ y then rn Ls xs d 54 66 [l0, l1, l2, l3] st H else rn Ls xs d 54 63 [l0, l1, l2, l3] st H := rn_cmp (p := fun x y => x ≠ y) rfl
set_option maxRecDepth 20000 in
theorem e_M_text_63 : rn Ls xs d 54 63 [l0, l1, l2, l3]  st H = rn Ls xs d 54 65 [l0, l1, l2, l3] (.inl (-1000000003) :: st) H := rn_nx rfl rfl
set_option maxRecDepth 20000 in
theorem e_M_text_65 : rn Ls xs d 54 65 [l0, l1, l2, l3] [.inl x] H = some (some (.inl x), H) := rn_done rfl rfl
set_option maxRecDepth 20000 in
theorem e_M_text_66 : rn Ls xs d 54 66 [some (.inr u), l1, l2, l3] st H = rn Ls xs d 54 67 [some (.inr u), l1, l2, l3] (.inr u :: st) H := rn_nx rfl rfl
set_option maxRecDepth 20000 in
theorem e_M_text_67 : rn Ls xs d 54 67 [l0, l1, l2, l3] (.inr (.inl (some a)) :: st) (S, I, R) = if h_is S a 9 36 then rn Ls xs d 54 70 [l0, l1, l2, l3] (.inr (R a 0) :: st) (S, I, R) else none := rn_bc rfl rfl
set_option maxRecDepth 20000 in
theorem e_M_text_70 : rn Ls xs d 54 70 [l0, l1, l2, l3]  st H = rn Ls xs d 54 72 [l0, l1, l2, l3] (.inl 7 :: st) H := rn_nx rfl rfl
set_option maxRecDepth 20000 in
theorem e_M_text_72 : rn Ls xs d 54 72 [l0, l1, l2, l3] (.inl i :: .inr (.inl (some a)) :: st) (S, I, R) = if h_ia S a 0 i then rn Ls xs d 54 73 [l0, l1, l2, l3] (.inl (I a i.toNatClampNeg) :: st) (S, I, R) else none := rn_bc rfl rfl
set_option maxRecDepth 20000 in
theorem e_M_text_73 : rn Ls xs d 54 73 [l0, l1, l2, l3] (.inl x :: st) H = rn Ls xs d 54 74 [l0, l1, some (.inl x), l3] st H := rn_nx rfl rfl
set_option maxRecDepth 20000 in
theorem e_M_text_74 : rn Ls xs d 54 74 [some (.inr u), l1, l2, l3] st H = rn Ls xs d 54 75 [some (.inr u), l1, l2, l3] (.inr u :: st) H := rn_nx rfl rfl
set_option maxRecDepth 20000 in
theorem e_M_text_75 : rn Ls xs d 54 75 [l0, l1, l2, l3] (.inr (.inl (some a)) :: st) (S, I, R) = if h_is S a 9 36 then rn Ls xs d 54 78 [l0, l1, l2, l3] (.inr (R a 0) :: st) (S, I, R) else none := rn_bc rfl rfl
set_option maxRecDepth 20000 in
theorem e_M_text_78 : rn Ls xs d 54 78 [l0, l1, l2, l3]  st H = rn Ls xs d 54 80 [l0, l1, l2, l3] (.inl 92 :: st) H := rn_nx rfl rfl
set_option maxRecDepth 20000 in
theorem e_M_text_80 : rn Ls xs d 54 80 [l0, l1, l2, l3]  st H = rn Ls xs d 54 81 [l0, l1, l2, l3] (.inl 2 :: st) H := rn_nx rfl rfl
set_option maxRecDepth 20000 in
theorem e_M_text_81 : rn Ls xs d 54 81 [l0, l1, some (.inl x), l3] st H = rn Ls xs d 54 82 [l0, l1, some (.inl x), l3] (.inl x :: st) H := rn_nx rfl rfl
set_option maxRecDepth 20000 in
theorem e_M_text_82 : rn Ls xs d 54 82 [l0, l1, l2, l3] (.inl y :: .inl x :: st) H = rn Ls xs d 54 83 [l0, l1, l2, l3] (.inl (x * y) :: st) H := rn_nx rfl rfl
set_option maxRecDepth 20000 in
theorem e_M_text_83 : rn Ls xs d 54 83 [l0, l1, l2, l3] (.inl y :: .inl x :: st) H = rn Ls xs d 54 84 [l0, l1, l2, l3] (.inl (x + y) :: st) H := rn_nx rfl rfl
set_option maxRecDepth 20000 in
theorem e_M_text_84 : rn Ls xs d 54 84 [l0, l1, l2, l3]  st H = rn Ls xs d 54 87 [l0, l1, l2, l3] (.inl 1000 :: st) H := rn_nx rfl rfl
set_option maxRecDepth 20000 in
theorem e_M_text_87 : rn Ls xs d 54 87 [some (.inr u), l1, l2, l3] st H = rn Ls xs d 54 88 [some (.inr u), l1, l2, l3] (.inr u :: st) H := rn_nx rfl rfl
set_option maxRecDepth 20000 in
theorem e_M_text_88 : rn Ls xs d 54 88 [l0, l1, l2, l3] (.inr (.inl (some a)) :: st) (S, I, R) = if h_is S a 9 36 then rn Ls xs d 54 91 [l0, l1, l2, l3] (.inl (I a 15) :: st) (S, I, R) else none := rn_bc rfl rfl
set_option maxRecDepth 20000 in
theorem e_M_text_91 : rn Ls xs d 54 91 [l0, l1, l2, l3] (.inl y :: .inl x :: st) H = rn Ls xs d 54 92 [l0, l1, l2, l3] (.inl (x * y) :: st) H := rn_nx rfl rfl
set_option maxRecDepth 20000 in
theorem e_M_text_92 : rn Ls xs d 54 92 [some (.inr u), l1, l2, l3] st H = rn Ls xs d 54 93 [some (.inr u), l1, l2, l3] (.inr u :: st) H := rn_nx rfl rfl
set_option maxRecDepth 20000 in
theorem e_M_text_93 : rn Ls xs d 54 93 [l0, l1, l2, l3] (.inr (.inl (some a)) :: st) (S, I, R) = if h_is S a 9 36 then rn Ls xs d 54 96 [l0, l1, l2, l3] (.inl (I a 19) :: st) (S, I, R) else none := rn_bc rfl rfl
set_option maxRecDepth 20000 in
theorem e_M_text_96 : rn Ls xs d 54 96 [l0, l1, l2, l3] (.inl y :: .inl x :: st) H = rn Ls xs d 54 97 [l0, l1, l2, l3] (.inl (x + y) :: st) H := rn_nx rfl rfl
set_option maxRecDepth 20000 in
theorem e_M_text_97 : rn Ls xs d 54 97 [l0, l1, l2, l3] (.inl x :: .inl i :: .inr (.inl (some a)) :: st) (S, I, R) = if h_ia S a 0 i then rn Ls xs d 54 98 [l0, l1, l2, l3] st (S, va_up I a (upd (I a) i.toNatClampNeg x), R) else none := rn_bc rfl rfl
set_option maxRecDepth 20000 in
theorem e_M_text_98 : rn Ls xs d 54 98 [some (.inr u), l1, l2, l3] st H = rn Ls xs d 54 99 [some (.inr u), l1, l2, l3] (.inr u :: st) H := rn_nx rfl rfl
set_option maxRecDepth 20000 in
theorem e_M_text_99 : rn Ls xs d 54 99 [l0, l1, l2, l3] (.inr (.inl (some a)) :: st) (S, I, R) = if h_is S a 9 36 then rn Ls xs d 54 102 [l0, l1, l2, l3] (.inr (R a 0) :: st) (S, I, R) else none := rn_bc rfl rfl
set_option maxRecDepth 20000 in
theorem e_M_text_102 : rn Ls xs d 54 102 [l0, l1, l2, l3]  st H = rn Ls xs d 54 104 [l0, l1, l2, l3] (.inl 92 :: st) H := rn_nx rfl rfl
set_option maxRecDepth 20000 in
theorem e_M_text_104 : rn Ls xs d 54 104 [l0, l1, l2, l3]  st H = rn Ls xs d 54 105 [l0, l1, l2, l3] (.inl 2 :: st) H := rn_nx rfl rfl
set_option maxRecDepth 20000 in
theorem e_M_text_105 : rn Ls xs d 54 105 [l0, l1, some (.inl x), l3] st H = rn Ls xs d 54 106 [l0, l1, some (.inl x), l3] (.inl x :: st) H := rn_nx rfl rfl
set_option maxRecDepth 20000 in
theorem e_M_text_106 : rn Ls xs d 54 106 [l0, l1, l2, l3] (.inl y :: .inl x :: st) H = rn Ls xs d 54 107 [l0, l1, l2, l3] (.inl (x * y) :: st) H := rn_nx rfl rfl
set_option maxRecDepth 20000 in
theorem e_M_text_107 : rn Ls xs d 54 107 [l0, l1, l2, l3] (.inl y :: .inl x :: st) H = rn Ls xs d 54 108 [l0, l1, l2, l3] (.inl (x + y) :: st) H := rn_nx rfl rfl
set_option maxRecDepth 20000 in
theorem e_M_text_108 : rn Ls xs d 54 108 [l0, l1, l2, l3]  st H = rn Ls xs d 54 109 [l0, l1, l2, l3] (.inl 1 :: st) H := rn_nx rfl rfl
set_option maxRecDepth 20000 in
theorem e_M_text_109 : rn Ls xs d 54 109 [l0, l1, l2, l3] (.inl y :: .inl x :: st) H = rn Ls xs d 54 110 [l0, l1, l2, l3] (.inl (x + y) :: st) H := rn_nx rfl rfl
set_option maxRecDepth 20000 in
theorem e_M_text_110 : rn Ls xs d 54 110 [some (.inr u), l1, l2, l3] st H = rn Ls xs d 54 111 [some (.inr u), l1, l2, l3] (.inr u :: st) H := rn_nx rfl rfl
set_option maxRecDepth 20000 in
theorem e_M_text_111 : rn Ls xs d 54 111 [l0, l1, l2, l3] (.inr (.inl (some a)) :: st) (S, I, R) = if h_is S a 9 36 then rn Ls xs d 54 114 [l0, l1, l2, l3] (.inl (I a 20) :: st) (S, I, R) else none := rn_bc rfl rfl
set_option maxRecDepth 20000 in
theorem e_M_text_114 : rn Ls xs d 54 114 [l0, l1, l2, l3] (.inl x :: .inl i :: .inr (.inl (some a)) :: st) (S, I, R) = if h_ia S a 0 i then rn Ls xs d 54 115 [l0, l1, l2, l3] st (S, va_up I a (upd (I a) i.toNatClampNeg x), R) else none := rn_bc rfl rfl
set_option maxRecDepth 20000 in
theorem e_M_text_115 : rn Ls xs d 54 115 [l0, l1, l2, l3]  st H = rn Ls xs d 54 116 [l0, l1, l2, l3] (.inl 0 :: st) H := rn_nx rfl rfl
set_option maxRecDepth 20000 in
theorem e_M_text_116 : rn Ls xs d 54 116 [l0, l1, l2, l3] (.inl x :: st) H = rn Ls xs d 54 117 [l0, l1, l2, some (.inl x)] st H := rn_nx rfl rfl
set_option maxRecDepth 20000 in
theorem e_M_text_117 : rn Ls xs d 54 117 [l0, l1, l2, some (.inl x)] st H = rn Ls xs d 54 118 [l0, l1, l2, some (.inl x)] (.inl x :: st) H := rn_nx rfl rfl
set_option maxRecDepth 20000 in
theorem e_M_text_118 : rn Ls xs d 54 118 [some (.inr u), l1, l2, l3] st H = rn Ls xs d 54 119 [some (.inr u), l1, l2, l3] (.inr u :: st) H := rn_nx rfl rfl
set_option maxRecDepth 20000 in
theorem e_M_text_119 : rn Ls xs d 54 119 [l0, l1, l2, l3] (.inr (.inl (some a)) :: st) (S, I, R) = if h_is S a 9 36 then rn Ls xs d 54 122 [l0, l1, l2, l3] (.inl (I a 19) :: st) (S, I, R) else none := rn_bc rfl rfl
set_option maxRecDepth 20000 in
theorem e_M_text_122 : rn Ls xs d 54 122 [l0, l1, l2, l3] (.inl y :: .inl x :: st) H = if y ≤ x then rn Ls xs d 54 151 [l0, l1, l2, l3] st H else rn Ls xs d 54 125 [l0, l1, l2, l3] st H := rn_cmp (p := fun x y => y ≤ x) rfl
set_option maxRecDepth 20000 in
theorem e_M_text_125 : rn Ls xs d 54 125 [some (.inr u), l1, l2, l3] st H = rn Ls xs d 54 126 [some (.inr u), l1, l2, l3] (.inr u :: st) H := rn_nx rfl rfl
set_option maxRecDepth 20000 in
theorem e_M_text_126 : rn Ls xs d 54 126 [l0, l1, l2, l3] (.inr (.inl (some a)) :: st) (S, I, R) = if h_is S a 9 36 then rn Ls xs d 54 129 [l0, l1, l2, l3] (.inr (R a 0) :: st) (S, I, R) else none := rn_bc rfl rfl
set_option maxRecDepth 20000 in
theorem e_M_text_129 : rn Ls xs d 54 129 [l0, l1, l2, l3]  st H = rn Ls xs d 54 131 [l0, l1, l2, l3] (.inl 120 :: st) H := rn_nx rfl rfl
set_option maxRecDepth 20000 in
theorem e_M_text_131 : rn Ls xs d 54 131 [l0, l1, l2, l3]  st H = rn Ls xs d 54 133 [l0, l1, l2, l3] (.inl 96 :: st) H := rn_nx rfl rfl
set_option maxRecDepth 20000 in
theorem e_M_text_133 : rn Ls xs d 54 133 [l0, l1, some (.inl x), l3] st H = rn Ls xs d 54 134 [l0, l1, some (.inl x), l3] (.inl x :: st) H := rn_nx rfl rfl
set_option maxRecDepth 20000 in
theorem e_M_text_134 : rn Ls xs d 54 134 [l0, l1, l2, l3] (.inl y :: .inl x :: st) H = rn Ls xs d 54 135 [l0, l1, l2, l3] (.inl (x * y) :: st) H := rn_nx rfl rfl
set_option maxRecDepth 20000 in
theorem e_M_text_135 : rn Ls xs d 54 135 [l0, l1, l2, l3] (.inl y :: .inl x :: st) H = rn Ls xs d 54 136 [l0, l1, l2, l3] (.inl (x + y) :: st) H := rn_nx rfl rfl
set_option maxRecDepth 20000 in
theorem e_M_text_136 : rn Ls xs d 54 136 [l0, l1, l2, some (.inl x)] st H = rn Ls xs d 54 137 [l0, l1, l2, some (.inl x)] (.inl x :: st) H := rn_nx rfl rfl
set_option maxRecDepth 20000 in
theorem e_M_text_137 : rn Ls xs d 54 137 [l0, l1, l2, l3] (.inl y :: .inl x :: st) H = rn Ls xs d 54 138 [l0, l1, l2, l3] (.inl (x + y) :: st) H := rn_nx rfl rfl
set_option maxRecDepth 20000 in
theorem e_M_text_138 : rn Ls xs d 54 138 [some (.inr u), l1, l2, l3] st H = rn Ls xs d 54 139 [some (.inr u), l1, l2, l3] (.inr u :: st) H := rn_nx rfl rfl
set_option maxRecDepth 20000 in
theorem e_M_text_139 : rn Ls xs d 54 139 [l0, l1, l2, l3] (.inr (.inl (some a)) :: st) (S, I, R) = if h_is S a 9 36 then rn Ls xs d 54 142 [l0, l1, l2, l3] (.inr (R a 18) :: st) (S, I, R) else none := rn_bc rfl rfl
set_option maxRecDepth 20000 in
theorem e_M_text_142 : rn Ls xs d 54 142 [l0, l1, l2, some (.inl x)] st H = rn Ls xs d 54 143 [l0, l1, l2, some (.inl x)] (.inl x :: st) H := rn_nx rfl rfl
set_option maxRecDepth 20000 in
theorem e_M_text_143 : rn Ls xs d 54 143 [l0, l1, l2, l3] (.inl i :: .inr (.inl (some a)) :: st) (S, I, R) = if h_ia S a 0 i then rn Ls xs d 54 144 [l0, l1, l2, l3] (.inl (I a i.toNatClampNeg) :: st) (S, I, R) else none := rn_bc rfl rfl
set_option maxRecDepth 20000 in
theorem e_M_text_144 : rn Ls xs d 54 144 [l0, l1, l2, l3] (.inl x :: .inl i :: .inr (.inl (some a)) :: st) (S, I, R) = if h_ia S a 0 i then rn Ls xs d 54 145 [l0, l1, l2, l3] st (S, va_up I a (upd (I a) i.toNatClampNeg x), R) else none := rn_bc rfl rfl
set_option maxRecDepth 20000 in
theorem e_M_text_145 : rn Ls xs d 54 145 [l0, l1, l2, some (.inl x)] st H = rn Ls xs d 54 148 [l0, l1, l2, some (.inl (x + 1))] st H := rn_nx rfl rfl
set_option maxRecDepth 20000 in
theorem e_M_text_148 : rn Ls xs d 54 148 [l0, l1, l2, l3] st H = rn Ls xs d 54 117 [l0, l1, l2, l3] st H := rn_nx rfl rfl
set_option maxRecDepth 20000 in
theorem e_M_text_151 : rn Ls xs d 54 151 [some (.inr u), l1, l2, l3] st H = rn Ls xs d 54 152 [some (.inr u), l1, l2, l3] (.inr u :: st) H := rn_nx rfl rfl
set_option maxRecDepth 20000 in
theorem e_M_text_152 : rn Ls xs d 54 152 [l0, l1, l2, l3] (.inr (.inl (some a)) :: st) (S, I, R) = if h_is S a 9 36 then rn Ls xs d 54 155 [l0, l1, l2, l3] (.inr (R a 0) :: st) (S, I, R) else none := rn_bc rfl rfl
set_option maxRecDepth 20000 in
theorem e_M_text_155 : rn Ls xs d 54 155 [l0, l1, l2, l3]  st H = rn Ls xs d 54 157 [l0, l1, l2, l3] (.inl 7 :: st) H := rn_nx rfl rfl
set_option maxRecDepth 20000 in
theorem e_M_text_157 : rn Ls xs d 54 157 [l0, l1, l2, l3] (v :: w :: st) H = rn Ls xs d 54 158 [l0, l1, l2, l3] (v :: w :: v :: w :: st) H := rn_nx rfl rfl
set_option maxRecDepth 20000 in
theorem e_M_text_158 : rn Ls xs d 54 158 [l0, l1, l2, l3] (.inl i :: .inr (.inl (some a)) :: st) (S, I, R) = if h_ia S a 0 i then rn Ls xs d 54 159 [l0, l1, l2, l3] (.inl (I a i.toNatClampNeg) :: st) (S, I, R) else none := rn_bc rfl rfl
set_option maxRecDepth 20000 in
theorem e_M_text_159 : rn Ls xs d 54 159 [l0, l1, l2, l3]  st H = rn Ls xs d 54 160 [l0, l1, l2, l3] (.inl 1 :: st) H := rn_nx rfl rfl
set_option maxRecDepth 20000 in
theorem e_M_text_160 : rn Ls xs d 54 160 [l0, l1, l2, l3] (.inl y :: .inl x :: st) H = rn Ls xs d 54 161 [l0, l1, l2, l3] (.inl (x + y) :: st) H := rn_nx rfl rfl
set_option maxRecDepth 20000 in
theorem e_M_text_161 : rn Ls xs d 54 161 [l0, l1, l2, l3] (.inl x :: .inl i :: .inr (.inl (some a)) :: st) (S, I, R) = if h_ia S a 0 i then rn Ls xs d 54 162 [l0, l1, l2, l3] st (S, va_up I a (upd (I a) i.toNatClampNeg x), R) else none := rn_bc rfl rfl
set_option maxRecDepth 20000 in
theorem e_M_text_162 : rn Ls xs d 54 162 [l0, l1, some (.inl x), l3] st H = rn Ls xs d 54 163 [l0, l1, some (.inl x), l3] (.inl x :: st) H := rn_nx rfl rfl
set_option maxRecDepth 20000 in
theorem e_M_text_163 : rn Ls xs d 54 163 [l0, l1, l2, l3] [.inl x] H = some (some (.inl x), H) := rn_done rfl rfl
theorem e_W_textTold_0 : rn Ls xs d 55 0 [l0, some (.inl x), l2] st H = rn Ls xs d 55 1 [l0, some (.inl x), l2] (.inl x :: st) H := rn_nx rfl rfl
theorem e_W_textTold_1 : rn Ls xs d 55 1 [l0, l1, l2]  st H = rn Ls xs d 55 2 [l0, l1, l2] (.inl 0 :: st) H := rn_nx rfl rfl
theorem e_W_textTold_2 : rn Ls xs d 55 2 [some (.inr u), l1, l2] st H = rn Ls xs d 55 3 [some (.inr u), l1, l2] (.inr u :: st) H := rn_nx rfl rfl
theorem e_W_textTold_3 : rn Ls xs d 55 3 [l0, l1, l2] (.inr (.inl (some a)) :: st) (S, I, R) = if h_is S a 8 10 then rn Ls xs d 55 6 [l0, l1, l2] (.inr (R a 0) :: st) (S, I, R) else none := rn_bc rfl rfl
theorem e_W_textTold_6 : rn Ls xs d 55 6 [l0, l1, l2] (.inr (.inl (some a)) :: st) (S, I, R) = if h_is S a 3 11 then rn Ls xs d 55 9 [l0, l1, l2] (.inl (I a 4) :: st) (S, I, R) else none := rn_bc rfl rfl
theorem e_W_textTold_9 : rn Ls xs d 55 9 [l0, l1, l2]  st H = rn Ls xs d 55 10 [l0, l1, l2] (.inl 1 :: st) H := rn_nx rfl rfl
theorem e_W_textTold_10 : rn Ls xs d 55 10 [l0, l1, l2] (.inl y :: .inl x :: st) H = rn Ls xs d 55 11 [l0, l1, l2] (.inl (x - y) :: st) H := rn_nx rfl rfl
theorem e_W_textTold_11 : rn Ls xs (d + 1) 55 11 [l0, l1, l2] [v2, v1, v0] H = rb Ls xs (d + 1) 55 14 [l0, l1, l2] [] (rn Ls xs d 94 0 [some v0, some v1, some v2] [] H) := rn_call rfl (Nat.le_of_ble_eq_true rfl) (Nat.le_of_ble_eq_true rfl) rfl rfl
theorem e_W_textTold_14 : rn Ls xs d 55 14 [l0, l1, l2] (.inl x :: st) H = if x = 0 then rn Ls xs d 55 26 [l0, l1, l2] st H else rn Ls xs d 55 17 [l0, l1, l2] st H := rn_if (p := fun x => x = 0) rfl
theorem e_W_textTold_17 : rn Ls xs d 55 17 [l0, l1, some (.inl x)] st H = rn Ls xs d 55 18 [l0, l1, some (.inl x)] (.inl x :: st) H := rn_nx rfl rfl
theorem e_W_textTold_18 : rn Ls xs d 55 18 [l0, l1, l2]  st H = rn Ls xs d 55 19 [l0, l1, l2] (.inl 0 :: st) H := rn_nx rfl rfl
theorem e_W_textTold_19 : rn Ls xs d 55 19 [l0, l1, l2]  st H = rn Ls xs d 55 20 [l0, l1, l2] (.inl 1 :: st) H := rn_nx rfl rfl
theorem e_W_textTold_20 : rn Ls xs (d + 1) 55 20 [l0, l1, l2] [v2, v1, v0] H = rb Ls xs (d + 1) 55 23 [l0, l1, l2] [] (rn Ls xs d 94 0 [some v0, some v1, some v2] [] H) := rn_call rfl (Nat.le_of_ble_eq_true rfl) (Nat.le_of_ble_eq_true rfl) rfl rfl
theorem e_W_textTold_23 : rn Ls xs d 55 23 [l0, l1, l2] (.inl x :: st) H = if x ≠ 0 then rn Ls xs d 55 29 [l0, l1, l2] st H else rn Ls xs d 55 26 [l0, l1, l2] st H := rn_if (p := fun x => x ≠ 0) rfl
theorem e_W_textTold_26 : rn Ls xs d 55 26 [l0, l1, l2]  st H = rn Ls xs d 55 28 [l0, l1, l2] (.inl (-1000000001) :: st) H := rn_nx rfl rfl
theorem e_W_textTold_28 : rn Ls xs d 55 28 [l0, l1, l2] [.inl x] H = some (some (.inl x), H) := rn_done rfl rfl
theorem e_W_textTold_29 : rn Ls xs d 55 29 [l0, l1, some (.inl x)] st H = rn Ls xs d 55 30 [l0, l1, some (.inl x)] (.inl x :: st) H := rn_nx rfl rfl
theorem e_W_textTold_30 : rn Ls xs d 55 30 [l0, l1, l2] (.inl x :: st) H = if x ≠ 0 then rn Ls xs d 55 48 [l0, l1, l2] st H else rn Ls xs d 55 33 [l0, l1, l2] st H := rn_if (p := fun x => x ≠ 0) rfl
theorem e_W_textTold_33 : rn Ls xs d 55 33 [some (.inr u), l1, l2] st H = rn Ls xs d 55 34 [some (.inr u), l1, l2] (.inr u :: st) H := rn_nx rfl rfl
theorem e_W_textTold_34 : rn Ls xs d 55 34 [l0, l1, l2] (.inr (.inl (some a)) :: st) (S, I, R) = if h_is S a 8 10 then rn Ls xs d 55 37 [l0, l1, l2] (.inr (R a 0) :: st) (S, I, R) else none := rn_bc rfl rfl
theorem e_W_textTold_37 : rn Ls xs d 55 37 [l0, l1, l2] (.inr (.inl (some a)) :: st) (S, I, R) = if h_is S a 3 11 then rn Ls xs d 55 40 [l0, l1, l2] (.inr (R a 1) :: st) (S, I, R) else none := rn_bc rfl rfl
theorem e_W_textTold_40 : rn Ls xs d 55 40 [l0, some (.inl x), l2] st H = rn Ls xs d 55 41 [l0, some (.inl x), l2] (.inl x :: st) H := rn_nx rfl rfl
theorem e_W_textTold_41 : rn Ls xs d 55 41 [l0, l1, l2] (.inl i :: .inr (.inl (some a)) :: st) (S, I, R) = if h_ia S a 5 i then (match R a i.toNatClampNeg with | .inl o => rn Ls xs d 55 42 [l0, l1, l2] (.inr (.inl o) :: st) (S, I, R) | .inr _ => none) else none := rn_aald rfl
theorem e_W_textTold_42 : rn Ls xs d 55 42 [l0, l1, l2] (.inr (.inl (some a)) :: st) (S, I, R) = if h_is S a 6 3 then rn Ls xs d 55 45 [l0, l1, l2] (.inl (I a 0) :: st) (S, I, R) else none := rn_bc rfl rfl
theorem e_W_textTold_45 : rn Ls xs d 55 45 [l0, l1, l2] st H = rn Ls xs d 55 60 [l0, l1, l2] st H := rn_nx rfl rfl
theorem e_W_textTold_48 : rn Ls xs d 55 48 [some (.inr u), l1, l2] st H = rn Ls xs d 55 49 [some (.inr u), l1, l2] (.inr u :: st) H := rn_nx rfl rfl
theorem e_W_textTold_49 : rn Ls xs d 55 49 [l0, l1, l2] (.inr (.inl (some a)) :: st) (S, I, R) = if h_is S a 8 10 then rn Ls xs d 55 52 [l0, l1, l2] (.inr (R a 0) :: st) (S, I, R) else none := rn_bc rfl rfl
theorem e_W_textTold_52 : rn Ls xs d 55 52 [l0, l1, l2] (.inr (.inl (some a)) :: st) (S, I, R) = if h_is S a 3 11 then rn Ls xs d 55 55 [l0, l1, l2] (.inr (R a 1) :: st) (S, I, R) else none := rn_bc rfl rfl
theorem e_W_textTold_55 : rn Ls xs d 55 55 [l0, some (.inl x), l2] st H = rn Ls xs d 55 56 [l0, some (.inl x), l2] (.inl x :: st) H := rn_nx rfl rfl
theorem e_W_textTold_56 : rn Ls xs d 55 56 [l0, l1, l2] (.inl i :: .inr (.inl (some a)) :: st) (S, I, R) = if h_ia S a 5 i then (match R a i.toNatClampNeg with | .inl o => rn Ls xs d 55 57 [l0, l1, l2] (.inr (.inl o) :: st) (S, I, R) | .inr _ => none) else none := rn_aald rfl
theorem e_W_textTold_57 : rn Ls xs d 55 57 [l0, l1, l2] (.inr (.inl (some a)) :: st) (S, I, R) = if h_is S a 6 3 then rn Ls xs d 55 60 [l0, l1, l2] (.inl (I a 1) :: st) (S, I, R) else none := rn_bc rfl rfl
theorem e_W_textTold_60 : rn Ls xs d 55 60 [l0, l1, l2] [.inl x] H = some (some (.inl x), H) := rn_done rfl rfl
theorem e_M_textTold_0 : rn Ls xs d 56 0 [l0, some (.inl x), l2] st H = rn Ls xs d 56 1 [l0, some (.inl x), l2] (.inl x :: st) H := rn_nx rfl rfl
theorem e_M_textTold_1 : rn Ls xs d 56 1 [l0, l1, l2]  st H = rn Ls xs d 56 2 [l0, l1, l2] (.inl 0 :: st) H := rn_nx rfl rfl
theorem e_M_textTold_2 : rn Ls xs d 56 2 [some (.inr u), l1, l2] st H = rn Ls xs d 56 3 [some (.inr u), l1, l2] (.inr u :: st) H := rn_nx rfl rfl
theorem e_M_textTold_3 : rn Ls xs d 56 3 [l0, l1, l2] (.inr (.inl (some a)) :: st) (S, I, R) = if h_is S a 9 36 then rn Ls xs d 56 6 [l0, l1, l2] (.inr (R a 0) :: st) (S, I, R) else none := rn_bc rfl rfl
theorem e_M_textTold_6 : rn Ls xs d 56 6 [l0, l1, l2]  st H = rn Ls xs d 56 8 [l0, l1, l2] (.inl 7 :: st) H := rn_nx rfl rfl
theorem e_M_textTold_8 : rn Ls xs d 56 8 [l0, l1, l2] (.inl i :: .inr (.inl (some a)) :: st) (S, I, R) = if h_ia S a 0 i then rn Ls xs d 56 9 [l0, l1, l2] (.inl (I a i.toNatClampNeg) :: st) (S, I, R) else none := rn_bc rfl rfl
theorem e_M_textTold_9 : rn Ls xs d 56 9 [l0, l1, l2]  st H = rn Ls xs d 56 10 [l0, l1, l2] (.inl 1 :: st) H := rn_nx rfl rfl
theorem e_M_textTold_10 : rn Ls xs d 56 10 [l0, l1, l2] (.inl y :: .inl x :: st) H = rn Ls xs d 56 11 [l0, l1, l2] (.inl (x - y) :: st) H := rn_nx rfl rfl
theorem e_M_textTold_11 : rn Ls xs (d + 1) 56 11 [l0, l1, l2] [v2, v1, v0] H = rb Ls xs (d + 1) 56 14 [l0, l1, l2] [] (rn Ls xs d 97 0 [some v0, some v1, some v2] [] H) := rn_call rfl (Nat.le_of_ble_eq_true rfl) (Nat.le_of_ble_eq_true rfl) rfl rfl
theorem e_M_textTold_14 : rn Ls xs d 56 14 [l0, l1, l2] (.inl x :: st) H = if x = 0 then rn Ls xs d 56 26 [l0, l1, l2] st H else rn Ls xs d 56 17 [l0, l1, l2] st H := rn_if (p := fun x => x = 0) rfl
theorem e_M_textTold_17 : rn Ls xs d 56 17 [l0, l1, some (.inl x)] st H = rn Ls xs d 56 18 [l0, l1, some (.inl x)] (.inl x :: st) H := rn_nx rfl rfl
theorem e_M_textTold_18 : rn Ls xs d 56 18 [l0, l1, l2]  st H = rn Ls xs d 56 19 [l0, l1, l2] (.inl 0 :: st) H := rn_nx rfl rfl
theorem e_M_textTold_19 : rn Ls xs d 56 19 [l0, l1, l2]  st H = rn Ls xs d 56 20 [l0, l1, l2] (.inl 1 :: st) H := rn_nx rfl rfl
theorem e_M_textTold_20 : rn Ls xs (d + 1) 56 20 [l0, l1, l2] [v2, v1, v0] H = rb Ls xs (d + 1) 56 23 [l0, l1, l2] [] (rn Ls xs d 97 0 [some v0, some v1, some v2] [] H) := rn_call rfl (Nat.le_of_ble_eq_true rfl) (Nat.le_of_ble_eq_true rfl) rfl rfl
theorem e_M_textTold_23 : rn Ls xs d 56 23 [l0, l1, l2] (.inl x :: st) H = if x ≠ 0 then rn Ls xs d 56 29 [l0, l1, l2] st H else rn Ls xs d 56 26 [l0, l1, l2] st H := rn_if (p := fun x => x ≠ 0) rfl
theorem e_M_textTold_26 : rn Ls xs d 56 26 [l0, l1, l2]  st H = rn Ls xs d 56 28 [l0, l1, l2] (.inl (-1000000001) :: st) H := rn_nx rfl rfl
theorem e_M_textTold_28 : rn Ls xs d 56 28 [l0, l1, l2] [.inl x] H = some (some (.inl x), H) := rn_done rfl rfl
theorem e_M_textTold_29 : rn Ls xs d 56 29 [l0, l1, some (.inl x)] st H = rn Ls xs d 56 30 [l0, l1, some (.inl x)] (.inl x :: st) H := rn_nx rfl rfl
theorem e_M_textTold_30 : rn Ls xs d 56 30 [l0, l1, l2] (.inl x :: st) H = if x ≠ 0 then rn Ls xs d 56 51 [l0, l1, l2] st H else rn Ls xs d 56 33 [l0, l1, l2] st H := rn_if (p := fun x => x ≠ 0) rfl
theorem e_M_textTold_33 : rn Ls xs d 56 33 [some (.inr u), l1, l2] st H = rn Ls xs d 56 34 [some (.inr u), l1, l2] (.inr u :: st) H := rn_nx rfl rfl
theorem e_M_textTold_34 : rn Ls xs d 56 34 [l0, l1, l2] (.inr (.inl (some a)) :: st) (S, I, R) = if h_is S a 9 36 then rn Ls xs d 56 37 [l0, l1, l2] (.inr (R a 0) :: st) (S, I, R) else none := rn_bc rfl rfl
theorem e_M_textTold_37 : rn Ls xs d 56 37 [l0, l1, l2]  st H = rn Ls xs d 56 39 [l0, l1, l2] (.inl 92 :: st) H := rn_nx rfl rfl
theorem e_M_textTold_39 : rn Ls xs d 56 39 [l0, l1, l2]  st H = rn Ls xs d 56 40 [l0, l1, l2] (.inl 2 :: st) H := rn_nx rfl rfl
theorem e_M_textTold_40 : rn Ls xs d 56 40 [l0, some (.inl x), l2] st H = rn Ls xs d 56 41 [l0, some (.inl x), l2] (.inl x :: st) H := rn_nx rfl rfl
theorem e_M_textTold_41 : rn Ls xs d 56 41 [l0, l1, l2] (.inl y :: .inl x :: st) H = rn Ls xs d 56 42 [l0, l1, l2] (.inl (x * y) :: st) H := rn_nx rfl rfl
theorem e_M_textTold_42 : rn Ls xs d 56 42 [l0, l1, l2] (.inl y :: .inl x :: st) H = rn Ls xs d 56 43 [l0, l1, l2] (.inl (x + y) :: st) H := rn_nx rfl rfl
theorem e_M_textTold_43 : rn Ls xs d 56 43 [l0, l1, l2] (.inl i :: .inr (.inl (some a)) :: st) (S, I, R) = if h_ia S a 0 i then rn Ls xs d 56 44 [l0, l1, l2] (.inl (I a i.toNatClampNeg) :: st) (S, I, R) else none := rn_bc rfl rfl
theorem e_M_textTold_44 : rn Ls xs d 56 44 [l0, l1, l2]  st H = rn Ls xs d 56 47 [l0, l1, l2] (.inl 1000 :: st) H := rn_nx rfl rfl
theorem e_M_textTold_47 : rn Ls xs d 56 47 [l0, l1, l2] (.inl y :: .inl x :: st) H = if y = 0 then none else rn Ls xs d 56 48 [l0, l1, l2] (.inl (x / y) :: st) H := rn_div (f := fun x y => x / y) rfl
theorem e_M_textTold_48 : rn Ls xs d 56 48 [l0, l1, l2] st H = rn Ls xs d 56 64 [l0, l1, l2] st H := rn_nx rfl rfl
theorem e_M_textTold_51 : rn Ls xs d 56 51 [some (.inr u), l1, l2] st H = rn Ls xs d 56 52 [some (.inr u), l1, l2] (.inr u :: st) H := rn_nx rfl rfl
theorem e_M_textTold_52 : rn Ls xs d 56 52 [l0, l1, l2] (.inr (.inl (some a)) :: st) (S, I, R) = if h_is S a 9 36 then rn Ls xs d 56 55 [l0, l1, l2] (.inr (R a 0) :: st) (S, I, R) else none := rn_bc rfl rfl
theorem e_M_textTold_55 : rn Ls xs d 56 55 [l0, l1, l2]  st H = rn Ls xs d 56 57 [l0, l1, l2] (.inl 92 :: st) H := rn_nx rfl rfl
theorem e_M_textTold_57 : rn Ls xs d 56 57 [l0, l1, l2]  st H = rn Ls xs d 56 58 [l0, l1, l2] (.inl 2 :: st) H := rn_nx rfl rfl
theorem e_M_textTold_58 : rn Ls xs d 56 58 [l0, some (.inl x), l2] st H = rn Ls xs d 56 59 [l0, some (.inl x), l2] (.inl x :: st) H := rn_nx rfl rfl
theorem e_M_textTold_59 : rn Ls xs d 56 59 [l0, l1, l2] (.inl y :: .inl x :: st) H = rn Ls xs d 56 60 [l0, l1, l2] (.inl (x * y) :: st) H := rn_nx rfl rfl
theorem e_M_textTold_60 : rn Ls xs d 56 60 [l0, l1, l2] (.inl y :: .inl x :: st) H = rn Ls xs d 56 61 [l0, l1, l2] (.inl (x + y) :: st) H := rn_nx rfl rfl
theorem e_M_textTold_61 : rn Ls xs d 56 61 [l0, l1, l2]  st H = rn Ls xs d 56 62 [l0, l1, l2] (.inl 1 :: st) H := rn_nx rfl rfl
theorem e_M_textTold_62 : rn Ls xs d 56 62 [l0, l1, l2] (.inl y :: .inl x :: st) H = rn Ls xs d 56 63 [l0, l1, l2] (.inl (x + y) :: st) H := rn_nx rfl rfl
theorem e_M_textTold_63 : rn Ls xs d 56 63 [l0, l1, l2] (.inl i :: .inr (.inl (some a)) :: st) (S, I, R) = if h_ia S a 0 i then rn Ls xs d 56 64 [l0, l1, l2] (.inl (I a i.toNatClampNeg) :: st) (S, I, R) else none := rn_bc rfl rfl
theorem e_M_textTold_64 : rn Ls xs d 56 64 [l0, l1, l2] [.inl x] H = some (some (.inl x), H) := rn_done rfl rfl
theorem e_W_why_0 : rn Ls xs d 57 0 [l0, some (.inl x), l2] st H = rn Ls xs d 57 1 [l0, some (.inl x), l2] (.inl x :: st) H := rn_nx rfl rfl
theorem e_W_why_1 : rn Ls xs d 57 1 [l0, l1, l2]  st H = rn Ls xs d 57 2 [l0, l1, l2] (.inl 0 :: st) H := rn_nx rfl rfl
theorem e_W_why_2 : rn Ls xs d 57 2 [l0, l1, l2]  st H = rn Ls xs d 57 3 [l0, l1, l2] (.inl 2 :: st) H := rn_nx rfl rfl
theorem e_W_why_3 : rn Ls xs (d + 1) 57 3 [l0, l1, l2] [v2, v1, v0] H = rb Ls xs (d + 1) 57 6 [l0, l1, l2] [] (rn Ls xs d 94 0 [some v0, some v1, some v2] [] H) := rn_call rfl (Nat.le_of_ble_eq_true rfl) (Nat.le_of_ble_eq_true rfl) rfl rfl
theorem e_W_why_6 : rn Ls xs d 57 6 [l0, l1, l2] (.inl x :: st) H = if x ≠ 0 then rn Ls xs d 57 12 [l0, l1, l2] st H else rn Ls xs d 57 9 [l0, l1, l2] st H := rn_if (p := fun x => x ≠ 0) rfl
theorem e_W_why_9 : rn Ls xs d 57 9 [l0, l1, l2]  st H = rn Ls xs d 57 11 [l0, l1, l2] (.inl (-1000000001) :: st) H := rn_nx rfl rfl
theorem e_W_why_11 : rn Ls xs d 57 11 [l0, l1, l2] [.inl x] H = some (some (.inl x), H) := rn_done rfl rfl
theorem e_W_why_12 : rn Ls xs d 57 12 [some (.inr u), l1, l2] st H = rn Ls xs d 57 13 [some (.inr u), l1, l2] (.inr u :: st) H := rn_nx rfl rfl
theorem e_W_why_13 : rn Ls xs d 57 13 [l0, l1, l2] (.inr (.inl (some a)) :: st) (S, I, R) = if h_is S a 8 10 then rn Ls xs d 57 16 [l0, l1, l2] (.inr (R a 0) :: st) (S, I, R) else none := rn_bc rfl rfl
theorem e_W_why_16 : rn Ls xs d 57 16 [l0, some (.inl x), l2] st H = rn Ls xs d 57 17 [l0, some (.inl x), l2] (.inl x :: st) H := rn_nx rfl rfl
theorem e_W_why_17 : rn Ls xs (d + 1) 57 17 [l0, l1, l2] [v1, (.inr (.inl (some a)))] (S, I, R) = if h_is S a 3 11 then rb Ls xs (d + 1) 57 20 [l0, l1, l2] [] (rn Ls xs d 149 0 [some (.inr (.inl (some a))), some v1, none] [] (S, I, R)) else none := rn_callO rfl rfl (Nat.le_of_ble_eq_true rfl) rfl rfl
theorem e_W_why_20 : rn Ls xs d 57 20 [l0, l1, l2] (.inl x :: st) H = rn Ls xs d 57 21 [l0, l1, some (.inl x)] st H := rn_nx rfl rfl
theorem e_W_why_21 : rn Ls xs d 57 21 [l0, l1, some (.inl x)] st H = rn Ls xs d 57 22 [l0, l1, some (.inl x)] (.inl x :: st) H := rn_nx rfl rfl
theorem e_W_why_22 : rn Ls xs d 57 22 [l0, l1, l2] (.inl x :: st) H = if 0 ≤ x then rn Ls xs d 57 31 [l0, l1, l2] st H else rn Ls xs d 57 25 [l0, l1, l2] st H := rn_if (p := fun x => 0 ≤ x) rfl
theorem e_W_why_25 : rn Ls xs d 57 25 [l0, l1, l2]  st H = rn Ls xs d 57 28 [l0, l1, l2] (.inl (-1000000005) :: st) H := rn_nx rfl rfl
theorem e_W_why_28 : rn Ls xs d 57 28 [l0, l1, l2] st H = rn Ls xs d 57 32 [l0, l1, l2] st H := rn_nx rfl rfl
theorem e_W_why_31 : rn Ls xs d 57 31 [l0, l1, some (.inl x)] st H = rn Ls xs d 57 32 [l0, l1, some (.inl x)] (.inl x :: st) H := rn_nx rfl rfl
theorem e_W_why_32 : rn Ls xs d 57 32 [l0, l1, l2] [.inl x] H = some (some (.inl x), H) := rn_done rfl rfl
theorem e_M_why_0 : rn Ls xs d 58 0 [l0, some (.inl x), l2] st H = rn Ls xs d 58 1 [l0, some (.inl x), l2] (.inl x :: st) H := rn_nx rfl rfl
theorem e_M_why_1 : rn Ls xs d 58 1 [l0, l1, l2]  st H = rn Ls xs d 58 2 [l0, l1, l2] (.inl 0 :: st) H := rn_nx rfl rfl
theorem e_M_why_2 : rn Ls xs d 58 2 [l0, l1, l2]  st H = rn Ls xs d 58 3 [l0, l1, l2] (.inl 2 :: st) H := rn_nx rfl rfl
theorem e_M_why_3 : rn Ls xs (d + 1) 58 3 [l0, l1, l2] [v2, v1, v0] H = rb Ls xs (d + 1) 58 6 [l0, l1, l2] [] (rn Ls xs d 97 0 [some v0, some v1, some v2] [] H) := rn_call rfl (Nat.le_of_ble_eq_true rfl) (Nat.le_of_ble_eq_true rfl) rfl rfl
theorem e_M_why_6 : rn Ls xs d 58 6 [l0, l1, l2] (.inl x :: st) H = if x ≠ 0 then rn Ls xs d 58 12 [l0, l1, l2] st H else rn Ls xs d 58 9 [l0, l1, l2] st H := rn_if (p := fun x => x ≠ 0) rfl
theorem e_M_why_9 : rn Ls xs d 58 9 [l0, l1, l2]  st H = rn Ls xs d 58 11 [l0, l1, l2] (.inl (-1000000001) :: st) H := rn_nx rfl rfl
theorem e_M_why_11 : rn Ls xs d 58 11 [l0, l1, l2] [.inl x] H = some (some (.inl x), H) := rn_done rfl rfl
theorem e_M_why_12 : rn Ls xs d 58 12 [some (.inr u), l1, l2] st H = rn Ls xs d 58 13 [some (.inr u), l1, l2] (.inr u :: st) H := rn_nx rfl rfl
theorem e_M_why_13 : rn Ls xs d 58 13 [l0, some (.inl x), l2] st H = rn Ls xs d 58 14 [l0, some (.inl x), l2] (.inl x :: st) H := rn_nx rfl rfl
theorem e_M_why_14 : rn Ls xs (d + 1) 58 14 [l0, l1, l2] [v1, (.inr (.inl (some a)))] (S, I, R) = if h_is S a 9 36 then rb Ls xs (d + 1) 58 17 [l0, l1, l2] [] (rn Ls xs d 151 0 [some (.inr (.inl (some a))), some v1, none] [] (S, I, R)) else none := rn_callO rfl rfl (Nat.le_of_ble_eq_true rfl) rfl rfl
theorem e_M_why_17 : rn Ls xs d 58 17 [l0, l1, l2] (.inl x :: st) H = rn Ls xs d 58 18 [l0, l1, some (.inl x)] st H := rn_nx rfl rfl
theorem e_M_why_18 : rn Ls xs d 58 18 [l0, l1, some (.inl x)] st H = rn Ls xs d 58 19 [l0, l1, some (.inl x)] (.inl x :: st) H := rn_nx rfl rfl
theorem e_M_why_19 : rn Ls xs d 58 19 [l0, l1, l2] (.inl x :: st) H = if 0 ≤ x then rn Ls xs d 58 27 [l0, l1, l2] st H else rn Ls xs d 58 22 [l0, l1, l2] st H := rn_if (p := fun x => 0 ≤ x) rfl
theorem e_M_why_22 : rn Ls xs d 58 22 [l0, l1, l2]  st H = rn Ls xs d 58 24 [l0, l1, l2] (.inl (-1000000005) :: st) H := rn_nx rfl rfl
theorem e_M_why_24 : rn Ls xs d 58 24 [l0, l1, l2] st H = rn Ls xs d 58 28 [l0, l1, l2] st H := rn_nx rfl rfl
theorem e_M_why_27 : rn Ls xs d 58 27 [l0, l1, some (.inl x)] st H = rn Ls xs d 58 28 [l0, l1, some (.inl x)] (.inl x :: st) H := rn_nx rfl rfl
theorem e_M_why_28 : rn Ls xs d 58 28 [l0, l1, l2] [.inl x] H = some (some (.inl x), H) := rn_done rfl rfl
theorem e_W_sheet_0 : rn Ls xs d 59 0 [l0, some (.inl x), l2, l3, l4] st H = rn Ls xs d 59 1 [l0, some (.inl x), l2, l3, l4] (.inl x :: st) H := rn_nx rfl rfl
theorem e_W_sheet_1 : rn Ls xs (d + 1) 59 1 [l0, l1, l2, l3, l4] [v0] H = rb Ls xs (d + 1) 59 4 [l0, l1, l2, l3, l4] [] (rn Ls xs d 143 0 [some v0] [] H) := rn_call rfl (Nat.le_of_ble_eq_true rfl) (Nat.le_of_ble_eq_true rfl) rfl rfl
theorem e_W_sheet_4 : rn Ls xs d 59 4 [l0, l1, l2, l3, l4] (.inl x :: st) H = if x = 0 then rn Ls xs d 59 16 [l0, l1, l2, l3, l4] st H else rn Ls xs d 59 7 [l0, l1, l2, l3, l4] st H := rn_if (p := fun x => x = 0) rfl
theorem e_W_sheet_7 : rn Ls xs d 59 7 [l0, l1, some (.inl x), l3, l4] st H = rn Ls xs d 59 8 [l0, l1, some (.inl x), l3, l4] (.inl x :: st) H := rn_nx rfl rfl
theorem e_W_sheet_8 : rn Ls xs d 59 8 [l0, l1, l2, l3, l4]  st H = rn Ls xs d 59 9 [l0, l1, l2, l3, l4] (.inl (-1) :: st) H := rn_nx rfl rfl
theorem e_W_sheet_9 : rn Ls xs d 59 9 [l0, l1, l2, l3, l4]  st H = rn Ls xs d 59 10 [l0, l1, l2, l3, l4] (.inl 1 :: st) H := rn_nx rfl rfl
theorem e_W_sheet_10 : rn Ls xs (d + 1) 59 10 [l0, l1, l2, l3, l4] [v2, v1, v0] H = rb Ls xs (d + 1) 59 13 [l0, l1, l2, l3, l4] [] (rn Ls xs d 94 0 [some v0, some v1, some v2] [] H) := rn_call rfl (Nat.le_of_ble_eq_true rfl) (Nat.le_of_ble_eq_true rfl) rfl rfl
theorem e_W_sheet_13 : rn Ls xs d 59 13 [l0, l1, l2, l3, l4] (.inl x :: st) H = if x ≠ 0 then rn Ls xs d 59 19 [l0, l1, l2, l3, l4] st H else rn Ls xs d 59 16 [l0, l1, l2, l3, l4] st H := rn_if (p := fun x => x ≠ 0) rfl
theorem e_W_sheet_16 : rn Ls xs d 59 16 [l0, l1, l2, l3, l4]  st H = rn Ls xs d 59 18 [l0, l1, l2, l3, l4] (.inl (-1000000001) :: st) H := rn_nx rfl rfl
theorem e_W_sheet_18 : rn Ls xs d 59 18 [l0, l1, l2, l3, l4] [.inl x] H = some (some (.inl x), H) := rn_done rfl rfl
theorem e_W_sheet_19 : rn Ls xs d 59 19 [l0, l1, some (.inl x), l3, l4] st H = rn Ls xs d 59 20 [l0, l1, some (.inl x), l3, l4] (.inl x :: st) H := rn_nx rfl rfl
theorem e_W_sheet_20 : rn Ls xs d 59 20 [l0, l1, l2, l3, l4]  st H = rn Ls xs d 59 21 [l0, l1, l2, l3, l4] (.inl (-1) :: st) H := rn_nx rfl rfl
theorem e_W_sheet_21 : rn Ls xs d 59 21 [l0, l1, l2, l3, l4] (.inl y :: .inl x :: st) H = if x ≠ y then rn Ls xs d 59 28 [l0, l1, l2, l3, l4] st H else rn Ls xs d 59 24 [l0, l1, l2, l3, l4] st H := rn_cmp (p := fun x y => x ≠ y) rfl
theorem e_W_sheet_24 : rn Ls xs d 59 24 [l0, l1, l2, l3, l4]  st H = rn Ls xs d 59 25 [l0, l1, l2, l3, l4] (.inl 0 :: st) H := rn_nx rfl rfl
theorem e_W_sheet_25 : rn Ls xs d 59 25 [l0, l1, l2, l3, l4] st H = rn Ls xs d 59 29 [l0, l1, l2, l3, l4] st H := rn_nx rfl rfl
theorem e_W_sheet_28 : rn Ls xs d 59 28 [l0, l1, l2, some (.inl x), l4] st H = rn Ls xs d 59 29 [l0, l1, l2, some (.inl x), l4] (.inl x :: st) H := rn_nx rfl rfl
theorem e_W_sheet_29 : rn Ls xs d 59 29 [l0, l1, l2, l3, l4] (.inl x :: st) H = rn Ls xs d 59 31 [l0, l1, l2, l3, some (.inl x)] st H := rn_nx rfl rfl
theorem e_W_sheet_31 : rn Ls xs d 59 31 [l0, l1, l2, l3, some (.inl x)] st H = rn Ls xs d 59 33 [l0, l1, l2, l3, some (.inl x)] (.inl x :: st) H := rn_nx rfl rfl
theorem e_W_sheet_33 : rn Ls xs d 59 33 [l0, l1, l2, l3, l4]  st H = rn Ls xs d 59 35 [l0, l1, l2, l3, l4] (.inl 24 :: st) H := rn_nx rfl rfl
theorem e_W_sheet_35 : rn Ls xs d 59 35 [l0, l1, l2, l3, l4] (.inl y :: .inl x :: st) H = if x ≤ y then rn Ls xs d 59 41 [l0, l1, l2, l3, l4] st H else rn Ls xs d 59 38 [l0, l1, l2, l3, l4] st H := rn_cmp (p := fun x y => x ≤ y) rfl
theorem e_W_sheet_38 : rn Ls xs d 59 38 [l0, l1, l2, l3, l4]  st H = rn Ls xs d 59 40 [l0, l1, l2, l3, l4] (.inl (-1000000001) :: st) H := rn_nx rfl rfl
theorem e_W_sheet_40 : rn Ls xs d 59 40 [l0, l1, l2, l3, l4] [.inl x] H = some (some (.inl x), H) := rn_done rfl rfl
theorem e_W_sheet_41 : rn Ls xs d 59 41 [l0, l1, l2, l3, some (.inl x)] st H = rn Ls xs d 59 43 [l0, l1, l2, l3, some (.inl x)] (.inl x :: st) H := rn_nx rfl rfl
theorem e_W_sheet_43 : rn Ls xs d 59 43 [l0, l1, l2, l3, l4] (.inl x :: st) H = if 0 ≤ x then rn Ls xs d 59 50 [l0, l1, l2, l3, l4] st H else rn Ls xs d 59 46 [l0, l1, l2, l3, l4] st H := rn_if (p := fun x => 0 ≤ x) rfl
theorem e_W_sheet_46 : rn Ls xs d 59 46 [l0, l1, l2, l3, l4]  st H = rn Ls xs d 59 49 [l0, l1, l2, l3, l4] (.inl (-1000000014) :: st) H := rn_nx rfl rfl
theorem e_W_sheet_49 : rn Ls xs d 59 49 [l0, l1, l2, l3, l4] [.inl x] H = some (some (.inl x), H) := rn_done rfl rfl
theorem e_W_sheet_50 : rn Ls xs d 59 50 [some (.inr u), l1, l2, l3, l4] st H = rn Ls xs d 59 51 [some (.inr u), l1, l2, l3, l4] (.inr u :: st) H := rn_nx rfl rfl
theorem e_W_sheet_51 : rn Ls xs d 59 51 [l0, l1, l2, l3, l4] (.inr (.inl (some a)) :: st) (S, I, R) = if h_is S a 8 10 then rn Ls xs d 59 54 [l0, l1, l2, l3, l4] (.inr (R a 5) :: st) (S, I, R) else none := rn_bc rfl rfl
theorem e_W_sheet_54 : rn Ls xs d 59 54 [l0, some (.inl x), l2, l3, l4] st H = rn Ls xs d 59 55 [l0, some (.inl x), l2, l3, l4] (.inl x :: st) H := rn_nx rfl rfl
theorem e_W_sheet_55 : rn Ls xs d 59 55 [l0, l1, l2, l3, l4] (.inl i :: .inr (.inl (some a)) :: st) (S, I, R) = if h_ia S a 6 i then (match R a i.toNatClampNeg with | .inl o => rn Ls xs d 59 56 [l0, l1, l2, l3, l4] (.inr (.inl o) :: st) (S, I, R) | .inr _ => none) else none := rn_aald rfl
theorem e_W_sheet_56 : rn Ls xs d 59 56 [l0, l1, some (.inl x), l3, l4] st H = rn Ls xs d 59 57 [l0, l1, some (.inl x), l3, l4] (.inl x :: st) H := rn_nx rfl rfl
theorem e_W_sheet_57 : rn Ls xs d 59 57 [l0, l1, l2, l3, some (.inl x)] st H = rn Ls xs d 59 59 [l0, l1, l2, l3, some (.inl x)] (.inl x :: st) H := rn_nx rfl rfl
theorem e_W_sheet_59 : rn Ls xs (d + 1) 59 59 [l0, l1, l2, l3, l4] [v2, v1, (.inr (.inl (some a)))] (S, I, R) = if h_is S a 2 3 then rb Ls xs (d + 1) 59 62 [l0, l1, l2, l3, l4] [] (rn Ls xs d 160 0 [some (.inr (.inl (some a))), some v1, some v2] [] (S, I, R)) else none := rn_callO rfl rfl (Nat.le_of_ble_eq_true rfl) rfl rfl
theorem e_W_sheet_62 : rn Ls xs d 59 62 [l0, l1, l2, l3, some (.inl x)] st H = rn Ls xs d 59 64 [l0, l1, l2, l3, some (.inl x)] (.inl x :: st) H := rn_nx rfl rfl
theorem e_W_sheet_64 : rn Ls xs d 59 64 [l0, l1, l2, l3, l4] [.inl x] H = some (some (.inl x), H) := rn_done rfl rfl
theorem e_M_sheet_0 : rn Ls xs d 60 0 [l0, some (.inl x), l2, l3, l4] st H = rn Ls xs d 60 1 [l0, some (.inl x), l2, l3, l4] (.inl x :: st) H := rn_nx rfl rfl
theorem e_M_sheet_1 : rn Ls xs (d + 1) 60 1 [l0, l1, l2, l3, l4] [v0] H = rb Ls xs (d + 1) 60 4 [l0, l1, l2, l3, l4] [] (rn Ls xs d 146 0 [some v0] [] H) := rn_call rfl (Nat.le_of_ble_eq_true rfl) (Nat.le_of_ble_eq_true rfl) rfl rfl
theorem e_M_sheet_4 : rn Ls xs d 60 4 [l0, l1, l2, l3, l4] (.inl x :: st) H = if x = 0 then rn Ls xs d 60 26 [l0, l1, l2, l3, l4] st H else rn Ls xs d 60 7 [l0, l1, l2, l3, l4] st H := rn_if (p := fun x => x = 0) rfl
theorem e_M_sheet_7 : rn Ls xs d 60 7 [l0, l1, some (.inl x), l3, l4] st H = rn Ls xs d 60 8 [l0, l1, some (.inl x), l3, l4] (.inl x :: st) H := rn_nx rfl rfl
theorem e_M_sheet_8 : rn Ls xs d 60 8 [l0, l1, l2, l3, l4]  st H = rn Ls xs d 60 9 [l0, l1, l2, l3, l4] (.inl (-1) :: st) H := rn_nx rfl rfl
theorem e_M_sheet_9 : rn Ls xs d 60 9 [l0, l1, l2, l3, l4]  st H = rn Ls xs d 60 10 [l0, l1, l2, l3, l4] (.inl 1 :: st) H := rn_nx rfl rfl
theorem e_M_sheet_10 : rn Ls xs (d + 1) 60 10 [l0, l1, l2, l3, l4] [v2, v1, v0] H = rb Ls xs (d + 1) 60 13 [l0, l1, l2, l3, l4] [] (rn Ls xs d 97 0 [some v0, some v1, some v2] [] H) := rn_call rfl (Nat.le_of_ble_eq_true rfl) (Nat.le_of_ble_eq_true rfl) rfl rfl
theorem e_M_sheet_13 : rn Ls xs d 60 13 [l0, l1, l2, l3, l4] (.inl x :: st) H = if x = 0 then rn Ls xs d 60 26 [l0, l1, l2, l3, l4] st H else rn Ls xs d 60 16 [l0, l1, l2, l3, l4] st H := rn_if (p := fun x => x = 0) rfl
theorem e_M_sheet_16 : rn Ls xs d 60 16 [l0, l1, some (.inl x), l3, l4] st H = rn Ls xs d 60 17 [l0, l1, some (.inl x), l3, l4] (.inl x :: st) H := rn_nx rfl rfl
theorem e_M_sheet_17 : rn Ls xs d 60 17 [l0, l1, l2, l3, l4] (.inl x :: st) H = if x < 0 then rn Ls xs d 60 29 [l0, l1, l2, l3, l4] st H else rn Ls xs d 60 20 [l0, l1, l2, l3, l4] st H := rn_if (p := fun x => x < 0) rfl
theorem e_M_sheet_20 : rn Ls xs d 60 20 [l0, l1, l2, some (.inl x), l4] st H = rn Ls xs d 60 21 [l0, l1, l2, some (.inl x), l4] (.inl x :: st) H := rn_nx rfl rfl
theorem e_M_sheet_21 : rn Ls xs d 60 21 [l0, l1, l2, l3, l4]  st H = rn Ls xs d 60 23 [l0, l1, l2, l3, l4] (.inl 24 :: st) H := rn_nx rfl rfl
theorem e_M_sheet_23 : rn Ls xs d 60 23 [l0, l1, l2, l3, l4] (.inl y :: .inl x :: st) H = if x ≤ y then rn Ls xs d 60 29 [l0, l1, l2, l3, l4] st H else rn Ls xs d 60 26 [l0, l1, l2, l3, l4] st H := rn_cmp (p := fun x y => x ≤ y) rfl
theorem e_M_sheet_26 : rn Ls xs d 60 26 [l0, l1, l2, l3, l4]  st H = rn Ls xs d 60 28 [l0, l1, l2, l3, l4] (.inl (-1000000001) :: st) H := rn_nx rfl rfl
theorem e_M_sheet_28 : rn Ls xs d 60 28 [l0, l1, l2, l3, l4] [.inl x] H = some (some (.inl x), H) := rn_done rfl rfl
theorem e_M_sheet_29 : rn Ls xs d 60 29 [l0, l1, some (.inl x), l3, l4] st H = rn Ls xs d 60 30 [l0, l1, some (.inl x), l3, l4] (.inl x :: st) H := rn_nx rfl rfl
theorem e_M_sheet_30 : rn Ls xs d 60 30 [l0, l1, l2, l3, l4] (.inl x :: st) H = if x < 0 then rn Ls xs d 60 41 [l0, l1, l2, l3, l4] st H else rn Ls xs d 60 33 [l0, l1, l2, l3, l4] st H := rn_if (p := fun x => x < 0) rfl
theorem e_M_sheet_33 : rn Ls xs d 60 33 [l0, l1, l2, some (.inl x), l4] st H = rn Ls xs d 60 34 [l0, l1, l2, some (.inl x), l4] (.inl x :: st) H := rn_nx rfl rfl
theorem e_M_sheet_34 : rn Ls xs d 60 34 [l0, l1, l2, l3, l4] (.inl x :: st) H = if 0 ≤ x then rn Ls xs d 60 41 [l0, l1, l2, l3, l4] st H else rn Ls xs d 60 37 [l0, l1, l2, l3, l4] st H := rn_if (p := fun x => 0 ≤ x) rfl
theorem e_M_sheet_37 : rn Ls xs d 60 37 [l0, l1, l2, l3, l4]  st H = rn Ls xs d 60 40 [l0, l1, l2, l3, l4] (.inl (-1000000014) :: st) H := rn_nx rfl rfl
theorem e_M_sheet_40 : rn Ls xs d 60 40 [l0, l1, l2, l3, l4] [.inl x] H = some (some (.inl x), H) := rn_done rfl rfl
theorem e_M_sheet_41 : rn Ls xs d 60 41 [some (.inr u), l1, l2, l3, l4] st H = rn Ls xs d 60 42 [some (.inr u), l1, l2, l3, l4] (.inr u :: st) H := rn_nx rfl rfl
theorem e_M_sheet_42 : rn Ls xs d 60 42 [l0, l1, l2, l3, l4] (.inr (.inl (some a)) :: st) (S, I, R) = if h_is S a 9 36 then rn Ls xs d 60 45 [l0, l1, l2, l3, l4] (.inr (R a 26) :: st) (S, I, R) else none := rn_bc rfl rfl
theorem e_M_sheet_45 : rn Ls xs d 60 45 [l0, some (.inl x), l2, l3, l4] st H = rn Ls xs d 60 46 [l0, some (.inl x), l2, l3, l4] (.inl x :: st) H := rn_nx rfl rfl
theorem e_M_sheet_46 : rn Ls xs d 60 46 [l0, l1, some (.inl x), l3, l4] st H = rn Ls xs d 60 47 [l0, l1, some (.inl x), l3, l4] (.inl x :: st) H := rn_nx rfl rfl
theorem e_M_sheet_47 : rn Ls xs d 60 47 [l0, l1, l2, l3, l4] (.inl x :: .inl i :: .inr (.inl (some a)) :: st) (S, I, R) = if h_ia S a 0 i then rn Ls xs d 60 48 [l0, l1, l2, l3, l4] st (S, va_up I a (upd (I a) i.toNatClampNeg x), R) else none := rn_bc rfl rfl
theorem e_M_sheet_48 : rn Ls xs d 60 48 [some (.inr u), l1, l2, l3, l4] st H = rn Ls xs d 60 49 [some (.inr u), l1, l2, l3, l4] (.inr u :: st) H := rn_nx rfl rfl
theorem e_M_sheet_49 : rn Ls xs d 60 49 [l0, l1, l2, l3, l4] (.inr (.inl (some a)) :: st) (S, I, R) = if h_is S a 9 36 then rn Ls xs d 60 52 [l0, l1, l2, l3, l4] (.inr (R a 27) :: st) (S, I, R) else none := rn_bc rfl rfl
theorem e_M_sheet_52 : rn Ls xs d 60 52 [l0, some (.inl x), l2, l3, l4] st H = rn Ls xs d 60 53 [l0, some (.inl x), l2, l3, l4] (.inl x :: st) H := rn_nx rfl rfl
theorem e_M_sheet_53 : rn Ls xs d 60 53 [l0, l1, some (.inl x), l3, l4] st H = rn Ls xs d 60 54 [l0, l1, some (.inl x), l3, l4] (.inl x :: st) H := rn_nx rfl rfl
theorem e_M_sheet_54 : rn Ls xs d 60 54 [l0, l1, l2, l3, l4] (.inl x :: st) H = if 0 ≤ x then rn Ls xs d 60 61 [l0, l1, l2, l3, l4] st H else rn Ls xs d 60 57 [l0, l1, l2, l3, l4] st H := rn_if (p := fun x => 0 ≤ x) rfl
theorem e_M_sheet_57 : rn Ls xs d 60 57 [l0, l1, l2, l3, l4]  st H = rn Ls xs d 60 58 [l0, l1, l2, l3, l4] (.inl 0 :: st) H := rn_nx rfl rfl
theorem e_M_sheet_58 : rn Ls xs d 60 58 [l0, l1, l2, l3, l4] st H = rn Ls xs d 60 62 [l0, l1, l2, l3, l4] st H := rn_nx rfl rfl
theorem e_M_sheet_61 : rn Ls xs d 60 61 [l0, l1, l2, some (.inl x), l4] st H = rn Ls xs d 60 62 [l0, l1, l2, some (.inl x), l4] (.inl x :: st) H := rn_nx rfl rfl
theorem e_M_sheet_62 : rn Ls xs d 60 62 [l0, l1, l2, l3, l4] (.inl x :: .inl i :: .inr (.inl (some a)) :: st) (S, I, R) = if h_ia S a 0 i then rn Ls xs d 60 63 [l0, l1, l2, l3, l4] st (S, va_up I a (upd (I a) i.toNatClampNeg x), R) else none := rn_bc rfl rfl
theorem e_M_sheet_63 : rn Ls xs d 60 63 [l0, l1, l2, l3, l4]  st H = rn Ls xs d 60 64 [l0, l1, l2, l3, l4] (.inl 0 :: st) H := rn_nx rfl rfl
theorem e_M_sheet_64 : rn Ls xs d 60 64 [l0, l1, l2, l3, l4] (.inl x :: st) H = rn Ls xs d 60 66 [l0, l1, l2, l3, some (.inl x)] st H := rn_nx rfl rfl
theorem e_M_sheet_66 : rn Ls xs d 60 66 [l0, l1, l2, l3, some (.inl x)] st H = rn Ls xs d 60 68 [l0, l1, l2, l3, some (.inl x)] (.inl x :: st) H := rn_nx rfl rfl
theorem e_M_sheet_68 : rn Ls xs d 60 68 [l0, l1, l2, l3, l4]  st H = rn Ls xs d 60 70 [l0, l1, l2, l3, l4] (.inl 24 :: st) H := rn_nx rfl rfl
theorem e_M_sheet_70 : rn Ls xs d 60 70 [l0, l1, l2, l3, l4] (.inl y :: .inl x :: st) H = if y ≤ x then rn Ls xs d 60 92 [l0, l1, l2, l3, l4] st H else rn Ls xs d 60 73 [l0, l1, l2, l3, l4] st H := rn_cmp (p := fun x y => y ≤ x) rfl
theorem e_M_sheet_73 : rn Ls xs d 60 73 [some (.inr u), l1, l2, l3, l4] st H = rn Ls xs d 60 74 [some (.inr u), l1, l2, l3, l4] (.inr u :: st) H := rn_nx rfl rfl
theorem e_M_sheet_74 : rn Ls xs d 60 74 [l0, l1, l2, l3, l4] (.inr (.inl (some a)) :: st) (S, I, R) = if h_is S a 9 36 then rn Ls xs d 60 77 [l0, l1, l2, l3, l4] (.inr (R a 28) :: st) (S, I, R) else none := rn_bc rfl rfl
theorem e_M_sheet_77 : rn Ls xs d 60 77 [l0, l1, l2, l3, l4]  st H = rn Ls xs d 60 79 [l0, l1, l2, l3, l4] (.inl 24 :: st) H := rn_nx rfl rfl
theorem e_M_sheet_79 : rn Ls xs d 60 79 [l0, some (.inl x), l2, l3, l4] st H = rn Ls xs d 60 80 [l0, some (.inl x), l2, l3, l4] (.inl x :: st) H := rn_nx rfl rfl
theorem e_M_sheet_80 : rn Ls xs d 60 80 [l0, l1, l2, l3, l4] (.inl y :: .inl x :: st) H = rn Ls xs d 60 81 [l0, l1, l2, l3, l4] (.inl (x * y) :: st) H := rn_nx rfl rfl
theorem e_M_sheet_81 : rn Ls xs d 60 81 [l0, l1, l2, l3, some (.inl x)] st H = rn Ls xs d 60 83 [l0, l1, l2, l3, some (.inl x)] (.inl x :: st) H := rn_nx rfl rfl
theorem e_M_sheet_83 : rn Ls xs d 60 83 [l0, l1, l2, l3, l4] (.inl y :: .inl x :: st) H = rn Ls xs d 60 84 [l0, l1, l2, l3, l4] (.inl (x + y) :: st) H := rn_nx rfl rfl
theorem e_M_sheet_84 : rn Ls xs d 60 84 [l0, l1, l2, l3, l4]  st H = rn Ls xs d 60 85 [l0, l1, l2, l3, l4] (.inl 0 :: st) H := rn_nx rfl rfl
theorem e_M_sheet_85 : rn Ls xs d 60 85 [l0, l1, l2, l3, l4] (.inl x :: .inl i :: .inr (.inl (some a)) :: st) (S, I, R) = if h_ia S a 0 i then rn Ls xs d 60 86 [l0, l1, l2, l3, l4] st (S, va_up I a (upd (I a) i.toNatClampNeg x), R) else none := rn_bc rfl rfl
theorem e_M_sheet_86 : rn Ls xs d 60 86 [l0, l1, l2, l3, some (.inl x)] st H = rn Ls xs d 60 89 [l0, l1, l2, l3, some (.inl (x + 1))] st H := rn_nx rfl rfl
theorem e_M_sheet_89 : rn Ls xs d 60 89 [l0, l1, l2, l3, l4] st H = rn Ls xs d 60 66 [l0, l1, l2, l3, l4] st H := rn_nx rfl rfl
theorem e_M_sheet_92 : rn Ls xs d 60 92 [some (.inr u), l1, l2, l3, l4] st H = rn Ls xs d 60 93 [some (.inr u), l1, l2, l3, l4] (.inr u :: st) H := rn_nx rfl rfl
theorem e_M_sheet_93 : rn Ls xs d 60 93 [l0, l1, l2, l3, l4] (.inr (.inl (some a)) :: st) (S, I, R) = if h_is S a 9 36 then rn Ls xs d 60 96 [l0, l1, l2, l3, l4] (.inr (R a 27) :: st) (S, I, R) else none := rn_bc rfl rfl
theorem e_M_sheet_96 : rn Ls xs d 60 96 [l0, some (.inl x), l2, l3, l4] st H = rn Ls xs d 60 97 [l0, some (.inl x), l2, l3, l4] (.inl x :: st) H := rn_nx rfl rfl
theorem e_M_sheet_97 : rn Ls xs d 60 97 [l0, l1, l2, l3, l4] (.inl i :: .inr (.inl (some a)) :: st) (S, I, R) = if h_ia S a 0 i then rn Ls xs d 60 98 [l0, l1, l2, l3, l4] (.inl (I a i.toNatClampNeg) :: st) (S, I, R) else none := rn_bc rfl rfl
theorem e_M_sheet_98 : rn Ls xs d 60 98 [l0, l1, l2, l3, l4] [.inl x] H = some (some (.inl x), H) := rn_done rfl rfl
theorem e_W_mark_0 : rn Ls xs d 61 0 [l0, some (.inl x), l2, l3, l4] st H = rn Ls xs d 61 1 [l0, some (.inl x), l2, l3, l4] (.inl x :: st) H := rn_nx rfl rfl
theorem e_W_mark_1 : rn Ls xs (d + 1) 61 1 [l0, l1, l2, l3, l4] [v0] H = rb Ls xs (d + 1) 61 4 [l0, l1, l2, l3, l4] [] (rn Ls xs d 143 0 [some v0] [] H) := rn_call rfl (Nat.le_of_ble_eq_true rfl) (Nat.le_of_ble_eq_true rfl) rfl rfl
theorem e_W_mark_4 : rn Ls xs d 61 4 [l0, l1, l2, l3, l4] (.inl x :: st) H = if x ≠ 0 then rn Ls xs d 61 10 [l0, l1, l2, l3, l4] st H else rn Ls xs d 61 7 [l0, l1, l2, l3, l4] st H := rn_if (p := fun x => x ≠ 0) rfl
theorem e_W_mark_7 : rn Ls xs d 61 7 [l0, l1, l2, l3, l4]  st H = rn Ls xs d 61 9 [l0, l1, l2, l3, l4] (.inl (-1000000001) :: st) H := rn_nx rfl rfl
theorem e_W_mark_9 : rn Ls xs d 61 9 [l0, l1, l2, l3, l4] [.inl x] H = some (some (.inl x), H) := rn_done rfl rfl
theorem e_W_mark_10 : rn Ls xs d 61 10 [some (.inr u), l1, l2, l3, l4] st H = rn Ls xs d 61 11 [some (.inr u), l1, l2, l3, l4] (.inr u :: st) H := rn_nx rfl rfl
theorem e_W_mark_11 : rn Ls xs d 61 11 [l0, l1, l2, l3, l4] (.inr (.inl (some a)) :: st) (S, I, R) = if h_is S a 8 10 then rn Ls xs d 61 14 [l0, l1, l2, l3, l4] (.inr (R a 5) :: st) (S, I, R) else none := rn_bc rfl rfl
theorem e_W_mark_14 : rn Ls xs d 61 14 [l0, some (.inl x), l2, l3, l4] st H = rn Ls xs d 61 15 [l0, some (.inl x), l2, l3, l4] (.inl x :: st) H := rn_nx rfl rfl
theorem e_W_mark_15 : rn Ls xs d 61 15 [l0, l1, l2, l3, l4] (.inl i :: .inr (.inl (some a)) :: st) (S, I, R) = if h_ia S a 6 i then (match R a i.toNatClampNeg with | .inl o => rn Ls xs d 61 16 [l0, l1, l2, l3, l4] (.inr (.inl o) :: st) (S, I, R) | .inr _ => none) else none := rn_aald rfl
theorem e_W_mark_16 : rn Ls xs d 61 16 [l0, l1, l2, l3, l4] (.inr u :: st) H = rn Ls xs d 61 18 [l0, l1, l2, l3, some (.inr u)] st H := rn_nx rfl rfl
theorem e_W_mark_18 : rn Ls xs d 61 18 [l0, l1, l2, l3, some (.inr u)] st H = rn Ls xs d 61 20 [l0, l1, l2, l3, some (.inr u)] (.inr u :: st) H := rn_nx rfl rfl
theorem e_W_mark_20 : rn Ls xs (d + 1) 61 20 [l0, l1, l2, l3, l4] [(.inr (.inl (some a)))] (S, I, R) = if h_is S a 2 3 then rb Ls xs (d + 1) 61 23 [l0, l1, l2, l3, l4] [] (rn Ls xs d 144 0 [some (.inr (.inl (some a)))] [] (S, I, R)) else none := rn_callO rfl rfl (Nat.le_of_ble_eq_true rfl) rfl rfl
theorem e_W_mark_23 : rn Ls xs d 61 23 [l0, l1, l2, l3, l4] (.inl x :: st) H = if x = 0 then rn Ls xs d 61 29 [l0, l1, l2, l3, l4] st H else rn Ls xs d 61 26 [l0, l1, l2, l3, l4] st H := rn_if (p := fun x => x = 0) rfl
theorem e_W_mark_26 : rn Ls xs d 61 26 [l0, l1, l2, l3, l4]  st H = rn Ls xs d 61 28 [l0, l1, l2, l3, l4] (.inl (-1000000011) :: st) H := rn_nx rfl rfl
theorem e_W_mark_28 : rn Ls xs d 61 28 [l0, l1, l2, l3, l4] [.inl x] H = some (some (.inl x), H) := rn_done rfl rfl
theorem e_W_mark_29 : rn Ls xs d 61 29 [l0, l1, l2, l3, some (.inr u)] st H = rn Ls xs d 61 31 [l0, l1, l2, l3, some (.inr u)] (.inr u :: st) H := rn_nx rfl rfl
theorem e_W_mark_31 : rn Ls xs d 61 31 [l0, l1, some (.inl x), l3, l4] st H = rn Ls xs d 61 32 [l0, l1, some (.inl x), l3, l4] (.inl x :: st) H := rn_nx rfl rfl
theorem e_W_mark_32 : rn Ls xs (d + 1) 61 32 [l0, l1, l2, l3, l4] [v1, (.inr (.inl (some a)))] (S, I, R) = if h_is S a 2 3 then rb Ls xs (d + 1) 61 35 [l0, l1, l2, l3, l4] [] (rn Ls xs d 161 0 [some (.inr (.inl (some a))), some v1] [] (S, I, R)) else none := rn_callO rfl rfl (Nat.le_of_ble_eq_true rfl) rfl rfl
theorem e_W_mark_35 : rn Ls xs d 61 35 [l0, l1, l2, l3, l4] (.inl x :: st) H = if x ≠ 0 then rn Ls xs d 61 42 [l0, l1, l2, l3, l4] st H else rn Ls xs d 61 38 [l0, l1, l2, l3, l4] st H := rn_if (p := fun x => x ≠ 0) rfl
theorem e_W_mark_38 : rn Ls xs d 61 38 [l0, l1, l2, l3, l4]  st H = rn Ls xs d 61 41 [l0, l1, l2, l3, l4] (.inl (-1000000013) :: st) H := rn_nx rfl rfl
theorem e_W_mark_41 : rn Ls xs d 61 41 [l0, l1, l2, l3, l4] [.inl x] H = some (some (.inl x), H) := rn_done rfl rfl
theorem e_W_mark_42 : rn Ls xs d 61 42 [l0, l1, l2, l3, some (.inr u)] st H = rn Ls xs d 61 44 [l0, l1, l2, l3, some (.inr u)] (.inr u :: st) H := rn_nx rfl rfl
theorem e_W_mark_44 : rn Ls xs d 61 44 [l0, l1, l2, l3, l4] (.inr (.inl (some a)) :: st) (S, I, R) = if h_is S a 2 3 then rn Ls xs d 61 47 [l0, l1, l2, l3, l4] (.inl (I a 1) :: st) (S, I, R) else none := rn_bc rfl rfl
theorem e_W_mark_47 : rn Ls xs d 61 47 [l0, l1, l2, l3, l4] (.inl x :: st) H = if x ≠ 0 then rn Ls xs d 61 71 [l0, l1, l2, l3, l4] st H else rn Ls xs d 61 50 [l0, l1, l2, l3, l4] st H := rn_if (p := fun x => x ≠ 0) rfl
theorem e_W_mark_50 : rn Ls xs d 61 50 [l0, l1, l2, some (.inl x), l4] st H = rn Ls xs d 61 51 [l0, l1, l2, some (.inl x), l4] (.inl x :: st) H := rn_nx rfl rfl
theorem e_W_mark_51 : rn Ls xs d 61 51 [l0, l1, l2, l3, l4]  st H = rn Ls xs d 61 54 [l0, l1, l2, l3, l4] (.inl (-1000000005) :: st) H := rn_nx rfl rfl
theorem e_W_mark_54 : rn Ls xs d 61 54 [l0, l1, l2, l3, l4] (.inl y :: .inl x :: st) H = if x ≠ y then rn Ls xs d 61 60 [l0, l1, l2, l3, l4] st H else rn Ls xs d 61 57 [l0, l1, l2, l3, l4] st H := rn_cmp (p := fun x y => x ≠ y) rfl
theorem e_W_mark_57 : rn Ls xs d 61 57 [l0, l1, l2, l3, l4]  st H = rn Ls xs d 61 59 [l0, l1, l2, l3, l4] (.inl (-1000000012) :: st) H := rn_nx rfl rfl
theorem e_W_mark_59 : rn Ls xs d 61 59 [l0, l1, l2, l3, l4] [.inl x] H = some (some (.inl x), H) := rn_done rfl rfl
theorem e_W_mark_60 : rn Ls xs d 61 60 [l0, l1, l2, l3, some (.inr u)] st H = rn Ls xs d 61 62 [l0, l1, l2, l3, some (.inr u)] (.inr u :: st) H := rn_nx rfl rfl
theorem e_W_mark_62 : rn Ls xs d 61 62 [l0, l1, l2, l3, l4] (.inr (.inl (some a)) :: st) (S, I, R) = if h_is S a 2 3 then rn Ls xs d 61 65 [l0, l1, l2, l3, l4] (.inr (R a 0) :: st) (S, I, R) else none := rn_bc rfl rfl
theorem e_W_mark_65 : rn Ls xs d 61 65 [l0, l1, some (.inl x), l3, l4] st H = rn Ls xs d 61 66 [l0, l1, some (.inl x), l3, l4] (.inl x :: st) H := rn_nx rfl rfl
theorem e_W_mark_66 : rn Ls xs d 61 66 [l0, l1, l2, some (.inl x), l4] st H = rn Ls xs d 61 67 [l0, l1, l2, some (.inl x), l4] (.inl x :: st) H := rn_nx rfl rfl
theorem e_W_mark_67 : rn Ls xs d 61 67 [l0, l1, l2, l3, l4] (.inl x :: st) H = rn Ls xs d 61 68 [l0, l1, l2, l3, l4] (.inl (x.toInt16.toInt32) :: st) H := rn_nx rfl rfl
theorem e_W_mark_68 : rn Ls xs d 61 68 [l0, l1, l2, l3, l4] (.inl x :: .inl i :: .inr (.inl (some a)) :: st) (S, I, R) = if h_ia S a 0 i then rn Ls xs d 61 69 [l0, l1, l2, l3, l4] st (S, va_up I a (upd (I a) i.toNatClampNeg x), R) else none := rn_bc rfl rfl
theorem e_W_mark_69 : rn Ls xs d 61 69 [l0, l1, l2, l3, l4]  st H = rn Ls xs d 61 70 [l0, l1, l2, l3, l4] (.inl 1 :: st) H := rn_nx rfl rfl
theorem e_W_mark_70 : rn Ls xs d 61 70 [l0, l1, l2, l3, l4] [.inl x] H = some (some (.inl x), H) := rn_done rfl rfl
theorem e_W_mark_71 : rn Ls xs d 61 71 [l0, l1, l2, some (.inl x), l4] st H = rn Ls xs d 61 72 [l0, l1, l2, some (.inl x), l4] (.inl x :: st) H := rn_nx rfl rfl
theorem e_W_mark_72 : rn Ls xs d 61 72 [l0, l1, l2, l3, l4]  st H = rn Ls xs d 61 75 [l0, l1, l2, l3, l4] (.inl (-1000000005) :: st) H := rn_nx rfl rfl
theorem e_W_mark_75 : rn Ls xs d 61 75 [l0, l1, l2, l3, l4] (.inl y :: .inl x :: st) H = if x = y then rn Ls xs d 61 94 [l0, l1, l2, l3, l4] st H else rn Ls xs d 61 78 [l0, l1, l2, l3, l4] st H := rn_cmp (p := fun x y => x = y) rfl
theorem e_W_mark_78 : rn Ls xs d 61 78 [l0, l1, l2, some (.inl x), l4] st H = rn Ls xs d 61 79 [l0, l1, l2, some (.inl x), l4] (.inl x :: st) H := rn_nx rfl rfl
theorem e_W_mark_79 : rn Ls xs d 61 79 [l0, l1, l2, l3, l4]  st H = rn Ls xs d 61 82 [l0, l1, l2, l3, l4] (.inl (-99999) :: st) H := rn_nx rfl rfl
theorem e_W_mark_82 : rn Ls xs d 61 82 [l0, l1, l2, l3, l4]  st H = rn Ls xs d 61 85 [l0, l1, l2, l3, l4] (.inl 99999 :: st) H := rn_nx rfl rfl
theorem e_W_mark_85 : rn Ls xs (d + 1) 61 85 [l0, l1, l2, l3, l4] [v2, v1, v0] H = rb Ls xs (d + 1) 61 88 [l0, l1, l2, l3, l4] [] (rn Ls xs d 94 0 [some v0, some v1, some v2] [] H) := rn_call rfl (Nat.le_of_ble_eq_true rfl) (Nat.le_of_ble_eq_true rfl) rfl rfl
theorem e_W_mark_88 : rn Ls xs d 61 88 [l0, l1, l2, l3, l4] (.inl x :: st) H = if x ≠ 0 then rn Ls xs d 61 94 [l0, l1, l2, l3, l4] st H else rn Ls xs d 61 91 [l0, l1, l2, l3, l4] st H := rn_if (p := fun x => x ≠ 0) rfl
theorem e_W_mark_91 : rn Ls xs d 61 91 [l0, l1, l2, l3, l4]  st H = rn Ls xs d 61 93 [l0, l1, l2, l3, l4] (.inl (-1000000001) :: st) H := rn_nx rfl rfl
theorem e_W_mark_93 : rn Ls xs d 61 93 [l0, l1, l2, l3, l4] [.inl x] H = some (some (.inl x), H) := rn_done rfl rfl
theorem e_W_mark_94 : rn Ls xs d 61 94 [l0, l1, l2, l3, some (.inr u)] st H = rn Ls xs d 61 96 [l0, l1, l2, l3, some (.inr u)] (.inr u :: st) H := rn_nx rfl rfl
theorem e_W_mark_96 : rn Ls xs d 61 96 [l0, l1, l2, l3, l4] (.inr (.inl (some a)) :: st) (S, I, R) = if h_is S a 2 3 then rn Ls xs d 61 99 [l0, l1, l2, l3, l4] (.inr (R a 0) :: st) (S, I, R) else none := rn_bc rfl rfl
theorem e_W_mark_99 : rn Ls xs d 61 99 [l0, l1, some (.inl x), l3, l4] st H = rn Ls xs d 61 100 [l0, l1, some (.inl x), l3, l4] (.inl x :: st) H := rn_nx rfl rfl
theorem e_W_mark_100 : rn Ls xs d 61 100 [l0, l1, l2, some (.inl x), l4] st H = rn Ls xs d 61 101 [l0, l1, l2, some (.inl x), l4] (.inl x :: st) H := rn_nx rfl rfl
theorem e_W_mark_101 : rn Ls xs d 61 101 [l0, l1, l2, l3, l4] (.inl x :: .inl i :: .inr (.inl (some a)) :: st) (S, I, R) = if h_ia S a 0 i then rn Ls xs d 61 102 [l0, l1, l2, l3, l4] st (S, va_up I a (upd (I a) i.toNatClampNeg x), R) else none := rn_bc rfl rfl
theorem e_W_mark_102 : rn Ls xs d 61 102 [l0, l1, l2, l3, l4]  st H = rn Ls xs d 61 103 [l0, l1, l2, l3, l4] (.inl 1 :: st) H := rn_nx rfl rfl
theorem e_W_mark_103 : rn Ls xs d 61 103 [l0, l1, l2, l3, l4] [.inl x] H = some (some (.inl x), H) := rn_done rfl rfl
theorem e_M_mark_0 : rn Ls xs d 62 0 [l0, some (.inl x), l2, l3] st H = rn Ls xs d 62 1 [l0, some (.inl x), l2, l3] (.inl x :: st) H := rn_nx rfl rfl
theorem e_M_mark_1 : rn Ls xs (d + 1) 62 1 [l0, l1, l2, l3] [v0] H = rb Ls xs (d + 1) 62 4 [l0, l1, l2, l3] [] (rn Ls xs d 146 0 [some v0] [] H) := rn_call rfl (Nat.le_of_ble_eq_true rfl) (Nat.le_of_ble_eq_true rfl) rfl rfl
theorem e_M_mark_4 : rn Ls xs d 62 4 [l0, l1, l2, l3] (.inl x :: st) H = if x ≠ 0 then rn Ls xs d 62 10 [l0, l1, l2, l3] st H else rn Ls xs d 62 7 [l0, l1, l2, l3] st H := rn_if (p := fun x => x ≠ 0) rfl
theorem e_M_mark_7 : rn Ls xs d 62 7 [l0, l1, l2, l3]  st H = rn Ls xs d 62 9 [l0, l1, l2, l3] (.inl (-1000000001) :: st) H := rn_nx rfl rfl
theorem e_M_mark_9 : rn Ls xs d 62 9 [l0, l1, l2, l3] [.inl x] H = some (some (.inl x), H) := rn_done rfl rfl
theorem e_M_mark_10 : rn Ls xs d 62 10 [some (.inr u), l1, l2, l3] st H = rn Ls xs d 62 11 [some (.inr u), l1, l2, l3] (.inr u :: st) H := rn_nx rfl rfl
theorem e_M_mark_11 : rn Ls xs d 62 11 [l0, l1, l2, l3] (.inr (.inl (some a)) :: st) (S, I, R) = if h_is S a 9 36 then rn Ls xs d 62 14 [l0, l1, l2, l3] (.inr (R a 26) :: st) (S, I, R) else none := rn_bc rfl rfl
theorem e_M_mark_14 : rn Ls xs d 62 14 [l0, some (.inl x), l2, l3] st H = rn Ls xs d 62 15 [l0, some (.inl x), l2, l3] (.inl x :: st) H := rn_nx rfl rfl
theorem e_M_mark_15 : rn Ls xs d 62 15 [l0, l1, l2, l3] (.inl i :: .inr (.inl (some a)) :: st) (S, I, R) = if h_ia S a 0 i then rn Ls xs d 62 16 [l0, l1, l2, l3] (.inl (I a i.toNatClampNeg) :: st) (S, I, R) else none := rn_bc rfl rfl
theorem e_M_mark_16 : rn Ls xs d 62 16 [l0, l1, l2, l3] (.inl x :: st) H = if 0 ≤ x then rn Ls xs d 62 22 [l0, l1, l2, l3] st H else rn Ls xs d 62 19 [l0, l1, l2, l3] st H := rn_if (p := fun x => 0 ≤ x) rfl
theorem e_M_mark_19 : rn Ls xs d 62 19 [l0, l1, l2, l3]  st H = rn Ls xs d 62 21 [l0, l1, l2, l3] (.inl (-1000000011) :: st) H := rn_nx rfl rfl
theorem e_M_mark_21 : rn Ls xs d 62 21 [l0, l1, l2, l3] [.inl x] H = some (some (.inl x), H) := rn_done rfl rfl
theorem e_M_mark_22 : rn Ls xs d 62 22 [l0, l1, some (.inl x), l3] st H = rn Ls xs d 62 23 [l0, l1, some (.inl x), l3] (.inl x :: st) H := rn_nx rfl rfl
theorem e_M_mark_23 : rn Ls xs d 62 23 [l0, l1, l2, l3]  st H = rn Ls xs d 62 24 [l0, l1, l2, l3] (.inl 0 :: st) H := rn_nx rfl rfl
theorem e_M_mark_24 : rn Ls xs d 62 24 [some (.inr u), l1, l2, l3] st H = rn Ls xs d 62 25 [some (.inr u), l1, l2, l3] (.inr u :: st) H := rn_nx rfl rfl
theorem e_M_mark_25 : rn Ls xs d 62 25 [l0, l1, l2, l3] (.inr (.inl (some a)) :: st) (S, I, R) = if h_is S a 9 36 then rn Ls xs d 62 28 [l0, l1, l2, l3] (.inr (R a 27) :: st) (S, I, R) else none := rn_bc rfl rfl
theorem e_M_mark_28 : rn Ls xs d 62 28 [l0, some (.inl x), l2, l3] st H = rn Ls xs d 62 29 [l0, some (.inl x), l2, l3] (.inl x :: st) H := rn_nx rfl rfl
theorem e_M_mark_29 : rn Ls xs d 62 29 [l0, l1, l2, l3] (.inl i :: .inr (.inl (some a)) :: st) (S, I, R) = if h_ia S a 0 i then rn Ls xs d 62 30 [l0, l1, l2, l3] (.inl (I a i.toNatClampNeg) :: st) (S, I, R) else none := rn_bc rfl rfl
theorem e_M_mark_30 : rn Ls xs d 62 30 [l0, l1, l2, l3]  st H = rn Ls xs d 62 31 [l0, l1, l2, l3] (.inl 1 :: st) H := rn_nx rfl rfl
theorem e_M_mark_31 : rn Ls xs d 62 31 [l0, l1, l2, l3] (.inl y :: .inl x :: st) H = rn Ls xs d 62 32 [l0, l1, l2, l3] (.inl (x - y) :: st) H := rn_nx rfl rfl
theorem e_M_mark_32 : rn Ls xs (d + 1) 62 32 [l0, l1, l2, l3] [v2, v1, v0] H = rb Ls xs (d + 1) 62 35 [l0, l1, l2, l3] [] (rn Ls xs d 97 0 [some v0, some v1, some v2] [] H) := rn_call rfl (Nat.le_of_ble_eq_true rfl) (Nat.le_of_ble_eq_true rfl) rfl rfl
theorem e_M_mark_35 : rn Ls xs d 62 35 [l0, l1, l2, l3] (.inl x :: st) H = if x ≠ 0 then rn Ls xs d 62 42 [l0, l1, l2, l3] st H else rn Ls xs d 62 38 [l0, l1, l2, l3] st H := rn_if (p := fun x => x ≠ 0) rfl
theorem e_M_mark_38 : rn Ls xs d 62 38 [l0, l1, l2, l3]  st H = rn Ls xs d 62 41 [l0, l1, l2, l3] (.inl (-1000000013) :: st) H := rn_nx rfl rfl
theorem e_M_mark_41 : rn Ls xs d 62 41 [l0, l1, l2, l3] [.inl x] H = some (some (.inl x), H) := rn_done rfl rfl
theorem e_M_mark_42 : rn Ls xs d 62 42 [some (.inr u), l1, l2, l3] st H = rn Ls xs d 62 43 [some (.inr u), l1, l2, l3] (.inr u :: st) H := rn_nx rfl rfl
theorem e_M_mark_43 : rn Ls xs d 62 43 [l0, l1, l2, l3] (.inr (.inl (some a)) :: st) (S, I, R) = if h_is S a 9 36 then rn Ls xs d 62 46 [l0, l1, l2, l3] (.inr (R a 26) :: st) (S, I, R) else none := rn_bc rfl rfl
theorem e_M_mark_46 : rn Ls xs d 62 46 [l0, some (.inl x), l2, l3] st H = rn Ls xs d 62 47 [l0, some (.inl x), l2, l3] (.inl x :: st) H := rn_nx rfl rfl
theorem e_M_mark_47 : rn Ls xs d 62 47 [l0, l1, l2, l3] (.inl i :: .inr (.inl (some a)) :: st) (S, I, R) = if h_ia S a 0 i then rn Ls xs d 62 48 [l0, l1, l2, l3] (.inl (I a i.toNatClampNeg) :: st) (S, I, R) else none := rn_bc rfl rfl
theorem e_M_mark_48 : rn Ls xs d 62 48 [l0, l1, l2, l3] (.inl x :: st) H = if x ≠ 0 then rn Ls xs d 62 60 [l0, l1, l2, l3] st H else rn Ls xs d 62 51 [l0, l1, l2, l3] st H := rn_if (p := fun x => x ≠ 0) rfl
theorem e_M_mark_51 : rn Ls xs d 62 51 [l0, l1, l2, some (.inl x)] st H = rn Ls xs d 62 52 [l0, l1, l2, some (.inl x)] (.inl x :: st) H := rn_nx rfl rfl
theorem e_M_mark_52 : rn Ls xs d 62 52 [l0, l1, l2, l3]  st H = rn Ls xs d 62 54 [l0, l1, l2, l3] (.inl (-1000000005) :: st) H := rn_nx rfl rfl
theorem e_M_mark_54 : rn Ls xs d 62 54 [l0, l1, l2, l3] (.inl y :: .inl x :: st) H = if x ≠ y then rn Ls xs d 62 60 [l0, l1, l2, l3] st H else rn Ls xs d 62 57 [l0, l1, l2, l3] st H := rn_cmp (p := fun x y => x ≠ y) rfl
theorem e_M_mark_57 : rn Ls xs d 62 57 [l0, l1, l2, l3]  st H = rn Ls xs d 62 59 [l0, l1, l2, l3] (.inl (-1000000012) :: st) H := rn_nx rfl rfl
theorem e_M_mark_59 : rn Ls xs d 62 59 [l0, l1, l2, l3] [.inl x] H = some (some (.inl x), H) := rn_done rfl rfl
theorem e_M_mark_60 : rn Ls xs d 62 60 [some (.inr u), l1, l2, l3] st H = rn Ls xs d 62 61 [some (.inr u), l1, l2, l3] (.inr u :: st) H := rn_nx rfl rfl
theorem e_M_mark_61 : rn Ls xs d 62 61 [l0, l1, l2, l3] (.inr (.inl (some a)) :: st) (S, I, R) = if h_is S a 9 36 then rn Ls xs d 62 64 [l0, l1, l2, l3] (.inr (R a 26) :: st) (S, I, R) else none := rn_bc rfl rfl
theorem e_M_mark_64 : rn Ls xs d 62 64 [l0, some (.inl x), l2, l3] st H = rn Ls xs d 62 65 [l0, some (.inl x), l2, l3] (.inl x :: st) H := rn_nx rfl rfl
theorem e_M_mark_65 : rn Ls xs d 62 65 [l0, l1, l2, l3] (.inl i :: .inr (.inl (some a)) :: st) (S, I, R) = if h_ia S a 0 i then rn Ls xs d 62 66 [l0, l1, l2, l3] (.inl (I a i.toNatClampNeg) :: st) (S, I, R) else none := rn_bc rfl rfl
theorem e_M_mark_66 : rn Ls xs d 62 66 [l0, l1, l2, l3]  st H = rn Ls xs d 62 67 [l0, l1, l2, l3] (.inl 1 :: st) H := rn_nx rfl rfl
theorem e_M_mark_67 : rn Ls xs d 62 67 [l0, l1, l2, l3] (.inl y :: .inl x :: st) H = if x ≠ y then rn Ls xs d 62 92 [l0, l1, l2, l3] st H else rn Ls xs d 62 70 [l0, l1, l2, l3] st H := rn_cmp (p := fun x y => x ≠ y) rfl
theorem e_M_mark_70 : rn Ls xs d 62 70 [l0, l1, l2, some (.inl x)] st H = rn Ls xs d 62 71 [l0, l1, l2, some (.inl x)] (.inl x :: st) H := rn_nx rfl rfl
theorem e_M_mark_71 : rn Ls xs d 62 71 [l0, l1, l2, l3]  st H = rn Ls xs d 62 73 [l0, l1, l2, l3] (.inl (-1000000005) :: st) H := rn_nx rfl rfl
theorem e_M_mark_73 : rn Ls xs d 62 73 [l0, l1, l2, l3] (.inl y :: .inl x :: st) H = if x = y then rn Ls xs d 62 92 [l0, l1, l2, l3] st H else rn Ls xs d 62 76 [l0, l1, l2, l3] st H := rn_cmp (p := fun x y => x = y) rfl
theorem e_M_mark_76 : rn Ls xs d 62 76 [l0, l1, l2, some (.inl x)] st H = rn Ls xs d 62 77 [l0, l1, l2, some (.inl x)] (.inl x :: st) H := rn_nx rfl rfl
theorem e_M_mark_77 : rn Ls xs d 62 77 [l0, l1, l2, l3]  st H = rn Ls xs d 62 80 [l0, l1, l2, l3] (.inl (-99999) :: st) H := rn_nx rfl rfl
theorem e_M_mark_80 : rn Ls xs d 62 80 [l0, l1, l2, l3]  st H = rn Ls xs d 62 83 [l0, l1, l2, l3] (.inl 99999 :: st) H := rn_nx rfl rfl
theorem e_M_mark_83 : rn Ls xs (d + 1) 62 83 [l0, l1, l2, l3] [v2, v1, v0] H = rb Ls xs (d + 1) 62 86 [l0, l1, l2, l3] [] (rn Ls xs d 97 0 [some v0, some v1, some v2] [] H) := rn_call rfl (Nat.le_of_ble_eq_true rfl) (Nat.le_of_ble_eq_true rfl) rfl rfl
theorem e_M_mark_86 : rn Ls xs d 62 86 [l0, l1, l2, l3] (.inl x :: st) H = if x ≠ 0 then rn Ls xs d 62 92 [l0, l1, l2, l3] st H else rn Ls xs d 62 89 [l0, l1, l2, l3] st H := rn_if (p := fun x => x ≠ 0) rfl
theorem e_M_mark_89 : rn Ls xs d 62 89 [l0, l1, l2, l3]  st H = rn Ls xs d 62 91 [l0, l1, l2, l3] (.inl (-1000000001) :: st) H := rn_nx rfl rfl
theorem e_M_mark_91 : rn Ls xs d 62 91 [l0, l1, l2, l3] [.inl x] H = some (some (.inl x), H) := rn_done rfl rfl
theorem e_M_mark_92 : rn Ls xs d 62 92 [some (.inr u), l1, l2, l3] st H = rn Ls xs d 62 93 [some (.inr u), l1, l2, l3] (.inr u :: st) H := rn_nx rfl rfl
theorem e_M_mark_93 : rn Ls xs d 62 93 [l0, l1, l2, l3] (.inr (.inl (some a)) :: st) (S, I, R) = if h_is S a 9 36 then rn Ls xs d 62 96 [l0, l1, l2, l3] (.inr (R a 28) :: st) (S, I, R) else none := rn_bc rfl rfl
theorem e_M_mark_96 : rn Ls xs d 62 96 [l0, l1, l2, l3]  st H = rn Ls xs d 62 98 [l0, l1, l2, l3] (.inl 24 :: st) H := rn_nx rfl rfl
theorem e_M_mark_98 : rn Ls xs d 62 98 [l0, some (.inl x), l2, l3] st H = rn Ls xs d 62 99 [l0, some (.inl x), l2, l3] (.inl x :: st) H := rn_nx rfl rfl
theorem e_M_mark_99 : rn Ls xs d 62 99 [l0, l1, l2, l3] (.inl y :: .inl x :: st) H = rn Ls xs d 62 100 [l0, l1, l2, l3] (.inl (x * y) :: st) H := rn_nx rfl rfl
theorem e_M_mark_100 : rn Ls xs d 62 100 [l0, l1, some (.inl x), l3] st H = rn Ls xs d 62 101 [l0, l1, some (.inl x), l3] (.inl x :: st) H := rn_nx rfl rfl
theorem e_M_mark_101 : rn Ls xs d 62 101 [l0, l1, l2, l3] (.inl y :: .inl x :: st) H = rn Ls xs d 62 102 [l0, l1, l2, l3] (.inl (x + y) :: st) H := rn_nx rfl rfl
theorem e_M_mark_102 : rn Ls xs d 62 102 [some (.inr u), l1, l2, l3] st H = rn Ls xs d 62 103 [some (.inr u), l1, l2, l3] (.inr u :: st) H := rn_nx rfl rfl
theorem e_M_mark_103 : rn Ls xs d 62 103 [l0, l1, l2, l3] (.inr (.inl (some a)) :: st) (S, I, R) = if h_is S a 9 36 then rn Ls xs d 62 106 [l0, l1, l2, l3] (.inr (R a 26) :: st) (S, I, R) else none := rn_bc rfl rfl
theorem e_M_mark_106 : rn Ls xs d 62 106 [l0, some (.inl x), l2, l3] st H = rn Ls xs d 62 107 [l0, some (.inl x), l2, l3] (.inl x :: st) H := rn_nx rfl rfl
theorem e_M_mark_107 : rn Ls xs d 62 107 [l0, l1, l2, l3] (.inl i :: .inr (.inl (some a)) :: st) (S, I, R) = if h_ia S a 0 i then rn Ls xs d 62 108 [l0, l1, l2, l3] (.inl (I a i.toNatClampNeg) :: st) (S, I, R) else none := rn_bc rfl rfl
theorem e_M_mark_108 : rn Ls xs d 62 108 [l0, l1, l2, l3] (.inl x :: st) H = if x ≠ 0 then rn Ls xs d 62 116 [l0, l1, l2, l3] st H else rn Ls xs d 62 111 [l0, l1, l2, l3] st H := rn_if (p := fun x => x ≠ 0) rfl
theorem e_M_mark_111 : rn Ls xs d 62 111 [l0, l1, l2, some (.inl x)] st H = rn Ls xs d 62 112 [l0, l1, l2, some (.inl x)] (.inl x :: st) H := rn_nx rfl rfl
theorem e_M_mark_112 : rn Ls xs d 62 112 [l0, l1, l2, l3] (.inl x :: st) H = rn Ls xs d 62 113 [l0, l1, l2, l3] (.inl (x.toInt16.toInt32) :: st) H := rn_nx rfl rfl
theorem e_M_mark_113 : rn Ls xs d 62 113 [l0, l1, l2, l3] st H = rn Ls xs d 62 117 [l0, l1, l2, l3] st H := rn_nx rfl rfl
theorem e_M_mark_116 : rn Ls xs d 62 116 [l0, l1, l2, some (.inl x)] st H = rn Ls xs d 62 117 [l0, l1, l2, some (.inl x)] (.inl x :: st) H := rn_nx rfl rfl
theorem e_M_mark_117 : rn Ls xs d 62 117 [l0, l1, l2, l3] (.inl x :: .inl i :: .inr (.inl (some a)) :: st) (S, I, R) = if h_ia S a 0 i then rn Ls xs d 62 118 [l0, l1, l2, l3] st (S, va_up I a (upd (I a) i.toNatClampNeg x), R) else none := rn_bc rfl rfl
theorem e_M_mark_118 : rn Ls xs d 62 118 [l0, l1, l2, l3]  st H = rn Ls xs d 62 119 [l0, l1, l2, l3] (.inl 1 :: st) H := rn_nx rfl rfl
theorem e_M_mark_119 : rn Ls xs d 62 119 [l0, l1, l2, l3] [.inl x] H = some (some (.inl x), H) := rn_done rfl rfl
theorem e_W_pour_0 : rn Ls xs d 63 0 [l0, some (.inl x), l2, l3, l4, l5] st H = rn Ls xs d 63 1 [l0, some (.inl x), l2, l3, l4, l5] (.inl x :: st) H := rn_nx rfl rfl
theorem e_W_pour_1 : rn Ls xs (d + 1) 63 1 [l0, l1, l2, l3, l4, l5] [v0] H = rb Ls xs (d + 1) 63 4 [l0, l1, l2, l3, l4, l5] [] (rn Ls xs d 143 0 [some v0] [] H) := rn_call rfl (Nat.le_of_ble_eq_true rfl) (Nat.le_of_ble_eq_true rfl) rfl rfl
theorem e_W_pour_4 : rn Ls xs d 63 4 [l0, l1, l2, l3, l4, l5] (.inl x :: st) H = if x ≠ 0 then rn Ls xs d 63 10 [l0, l1, l2, l3, l4, l5] st H else rn Ls xs d 63 7 [l0, l1, l2, l3, l4, l5] st H := rn_if (p := fun x => x ≠ 0) rfl
theorem e_W_pour_7 : rn Ls xs d 63 7 [l0, l1, l2, l3, l4, l5]  st H = rn Ls xs d 63 9 [l0, l1, l2, l3, l4, l5] (.inl (-1000000001) :: st) H := rn_nx rfl rfl
theorem e_W_pour_9 : rn Ls xs d 63 9 [l0, l1, l2, l3, l4, l5] [.inl x] H = some (some (.inl x), H) := rn_done rfl rfl
theorem e_W_pour_10 : rn Ls xs d 63 10 [some (.inr u), l1, l2, l3, l4, l5] st H = rn Ls xs d 63 11 [some (.inr u), l1, l2, l3, l4, l5] (.inr u :: st) H := rn_nx rfl rfl
theorem e_W_pour_11 : rn Ls xs d 63 11 [l0, l1, l2, l3, l4, l5] (.inr (.inl (some a)) :: st) (S, I, R) = if h_is S a 8 10 then rn Ls xs d 63 14 [l0, l1, l2, l3, l4, l5] (.inr (R a 5) :: st) (S, I, R) else none := rn_bc rfl rfl
theorem e_W_pour_14 : rn Ls xs d 63 14 [l0, some (.inl x), l2, l3, l4, l5] st H = rn Ls xs d 63 15 [l0, some (.inl x), l2, l3, l4, l5] (.inl x :: st) H := rn_nx rfl rfl
theorem e_W_pour_15 : rn Ls xs d 63 15 [l0, l1, l2, l3, l4, l5] (.inl i :: .inr (.inl (some a)) :: st) (S, I, R) = if h_ia S a 6 i then (match R a i.toNatClampNeg with | .inl o => rn Ls xs d 63 16 [l0, l1, l2, l3, l4, l5] (.inr (.inl o) :: st) (S, I, R) | .inr _ => none) else none := rn_aald rfl
theorem e_W_pour_16 : rn Ls xs d 63 16 [l0, l1, l2, l3, l4, l5] (.inr u :: st) H = rn Ls xs d 63 17 [l0, l1, some (.inr u), l3, l4, l5] st H := rn_nx rfl rfl
theorem e_W_pour_17 : rn Ls xs d 63 17 [l0, l1, some (.inr u), l3, l4, l5] st H = rn Ls xs d 63 18 [l0, l1, some (.inr u), l3, l4, l5] (.inr u :: st) H := rn_nx rfl rfl
theorem e_W_pour_18 : rn Ls xs (d + 1) 63 18 [l0, l1, l2, l3, l4, l5] [(.inr (.inl (some a)))] (S, I, R) = if h_is S a 2 3 then rb Ls xs (d + 1) 63 21 [l0, l1, l2, l3, l4, l5] [] (rn Ls xs d 144 0 [some (.inr (.inl (some a)))] [] (S, I, R)) else none := rn_callO rfl rfl (Nat.le_of_ble_eq_true rfl) rfl rfl
theorem e_W_pour_21 : rn Ls xs d 63 21 [l0, l1, l2, l3, l4, l5] (.inl x :: st) H = if x = 0 then rn Ls xs d 63 27 [l0, l1, l2, l3, l4, l5] st H else rn Ls xs d 63 24 [l0, l1, l2, l3, l4, l5] st H := rn_if (p := fun x => x = 0) rfl
theorem e_W_pour_24 : rn Ls xs d 63 24 [l0, l1, l2, l3, l4, l5]  st H = rn Ls xs d 63 26 [l0, l1, l2, l3, l4, l5] (.inl (-1000000011) :: st) H := rn_nx rfl rfl
theorem e_W_pour_26 : rn Ls xs d 63 26 [l0, l1, l2, l3, l4, l5] [.inl x] H = some (some (.inl x), H) := rn_done rfl rfl
theorem e_W_pour_27 : rn Ls xs d 63 27 [l0, l1, l2, l3, l4, l5]  st H = rn Ls xs d 63 28 [l0, l1, l2, l3, l4, l5] (.inl 0 :: st) H := rn_nx rfl rfl
theorem e_W_pour_28 : rn Ls xs d 63 28 [l0, l1, l2, l3, l4, l5] (.inl x :: st) H = rn Ls xs d 63 29 [l0, l1, l2, some (.inl x), l4, l5] st H := rn_nx rfl rfl
theorem e_W_pour_29 : rn Ls xs d 63 29 [l0, l1, l2, l3, l4, l5]  st H = rn Ls xs d 63 30 [l0, l1, l2, l3, l4, l5] (.inl 0 :: st) H := rn_nx rfl rfl
theorem e_W_pour_30 : rn Ls xs d 63 30 [l0, l1, l2, l3, l4, l5] (.inl x :: st) H = rn Ls xs d 63 32 [l0, l1, l2, l3, some (.inl x), l5] st H := rn_nx rfl rfl
theorem e_W_pour_32 : rn Ls xs d 63 32 [l0, l1, l2, l3, some (.inl x), l5] st H = rn Ls xs d 63 34 [l0, l1, l2, l3, some (.inl x), l5] (.inl x :: st) H := rn_nx rfl rfl
theorem e_W_pour_34 : rn Ls xs d 63 34 [some (.inr u), l1, l2, l3, l4, l5] st H = rn Ls xs d 63 35 [some (.inr u), l1, l2, l3, l4, l5] (.inr u :: st) H := rn_nx rfl rfl
theorem e_W_pour_35 : rn Ls xs d 63 35 [l0, l1, l2, l3, l4, l5] (.inr (.inl (some a)) :: st) (S, I, R) = if h_is S a 8 10 then rn Ls xs d 63 38 [l0, l1, l2, l3, l4, l5] (.inr (R a 0) :: st) (S, I, R) else none := rn_bc rfl rfl
theorem e_W_pour_38 : rn Ls xs d 63 38 [l0, l1, l2, l3, l4, l5] (.inr (.inl (some a)) :: st) (S, I, R) = if h_is S a 3 11 then rn Ls xs d 63 41 [l0, l1, l2, l3, l4, l5] (.inl (I a 3) :: st) (S, I, R) else none := rn_bc rfl rfl
theorem e_W_pour_41 : rn Ls xs d 63 41 [l0, l1, l2, l3, l4, l5] (.inl y :: .inl x :: st) H = if y ≤ x then rn Ls xs d 63 110 [l0, l1, l2, l3, l4, l5] st H else rn Ls xs d 63 44 [l0, l1, l2, l3, l4, l5] st H := rn_cmp (p := fun x y => y ≤ x) rfl
theorem e_W_pour_44 : rn Ls xs d 63 44 [l0, l1, some (.inr u), l3, l4, l5] st H = rn Ls xs d 63 45 [l0, l1, some (.inr u), l3, l4, l5] (.inr u :: st) H := rn_nx rfl rfl
theorem e_W_pour_45 : rn Ls xs d 63 45 [l0, l1, l2, l3, some (.inl x), l5] st H = rn Ls xs d 63 47 [l0, l1, l2, l3, some (.inl x), l5] (.inl x :: st) H := rn_nx rfl rfl
theorem e_W_pour_47 : rn Ls xs (d + 1) 63 47 [l0, l1, l2, l3, l4, l5] [v1, (.inr (.inl (some a)))] (S, I, R) = if h_is S a 2 3 then rb Ls xs (d + 1) 63 50 [l0, l1, l2, l3, l4, l5] [] (rn Ls xs d 162 0 [some (.inr (.inl (some a))), some v1] [] (S, I, R)) else none := rn_callO rfl rfl (Nat.le_of_ble_eq_true rfl) rfl rfl
theorem e_W_pour_50 : rn Ls xs d 63 50 [l0, l1, l2, l3, l4, l5] (.inl x :: st) H = if x = 0 then rn Ls xs d 63 104 [l0, l1, l2, l3, l4, l5] st H else rn Ls xs d 63 53 [l0, l1, l2, l3, l4, l5] st H := rn_if (p := fun x => x = 0) rfl
theorem e_W_pour_53 : rn Ls xs d 63 53 [l0, l1, some (.inr u), l3, l4, l5] st H = rn Ls xs d 63 54 [l0, l1, some (.inr u), l3, l4, l5] (.inr u :: st) H := rn_nx rfl rfl
theorem e_W_pour_54 : rn Ls xs d 63 54 [l0, l1, l2, l3, l4, l5] (.inr (.inl (some a)) :: st) (S, I, R) = if h_is S a 2 3 then rn Ls xs d 63 57 [l0, l1, l2, l3, l4, l5] (.inr (R a 0) :: st) (S, I, R) else none := rn_bc rfl rfl
theorem e_W_pour_57 : rn Ls xs d 63 57 [l0, l1, l2, l3, some (.inl x), l5] st H = rn Ls xs d 63 59 [l0, l1, l2, l3, some (.inl x), l5] (.inl x :: st) H := rn_nx rfl rfl
theorem e_W_pour_59 : rn Ls xs d 63 59 [l0, l1, l2, l3, l4, l5] (.inl i :: .inr (.inl (some a)) :: st) (S, I, R) = if h_ia S a 0 i then rn Ls xs d 63 60 [l0, l1, l2, l3, l4, l5] (.inl (I a i.toNatClampNeg) :: st) (S, I, R) else none := rn_bc rfl rfl
theorem e_W_pour_60 : rn Ls xs d 63 60 [l0, l1, l2, l3, l4, l5]  st H = rn Ls xs d 63 61 [l0, l1, l2, l3, l4, l5] (.inl 1 :: st) H := rn_nx rfl rfl
theorem e_W_pour_61 : rn Ls xs d 63 61 [l0, l1, l2, l3, l4, l5]  st H = rn Ls xs d 63 63 [l0, l1, l2, l3, l4, l5] (.inl 99 :: st) H := rn_nx rfl rfl
theorem e_W_pour_63 : rn Ls xs (d + 1) 63 63 [l0, l1, l2, l3, l4, l5] [v2, v1, v0] H = rb Ls xs (d + 1) 63 66 [l0, l1, l2, l3, l4, l5] [] (rn Ls xs d 163 0 [some v0, some v1, some v2] [] H) := rn_call rfl (Nat.le_of_ble_eq_true rfl) (Nat.le_of_ble_eq_true rfl) rfl rfl
theorem e_W_pour_66 : rn Ls xs d 63 66 [l0, l1, l2, l3, l4, l5] (.inl x :: st) H = rn Ls xs d 63 68 [l0, l1, l2, l3, l4, some (.inl x)] st H := rn_nx rfl rfl
theorem e_W_pour_68 : rn Ls xs d 63 68 [some (.inr u), l1, l2, l3, l4, l5] st H = rn Ls xs d 63 69 [some (.inr u), l1, l2, l3, l4, l5] (.inr u :: st) H := rn_nx rfl rfl
theorem e_W_pour_69 : rn Ls xs d 63 69 [l0, l1, l2, l3, l4, l5] (.inr (.inl (some a)) :: st) (S, I, R) = if h_is S a 8 10 then rn Ls xs d 63 72 [l0, l1, l2, l3, l4, l5] (.inr (R a 0) :: st) (S, I, R) else none := rn_bc rfl rfl
theorem e_W_pour_72 : rn Ls xs d 63 72 [l0, l1, l2, l3, l4, l5] (.inr (.inl (some a)) :: st) (S, I, R) = if h_is S a 3 11 then rn Ls xs d 63 75 [l0, l1, l2, l3, l4, l5] (.inr (R a 0) :: st) (S, I, R) else none := rn_bc rfl rfl
theorem e_W_pour_75 : rn Ls xs d 63 75 [l0, l1, l2, l3, some (.inl x), l5] st H = rn Ls xs d 63 77 [l0, l1, l2, l3, some (.inl x), l5] (.inl x :: st) H := rn_nx rfl rfl
theorem e_W_pour_77 : rn Ls xs d 63 77 [l0, l1, l2, l3, l4, l5] (.inl i :: .inr (.inl (some a)) :: st) (S, I, R) = if h_ia S a 4 i then (match R a i.toNatClampNeg with | .inl o => rn Ls xs d 63 78 [l0, l1, l2, l3, l4, l5] (.inr (.inl o) :: st) (S, I, R) | .inr _ => none) else none := rn_aald rfl
theorem e_W_pour_78 : rn Ls xs d 63 78 [l0, l1, l2, l3, l4, l5] (.inr (.inl (some a)) :: st) (S, I, R) = if h_is S a 7 6 then rn Ls xs d 63 81 [l0, l1, l2, l3, l4, l5] (.inl (I a 4) :: st) (S, I, R) else none := rn_bc rfl rfl
theorem e_W_pour_81 : rn Ls xs d 63 81 [l0, l1, l2, l3, l4, some (.inl x)] st H = rn Ls xs d 63 83 [l0, l1, l2, l3, l4, some (.inl x)] (.inl x :: st) H := rn_nx rfl rfl
theorem e_W_pour_83 : rn Ls xs d 63 83 [l0, l1, l2, l3, l4, l5] (.inl y :: .inl x :: st) H = if x = y then rn Ls xs d 63 89 [l0, l1, l2, l3, l4, l5] st H else rn Ls xs d 63 86 [l0, l1, l2, l3, l4, l5] st H := rn_cmp (p := fun x y => x = y) rfl
theorem e_W_pour_86 : rn Ls xs d 63 86 [l0, l1, l2, some (.inl x), l4, l5] st H = rn Ls xs d 63 89 [l0, l1, l2, some (.inl (x + 1)), l4, l5] st H := rn_nx rfl rfl
theorem e_W_pour_89 : rn Ls xs d 63 89 [some (.inr u), l1, l2, l3, l4, l5] st H = rn Ls xs d 63 90 [some (.inr u), l1, l2, l3, l4, l5] (.inr u :: st) H := rn_nx rfl rfl
theorem e_W_pour_90 : rn Ls xs d 63 90 [l0, l1, l2, l3, l4, l5] (.inr (.inl (some a)) :: st) (S, I, R) = if h_is S a 8 10 then rn Ls xs d 63 93 [l0, l1, l2, l3, l4, l5] (.inr (R a 0) :: st) (S, I, R) else none := rn_bc rfl rfl
theorem e_W_pour_93 : rn Ls xs d 63 93 [l0, l1, l2, l3, l4, l5] (.inr (.inl (some a)) :: st) (S, I, R) = if h_is S a 3 11 then rn Ls xs d 63 96 [l0, l1, l2, l3, l4, l5] (.inr (R a 0) :: st) (S, I, R) else none := rn_bc rfl rfl
theorem e_W_pour_96 : rn Ls xs d 63 96 [l0, l1, l2, l3, some (.inl x), l5] st H = rn Ls xs d 63 98 [l0, l1, l2, l3, some (.inl x), l5] (.inl x :: st) H := rn_nx rfl rfl
theorem e_W_pour_98 : rn Ls xs d 63 98 [l0, l1, l2, l3, l4, l5] (.inl i :: .inr (.inl (some a)) :: st) (S, I, R) = if h_ia S a 4 i then (match R a i.toNatClampNeg with | .inl o => rn Ls xs d 63 99 [l0, l1, l2, l3, l4, l5] (.inr (.inl o) :: st) (S, I, R) | .inr _ => none) else none := rn_aald rfl
theorem e_W_pour_99 : rn Ls xs d 63 99 [l0, l1, l2, l3, l4, some (.inl x)] st H = rn Ls xs d 63 101 [l0, l1, l2, l3, l4, some (.inl x)] (.inl x :: st) H := rn_nx rfl rfl
theorem e_W_pour_101 : rn Ls xs d 63 101 [l0, l1, l2, l3, l4, l5] (.inl x :: .inr (.inl (some a)) :: st) (S, I, R) = if h_is S a 7 6 then rn Ls xs d 63 104 [l0, l1, l2, l3, l4, l5] st (S, va_up I a (upd (I a) 4 x), R) else none := rn_bc rfl rfl
theorem e_W_pour_104 : rn Ls xs d 63 104 [l0, l1, l2, l3, some (.inl x), l5] st H = rn Ls xs d 63 107 [l0, l1, l2, l3, some (.inl (x + 1)), l5] st H := rn_nx rfl rfl
theorem e_W_pour_107 : rn Ls xs d 63 107 [l0, l1, l2, l3, l4, l5] st H = rn Ls xs d 63 32 [l0, l1, l2, l3, l4, l5] st H := rn_nx rfl rfl
theorem e_W_pour_110 : rn Ls xs d 63 110 [l0, l1, l2, some (.inl x), l4, l5] st H = rn Ls xs d 63 111 [l0, l1, l2, some (.inl x), l4, l5] (.inl x :: st) H := rn_nx rfl rfl
theorem e_W_pour_111 : rn Ls xs d 63 111 [l0, l1, l2, l3, l4, l5] [.inl x] H = some (some (.inl x), H) := rn_done rfl rfl
theorem e_M_pour_0 : rn Ls xs d 64 0 [l0, some (.inl x), l2, l3, l4, l5] st H = rn Ls xs d 64 1 [l0, some (.inl x), l2, l3, l4, l5] (.inl x :: st) H := rn_nx rfl rfl
theorem e_M_pour_1 : rn Ls xs (d + 1) 64 1 [l0, l1, l2, l3, l4, l5] [v0] H = rb Ls xs (d + 1) 64 4 [l0, l1, l2, l3, l4, l5] [] (rn Ls xs d 146 0 [some v0] [] H) := rn_call rfl (Nat.le_of_ble_eq_true rfl) (Nat.le_of_ble_eq_true rfl) rfl rfl
theorem e_M_pour_4 : rn Ls xs d 64 4 [l0, l1, l2, l3, l4, l5] (.inl x :: st) H = if x ≠ 0 then rn Ls xs d 64 10 [l0, l1, l2, l3, l4, l5] st H else rn Ls xs d 64 7 [l0, l1, l2, l3, l4, l5] st H := rn_if (p := fun x => x ≠ 0) rfl
theorem e_M_pour_7 : rn Ls xs d 64 7 [l0, l1, l2, l3, l4, l5]  st H = rn Ls xs d 64 9 [l0, l1, l2, l3, l4, l5] (.inl (-1000000001) :: st) H := rn_nx rfl rfl
theorem e_M_pour_9 : rn Ls xs d 64 9 [l0, l1, l2, l3, l4, l5] [.inl x] H = some (some (.inl x), H) := rn_done rfl rfl
theorem e_M_pour_10 : rn Ls xs d 64 10 [some (.inr u), l1, l2, l3, l4, l5] st H = rn Ls xs d 64 11 [some (.inr u), l1, l2, l3, l4, l5] (.inr u :: st) H := rn_nx rfl rfl
theorem e_M_pour_11 : rn Ls xs d 64 11 [l0, l1, l2, l3, l4, l5] (.inr (.inl (some a)) :: st) (S, I, R) = if h_is S a 9 36 then rn Ls xs d 64 14 [l0, l1, l2, l3, l4, l5] (.inr (R a 26) :: st) (S, I, R) else none := rn_bc rfl rfl
theorem e_M_pour_14 : rn Ls xs d 64 14 [l0, some (.inl x), l2, l3, l4, l5] st H = rn Ls xs d 64 15 [l0, some (.inl x), l2, l3, l4, l5] (.inl x :: st) H := rn_nx rfl rfl
theorem e_M_pour_15 : rn Ls xs d 64 15 [l0, l1, l2, l3, l4, l5] (.inl i :: .inr (.inl (some a)) :: st) (S, I, R) = if h_ia S a 0 i then rn Ls xs d 64 16 [l0, l1, l2, l3, l4, l5] (.inl (I a i.toNatClampNeg) :: st) (S, I, R) else none := rn_bc rfl rfl
theorem e_M_pour_16 : rn Ls xs d 64 16 [l0, l1, l2, l3, l4, l5] (.inl x :: st) H = if 0 ≤ x then rn Ls xs d 64 22 [l0, l1, l2, l3, l4, l5] st H else rn Ls xs d 64 19 [l0, l1, l2, l3, l4, l5] st H := rn_if (p := fun x => 0 ≤ x) rfl
theorem e_M_pour_19 : rn Ls xs d 64 19 [l0, l1, l2, l3, l4, l5]  st H = rn Ls xs d 64 21 [l0, l1, l2, l3, l4, l5] (.inl (-1000000011) :: st) H := rn_nx rfl rfl
theorem e_M_pour_21 : rn Ls xs d 64 21 [l0, l1, l2, l3, l4, l5] [.inl x] H = some (some (.inl x), H) := rn_done rfl rfl
theorem e_M_pour_22 : rn Ls xs d 64 22 [l0, l1, l2, l3, l4, l5]  st H = rn Ls xs d 64 23 [l0, l1, l2, l3, l4, l5] (.inl 0 :: st) H := rn_nx rfl rfl
theorem e_M_pour_23 : rn Ls xs d 64 23 [l0, l1, l2, l3, l4, l5] (.inl x :: st) H = rn Ls xs d 64 24 [l0, l1, some (.inl x), l3, l4, l5] st H := rn_nx rfl rfl
theorem e_M_pour_24 : rn Ls xs d 64 24 [l0, l1, l2, l3, l4, l5]  st H = rn Ls xs d 64 25 [l0, l1, l2, l3, l4, l5] (.inl 0 :: st) H := rn_nx rfl rfl
theorem e_M_pour_25 : rn Ls xs d 64 25 [l0, l1, l2, l3, l4, l5] (.inl x :: st) H = rn Ls xs d 64 26 [l0, l1, l2, some (.inl x), l4, l5] st H := rn_nx rfl rfl
theorem e_M_pour_26 : rn Ls xs d 64 26 [l0, l1, l2, some (.inl x), l4, l5] st H = rn Ls xs d 64 27 [l0, l1, l2, some (.inl x), l4, l5] (.inl x :: st) H := rn_nx rfl rfl
theorem e_M_pour_27 : rn Ls xs d 64 27 [some (.inr u), l1, l2, l3, l4, l5] st H = rn Ls xs d 64 28 [some (.inr u), l1, l2, l3, l4, l5] (.inr u :: st) H := rn_nx rfl rfl
theorem e_M_pour_28 : rn Ls xs d 64 28 [l0, l1, l2, l3, l4, l5] (.inr (.inl (some a)) :: st) (S, I, R) = if h_is S a 9 36 then rn Ls xs d 64 31 [l0, l1, l2, l3, l4, l5] (.inr (R a 27) :: st) (S, I, R) else none := rn_bc rfl rfl
theorem e_M_pour_31 : rn Ls xs d 64 31 [l0, some (.inl x), l2, l3, l4, l5] st H = rn Ls xs d 64 32 [l0, some (.inl x), l2, l3, l4, l5] (.inl x :: st) H := rn_nx rfl rfl
theorem e_M_pour_32 : rn Ls xs d 64 32 [l0, l1, l2, l3, l4, l5] (.inl i :: .inr (.inl (some a)) :: st) (S, I, R) = if h_ia S a 0 i then rn Ls xs d 64 33 [l0, l1, l2, l3, l4, l5] (.inl (I a i.toNatClampNeg) :: st) (S, I, R) else none := rn_bc rfl rfl
theorem e_M_pour_33 : rn Ls xs d 64 33 [l0, l1, l2, l3, l4, l5] (.inl y :: .inl x :: st) H = if y ≤ x then rn Ls xs d 64 119 [l0, l1, l2, l3, l4, l5] st H else rn Ls xs d 64 36 [l0, l1, l2, l3, l4, l5] st H := rn_cmp (p := fun x y => y ≤ x) rfl
theorem e_M_pour_36 : rn Ls xs d 64 36 [l0, l1, l2, some (.inl x), l4, l5] st H = rn Ls xs d 64 37 [l0, l1, l2, some (.inl x), l4, l5] (.inl x :: st) H := rn_nx rfl rfl
theorem e_M_pour_37 : rn Ls xs d 64 37 [some (.inr u), l1, l2, l3, l4, l5] st H = rn Ls xs d 64 38 [some (.inr u), l1, l2, l3, l4, l5] (.inr u :: st) H := rn_nx rfl rfl
theorem e_M_pour_38 : rn Ls xs d 64 38 [l0, l1, l2, l3, l4, l5] (.inr (.inl (some a)) :: st) (S, I, R) = if h_is S a 9 36 then rn Ls xs d 64 41 [l0, l1, l2, l3, l4, l5] (.inr (R a 0) :: st) (S, I, R) else none := rn_bc rfl rfl
theorem e_M_pour_41 : rn Ls xs d 64 41 [l0, l1, l2, l3, l4, l5]  st H = rn Ls xs d 64 42 [l0, l1, l2, l3, l4, l5] (.inl 1 :: st) H := rn_nx rfl rfl
theorem e_M_pour_42 : rn Ls xs d 64 42 [l0, l1, l2, l3, l4, l5] (.inl i :: .inr (.inl (some a)) :: st) (S, I, R) = if h_ia S a 0 i then rn Ls xs d 64 43 [l0, l1, l2, l3, l4, l5] (.inl (I a i.toNatClampNeg) :: st) (S, I, R) else none := rn_bc rfl rfl
theorem e_M_pour_43 : rn Ls xs d 64 43 [l0, l1, l2, l3, l4, l5] (.inl y :: .inl x :: st) H = if y ≤ x then rn Ls xs d 64 119 [l0, l1, l2, l3, l4, l5] st H else rn Ls xs d 64 46 [l0, l1, l2, l3, l4, l5] st H := rn_cmp (p := fun x y => y ≤ x) rfl
theorem e_M_pour_46 : rn Ls xs d 64 46 [some (.inr u), l1, l2, l3, l4, l5] st H = rn Ls xs d 64 47 [some (.inr u), l1, l2, l3, l4, l5] (.inr u :: st) H := rn_nx rfl rfl
theorem e_M_pour_47 : rn Ls xs d 64 47 [l0, l1, l2, l3, l4, l5] (.inr (.inl (some a)) :: st) (S, I, R) = if h_is S a 9 36 then rn Ls xs d 64 50 [l0, l1, l2, l3, l4, l5] (.inr (R a 28) :: st) (S, I, R) else none := rn_bc rfl rfl
theorem e_M_pour_50 : rn Ls xs d 64 50 [l0, l1, l2, l3, l4, l5]  st H = rn Ls xs d 64 52 [l0, l1, l2, l3, l4, l5] (.inl 24 :: st) H := rn_nx rfl rfl
theorem e_M_pour_52 : rn Ls xs d 64 52 [l0, some (.inl x), l2, l3, l4, l5] st H = rn Ls xs d 64 53 [l0, some (.inl x), l2, l3, l4, l5] (.inl x :: st) H := rn_nx rfl rfl
theorem e_M_pour_53 : rn Ls xs d 64 53 [l0, l1, l2, l3, l4, l5] (.inl y :: .inl x :: st) H = rn Ls xs d 64 54 [l0, l1, l2, l3, l4, l5] (.inl (x * y) :: st) H := rn_nx rfl rfl
theorem e_M_pour_54 : rn Ls xs d 64 54 [l0, l1, l2, some (.inl x), l4, l5] st H = rn Ls xs d 64 55 [l0, l1, l2, some (.inl x), l4, l5] (.inl x :: st) H := rn_nx rfl rfl
theorem e_M_pour_55 : rn Ls xs d 64 55 [l0, l1, l2, l3, l4, l5] (.inl y :: .inl x :: st) H = rn Ls xs d 64 56 [l0, l1, l2, l3, l4, l5] (.inl (x + y) :: st) H := rn_nx rfl rfl
theorem e_M_pour_56 : rn Ls xs d 64 56 [l0, l1, l2, l3, l4, l5] (.inl i :: .inr (.inl (some a)) :: st) (S, I, R) = if h_ia S a 0 i then rn Ls xs d 64 57 [l0, l1, l2, l3, l4, l5] (.inl (I a i.toNatClampNeg) :: st) (S, I, R) else none := rn_bc rfl rfl
theorem e_M_pour_57 : rn Ls xs d 64 57 [l0, l1, l2, l3, l4, l5] (.inl x :: st) H = rn Ls xs d 64 59 [l0, l1, l2, l3, some (.inl x), l5] st H := rn_nx rfl rfl
theorem e_M_pour_59 : rn Ls xs d 64 59 [l0, l1, l2, l3, some (.inl x), l5] st H = rn Ls xs d 64 61 [l0, l1, l2, l3, some (.inl x), l5] (.inl x :: st) H := rn_nx rfl rfl
theorem e_M_pour_61 : rn Ls xs d 64 61 [l0, l1, l2, l3, l4, l5]  st H = rn Ls xs d 64 63 [l0, l1, l2, l3, l4, l5] (.inl (-1000000005) :: st) H := rn_nx rfl rfl
theorem e_M_pour_63 : rn Ls xs d 64 63 [l0, l1, l2, l3, l4, l5] (.inl y :: .inl x :: st) H = if x ≠ y then rn Ls xs d 64 75 [l0, l1, l2, l3, l4, l5] st H else rn Ls xs d 64 66 [l0, l1, l2, l3, l4, l5] st H := rn_cmp (p := fun x y => x ≠ y) rfl
theorem e_M_pour_66 : rn Ls xs d 64 66 [some (.inr u), l1, l2, l3, l4, l5] st H = rn Ls xs d 64 67 [some (.inr u), l1, l2, l3, l4, l5] (.inr u :: st) H := rn_nx rfl rfl
theorem e_M_pour_67 : rn Ls xs d 64 67 [l0, l1, l2, some (.inl x), l4, l5] st H = rn Ls xs d 64 68 [l0, l1, l2, some (.inl x), l4, l5] (.inl x :: st) H := rn_nx rfl rfl
theorem e_M_pour_68 : rn Ls xs d 64 68 [l0, l1, l2, l3, l4, l5]  st H = rn Ls xs d 64 69 [l0, l1, l2, l3, l4, l5] (.inl 4 :: st) H := rn_nx rfl rfl
theorem e_M_pour_69 : rn Ls xs (d + 1) 64 69 [l0, l1, l2, l3, l4, l5] [v2, v1, (.inr (.inl (some a)))] (S, I, R) = if h_is S a 9 36 then rb Ls xs (d + 1) 64 72 [l0, l1, l2, l3, l4, l5] [] (rn Ls xs d 105 0 [some (.inr (.inl (some a))), some v1, some v2] [] (S, I, R)) else none := rn_callO rfl rfl (Nat.le_of_ble_eq_true rfl) rfl rfl
theorem e_M_pour_72 : rn Ls xs d 64 72 [l0, l1, l2, l3, l4, l5] st H = rn Ls xs d 64 83 [l0, l1, l2, l3, l4, l5] st H := rn_nx rfl rfl
theorem e_M_pour_75 : rn Ls xs d 64 75 [l0, l1, l2, l3, some (.inl x), l5] st H = rn Ls xs d 64 77 [l0, l1, l2, l3, some (.inl x), l5] (.inl x :: st) H := rn_nx rfl rfl
theorem e_M_pour_77 : rn Ls xs d 64 77 [l0, l1, l2, l3, l4, l5]  st H = rn Ls xs d 64 78 [l0, l1, l2, l3, l4, l5] (.inl 1 :: st) H := rn_nx rfl rfl
theorem e_M_pour_78 : rn Ls xs d 64 78 [l0, l1, l2, l3, l4, l5]  st H = rn Ls xs d 64 80 [l0, l1, l2, l3, l4, l5] (.inl 99 :: st) H := rn_nx rfl rfl
theorem e_M_pour_80 : rn Ls xs (d + 1) 64 80 [l0, l1, l2, l3, l4, l5] [v2, v1, v0] H = rb Ls xs (d + 1) 64 83 [l0, l1, l2, l3, l4, l5] [] (rn Ls xs d 120 0 [some v0, some v1, some v2] [] H) := rn_call rfl (Nat.le_of_ble_eq_true rfl) (Nat.le_of_ble_eq_true rfl) rfl rfl
theorem e_M_pour_83 : rn Ls xs d 64 83 [l0, l1, l2, l3, l4, l5] (.inl x :: st) H = rn Ls xs d 64 85 [l0, l1, l2, l3, l4, some (.inl x)] st H := rn_nx rfl rfl
theorem e_M_pour_85 : rn Ls xs d 64 85 [l0, l1, some (.inl x), l3, l4, l5] st H = rn Ls xs d 64 86 [l0, l1, some (.inl x), l3, l4, l5] (.inl x :: st) H := rn_nx rfl rfl
theorem e_M_pour_86 : rn Ls xs d 64 86 [some (.inr u), l1, l2, l3, l4, l5] st H = rn Ls xs d 64 87 [some (.inr u), l1, l2, l3, l4, l5] (.inr u :: st) H := rn_nx rfl rfl
theorem e_M_pour_87 : rn Ls xs d 64 87 [l0, l1, l2, l3, l4, l5]  st H = rn Ls xs d 64 89 [l0, l1, l2, l3, l4, l5] (.inl 8 :: st) H := rn_nx rfl rfl
theorem e_M_pour_89 : rn Ls xs d 64 89 [l0, l1, l2, l3, l4, l5]  st H = rn Ls xs d 64 91 [l0, l1, l2, l3, l4, l5] (.inl 6 :: st) H := rn_nx rfl rfl
theorem e_M_pour_91 : rn Ls xs d 64 91 [l0, l1, l2, some (.inl x), l4, l5] st H = rn Ls xs d 64 92 [l0, l1, l2, some (.inl x), l4, l5] (.inl x :: st) H := rn_nx rfl rfl
theorem e_M_pour_92 : rn Ls xs d 64 92 [l0, l1, l2, l3, l4, l5] (.inl y :: .inl x :: st) H = rn Ls xs d 64 93 [l0, l1, l2, l3, l4, l5] (.inl (x * y) :: st) H := rn_nx rfl rfl
theorem e_M_pour_93 : rn Ls xs d 64 93 [l0, l1, l2, l3, l4, l5] (.inl y :: .inl x :: st) H = rn Ls xs d 64 94 [l0, l1, l2, l3, l4, l5] (.inl (x + y) :: st) H := rn_nx rfl rfl
theorem e_M_pour_94 : rn Ls xs d 64 94 [l0, l1, l2, l3, l4, l5]  st H = rn Ls xs d 64 95 [l0, l1, l2, l3, l4, l5] (.inl 4 :: st) H := rn_nx rfl rfl
theorem e_M_pour_95 : rn Ls xs d 64 95 [l0, l1, l2, l3, l4, l5] (.inl y :: .inl x :: st) H = rn Ls xs d 64 96 [l0, l1, l2, l3, l4, l5] (.inl (x + y) :: st) H := rn_nx rfl rfl
theorem e_M_pour_96 : rn Ls xs d 64 96 [l0, l1, l2, l3, l4, some (.inl x)] st H = rn Ls xs d 64 98 [l0, l1, l2, l3, l4, some (.inl x)] (.inl x :: st) H := rn_nx rfl rfl
theorem e_M_pour_98 : rn Ls xs (d + 1) 64 98 [l0, l1, l2, l3, l4, l5] [v2, v1, (.inr (.inl (some a))), v3] (S, I, R) = if h_is S a 9 36 then rb Ls xs (d + 1) 64 101 [l0, l1, l2, l3, l4, l5] [v3] (rn Ls xs d 111 0 [some (.inr (.inl (some a))), some v1, some v2, none] [] (S, I, R)) else none := rn_callO rfl rfl (Nat.le_of_ble_eq_true rfl) rfl rfl
theorem e_M_pour_101 : rn Ls xs d 64 101 [l0, l1, l2, l3, l4, some (.inl x)] st H = rn Ls xs d 64 103 [l0, l1, l2, l3, l4, some (.inl x)] (.inl x :: st) H := rn_nx rfl rfl
theorem e_M_pour_103 : rn Ls xs d 64 103 [l0, l1, l2, l3, l4, l5] (.inl y :: .inl x :: st) H = if x ≠ y then rn Ls xs d 64 110 [l0, l1, l2, l3, l4, l5] st H else rn Ls xs d 64 106 [l0, l1, l2, l3, l4, l5] st H := rn_cmp (p := fun x y => x ≠ y) rfl
theorem e_M_pour_106 : rn Ls xs d 64 106 [l0, l1, l2, l3, l4, l5]  st H = rn Ls xs d 64 107 [l0, l1, l2, l3, l4, l5] (.inl 0 :: st) H := rn_nx rfl rfl
theorem e_M_pour_107 : rn Ls xs d 64 107 [l0, l1, l2, l3, l4, l5] st H = rn Ls xs d 64 111 [l0, l1, l2, l3, l4, l5] st H := rn_nx rfl rfl
theorem e_M_pour_110 : rn Ls xs d 64 110 [l0, l1, l2, l3, l4, l5]  st H = rn Ls xs d 64 111 [l0, l1, l2, l3, l4, l5] (.inl 1 :: st) H := rn_nx rfl rfl
theorem e_M_pour_111 : rn Ls xs d 64 111 [l0, l1, l2, l3, l4, l5] (.inl y :: .inl x :: st) H = rn Ls xs d 64 112 [l0, l1, l2, l3, l4, l5] (.inl (x + y) :: st) H := rn_nx rfl rfl
theorem e_M_pour_112 : rn Ls xs d 64 112 [l0, l1, l2, l3, l4, l5] (.inl x :: st) H = rn Ls xs d 64 113 [l0, l1, some (.inl x), l3, l4, l5] st H := rn_nx rfl rfl
theorem e_M_pour_113 : rn Ls xs d 64 113 [l0, l1, l2, some (.inl x), l4, l5] st H = rn Ls xs d 64 116 [l0, l1, l2, some (.inl (x + 1)), l4, l5] st H := rn_nx rfl rfl
theorem e_M_pour_116 : rn Ls xs d 64 116 [l0, l1, l2, l3, l4, l5] st H = rn Ls xs d 64 26 [l0, l1, l2, l3, l4, l5] st H := rn_nx rfl rfl
theorem e_M_pour_119 : rn Ls xs d 64 119 [l0, l1, some (.inl x), l3, l4, l5] st H = rn Ls xs d 64 120 [l0, l1, some (.inl x), l3, l4, l5] (.inl x :: st) H := rn_nx rfl rfl
theorem e_M_pour_120 : rn Ls xs d 64 120 [l0, l1, l2, l3, l4, l5] [.inl x] H = some (some (.inl x), H) := rn_done rfl rfl
theorem e_W_reads_0 : rn Ls xs d 65 0 [l0, some (.inl x), l2, l3] st H = rn Ls xs d 65 1 [l0, some (.inl x), l2, l3] (.inl x :: st) H := rn_nx rfl rfl
theorem e_W_reads_1 : rn Ls xs (d + 1) 65 1 [l0, l1, l2, l3] [v0] H = rb Ls xs (d + 1) 65 4 [l0, l1, l2, l3] [] (rn Ls xs d 143 0 [some v0] [] H) := rn_call rfl (Nat.le_of_ble_eq_true rfl) (Nat.le_of_ble_eq_true rfl) rfl rfl
theorem e_W_reads_4 : rn Ls xs d 65 4 [l0, l1, l2, l3] (.inl x :: st) H = if x ≠ 0 then rn Ls xs d 65 10 [l0, l1, l2, l3] st H else rn Ls xs d 65 7 [l0, l1, l2, l3] st H := rn_if (p := fun x => x ≠ 0) rfl
theorem e_W_reads_7 : rn Ls xs d 65 7 [l0, l1, l2, l3]  st H = rn Ls xs d 65 9 [l0, l1, l2, l3] (.inl (-1000000001) :: st) H := rn_nx rfl rfl
theorem e_W_reads_9 : rn Ls xs d 65 9 [l0, l1, l2, l3] [.inl x] H = some (some (.inl x), H) := rn_done rfl rfl
theorem e_W_reads_10 : rn Ls xs d 65 10 [some (.inr u), l1, l2, l3] st H = rn Ls xs d 65 11 [some (.inr u), l1, l2, l3] (.inr u :: st) H := rn_nx rfl rfl
theorem e_W_reads_11 : rn Ls xs d 65 11 [l0, l1, l2, l3] (.inr (.inl (some a)) :: st) (S, I, R) = if h_is S a 8 10 then rn Ls xs d 65 14 [l0, l1, l2, l3] (.inr (R a 5) :: st) (S, I, R) else none := rn_bc rfl rfl
theorem e_W_reads_14 : rn Ls xs d 65 14 [l0, some (.inl x), l2, l3] st H = rn Ls xs d 65 15 [l0, some (.inl x), l2, l3] (.inl x :: st) H := rn_nx rfl rfl
theorem e_W_reads_15 : rn Ls xs d 65 15 [l0, l1, l2, l3] (.inl i :: .inr (.inl (some a)) :: st) (S, I, R) = if h_ia S a 6 i then (match R a i.toNatClampNeg with | .inl o => rn Ls xs d 65 16 [l0, l1, l2, l3] (.inr (.inl o) :: st) (S, I, R) | .inr _ => none) else none := rn_aald rfl
theorem e_W_reads_16 : rn Ls xs d 65 16 [l0, l1, l2, l3] (.inr u :: st) H = rn Ls xs d 65 17 [l0, l1, some (.inr u), l3] st H := rn_nx rfl rfl
theorem e_W_reads_17 : rn Ls xs d 65 17 [l0, l1, some (.inr u), l3] st H = rn Ls xs d 65 18 [l0, l1, some (.inr u), l3] (.inr u :: st) H := rn_nx rfl rfl
theorem e_W_reads_18 : rn Ls xs (d + 1) 65 18 [l0, l1, l2, l3] [(.inr (.inl (some a)))] (S, I, R) = if h_is S a 2 3 then rb Ls xs (d + 1) 65 21 [l0, l1, l2, l3] [] (rn Ls xs d 144 0 [some (.inr (.inl (some a)))] [] (S, I, R)) else none := rn_callO rfl rfl (Nat.le_of_ble_eq_true rfl) rfl rfl
theorem e_W_reads_21 : rn Ls xs d 65 21 [l0, l1, l2, l3] (.inl x :: st) H = if x = 0 then rn Ls xs d 65 27 [l0, l1, l2, l3] st H else rn Ls xs d 65 24 [l0, l1, l2, l3] st H := rn_if (p := fun x => x = 0) rfl
theorem e_W_reads_24 : rn Ls xs d 65 24 [l0, l1, l2, l3]  st H = rn Ls xs d 65 26 [l0, l1, l2, l3] (.inl (-1000000011) :: st) H := rn_nx rfl rfl
theorem e_W_reads_26 : rn Ls xs d 65 26 [l0, l1, l2, l3] [.inl x] H = some (some (.inl x), H) := rn_done rfl rfl
theorem e_W_reads_27 : rn Ls xs d 65 27 [l0, l1, l2, l3]  st H = rn Ls xs d 65 28 [l0, l1, l2, l3] (.inl 0 :: st) H := rn_nx rfl rfl
theorem e_W_reads_28 : rn Ls xs d 65 28 [l0, l1, l2, l3] (.inl x :: st) H = rn Ls xs d 65 29 [l0, l1, l2, some (.inl x)] st H := rn_nx rfl rfl
theorem e_W_reads_29 : rn Ls xs d 65 29 [l0, l1, l2, some (.inl x)] st H = rn Ls xs d 65 30 [l0, l1, l2, some (.inl x)] (.inl x :: st) H := rn_nx rfl rfl
theorem e_W_reads_30 : rn Ls xs d 65 30 [l0, l1, some (.inr u), l3] st H = rn Ls xs d 65 31 [l0, l1, some (.inr u), l3] (.inr u :: st) H := rn_nx rfl rfl
theorem e_W_reads_31 : rn Ls xs d 65 31 [l0, l1, l2, l3] (.inr (.inl (some a)) :: st) (S, I, R) = if h_is S a 2 3 then rn Ls xs d 65 34 [l0, l1, l2, l3] (.inl (I a 2) :: st) (S, I, R) else none := rn_bc rfl rfl
theorem e_W_reads_34 : rn Ls xs d 65 34 [l0, l1, l2, l3] (.inl y :: .inl x :: st) H = if y ≤ x then rn Ls xs d 65 85 [l0, l1, l2, l3] st H else rn Ls xs d 65 37 [l0, l1, l2, l3] st H := rn_cmp (p := fun x y => y ≤ x) rfl
theorem e_W_reads_37 : rn Ls xs d 65 37 [l0, l1, some (.inr u), l3] st H = rn Ls xs d 65 38 [l0, l1, some (.inr u), l3] (.inr u :: st) H := rn_nx rfl rfl
theorem e_W_reads_38 : rn Ls xs d 65 38 [l0, l1, l2, some (.inl x)] st H = rn Ls xs d 65 39 [l0, l1, l2, some (.inl x)] (.inl x :: st) H := rn_nx rfl rfl
theorem e_W_reads_39 : rn Ls xs (d + 1) 65 39 [l0, l1, l2, l3] [v1, (.inr (.inl (some a)))] (S, I, R) = if h_is S a 2 3 then rb Ls xs (d + 1) 65 42 [l0, l1, l2, l3] [] (rn Ls xs d 162 0 [some (.inr (.inl (some a))), some v1] [] (S, I, R)) else none := rn_callO rfl rfl (Nat.le_of_ble_eq_true rfl) rfl rfl
theorem e_W_reads_42 : rn Ls xs d 65 42 [l0, l1, l2, l3] (.inl x :: st) H = if x = 0 then rn Ls xs d 65 79 [l0, l1, l2, l3] st H else rn Ls xs d 65 45 [l0, l1, l2, l3] st H := rn_if (p := fun x => x = 0) rfl
theorem e_W_reads_45 : rn Ls xs d 65 45 [some (.inr u), l1, l2, l3] st H = rn Ls xs d 65 46 [some (.inr u), l1, l2, l3] (.inr u :: st) H := rn_nx rfl rfl
theorem e_W_reads_46 : rn Ls xs d 65 46 [l0, l1, l2, l3] (.inr (.inl (some a)) :: st) (S, I, R) = if h_is S a 8 10 then rn Ls xs d 65 49 [l0, l1, l2, l3] (.inr (R a 0) :: st) (S, I, R) else none := rn_bc rfl rfl
theorem e_W_reads_49 : rn Ls xs d 65 49 [l0, l1, l2, some (.inl x)] st H = rn Ls xs d 65 50 [l0, l1, l2, some (.inl x)] (.inl x :: st) H := rn_nx rfl rfl
theorem e_W_reads_50 : rn Ls xs (d + 1) 65 50 [l0, l1, l2, l3] [v1, (.inr (.inl (some a)))] (S, I, R) = if h_is S a 3 11 then rb Ls xs (d + 1) 65 53 [l0, l1, l2, l3] [] (rn Ls xs d 100 0 [some (.inr (.inl (some a))), some v1] [] (S, I, R)) else none := rn_callO rfl rfl (Nat.le_of_ble_eq_true rfl) rfl rfl
theorem e_W_reads_53 : rn Ls xs d 65 53 [l0, l1, l2, l3] (.inl x :: st) H = if x = 0 then rn Ls xs d 65 77 [l0, l1, l2, l3] st H else rn Ls xs d 65 56 [l0, l1, l2, l3] st H := rn_if (p := fun x => x = 0) rfl
theorem e_W_reads_56 : rn Ls xs d 65 56 [some (.inr u), l1, l2, l3] st H = rn Ls xs d 65 57 [some (.inr u), l1, l2, l3] (.inr u :: st) H := rn_nx rfl rfl
theorem e_W_reads_57 : rn Ls xs d 65 57 [l0, l1, l2, l3] (.inr (.inl (some a)) :: st) (S, I, R) = if h_is S a 8 10 then rn Ls xs d 65 60 [l0, l1, l2, l3] (.inr (R a 0) :: st) (S, I, R) else none := rn_bc rfl rfl
theorem e_W_reads_60 : rn Ls xs d 65 60 [l0, l1, l2, l3] (.inr (.inl (some a)) :: st) (S, I, R) = if h_is S a 3 11 then rn Ls xs d 65 63 [l0, l1, l2, l3] (.inr (R a 0) :: st) (S, I, R) else none := rn_bc rfl rfl
theorem e_W_reads_63 : rn Ls xs d 65 63 [l0, l1, l2, some (.inl x)] st H = rn Ls xs d 65 64 [l0, l1, l2, some (.inl x)] (.inl x :: st) H := rn_nx rfl rfl
theorem e_W_reads_64 : rn Ls xs d 65 64 [l0, l1, l2, l3] (.inl i :: .inr (.inl (some a)) :: st) (S, I, R) = if h_ia S a 4 i then (match R a i.toNatClampNeg with | .inl o => rn Ls xs d 65 65 [l0, l1, l2, l3] (.inr (.inl o) :: st) (S, I, R) | .inr _ => none) else none := rn_aald rfl
theorem e_W_reads_65 : rn Ls xs d 65 65 [l0, l1, l2, l3] (.inr (.inl (some a)) :: st) (S, I, R) = if h_is S a 7 6 then rn Ls xs d 65 68 [l0, l1, l2, l3] (.inl (I a 2) :: st) (S, I, R) else none := rn_bc rfl rfl
theorem e_W_reads_68 : rn Ls xs d 65 68 [l0, l1, some (.inr u), l3] st H = rn Ls xs d 65 69 [l0, l1, some (.inr u), l3] (.inr u :: st) H := rn_nx rfl rfl
theorem e_W_reads_69 : rn Ls xs d 65 69 [l0, l1, l2, l3] (.inr (.inl (some a)) :: st) (S, I, R) = if h_is S a 2 3 then rn Ls xs d 65 72 [l0, l1, l2, l3] (.inr (R a 0) :: st) (S, I, R) else none := rn_bc rfl rfl
theorem e_W_reads_72 : rn Ls xs d 65 72 [l0, l1, l2, some (.inl x)] st H = rn Ls xs d 65 73 [l0, l1, l2, some (.inl x)] (.inl x :: st) H := rn_nx rfl rfl
theorem e_W_reads_73 : rn Ls xs d 65 73 [l0, l1, l2, l3] (.inl i :: .inr (.inl (some a)) :: st) (S, I, R) = if h_ia S a 0 i then rn Ls xs d 65 74 [l0, l1, l2, l3] (.inl (I a i.toNatClampNeg) :: st) (S, I, R) else none := rn_bc rfl rfl
theorem e_W_reads_74 : rn Ls xs d 65 74 [l0, l1, l2, l3] (.inl y :: .inl x :: st) H = if x = y then rn Ls xs d 65 79 [l0, l1, l2, l3] st H else rn Ls xs d 65 77 [l0, l1, l2, l3] st H := rn_cmp (p := fun x y => x = y) rfl
theorem e_W_reads_77 : rn Ls xs d 65 77 [l0, l1, l2, some (.inl x)] st H = rn Ls xs d 65 78 [l0, l1, l2, some (.inl x)] (.inl x :: st) H := rn_nx rfl rfl
theorem e_W_reads_78 : rn Ls xs d 65 78 [l0, l1, l2, l3] [.inl x] H = some (some (.inl x), H) := rn_done rfl rfl
theorem e_W_reads_79 : rn Ls xs d 65 79 [l0, l1, l2, some (.inl x)] st H = rn Ls xs d 65 82 [l0, l1, l2, some (.inl (x + 1))] st H := rn_nx rfl rfl
theorem e_W_reads_82 : rn Ls xs d 65 82 [l0, l1, l2, l3] st H = rn Ls xs d 65 29 [l0, l1, l2, l3] st H := rn_nx rfl rfl
theorem e_W_reads_85 : rn Ls xs d 65 85 [l0, l1, l2, l3]  st H = rn Ls xs d 65 88 [l0, l1, l2, l3] (.inl (-1000000005) :: st) H := rn_nx rfl rfl
theorem e_W_reads_88 : rn Ls xs d 65 88 [l0, l1, l2, l3] [.inl x] H = some (some (.inl x), H) := rn_done rfl rfl
theorem e_M_reads_0 : rn Ls xs d 66 0 [l0, some (.inl x), l2, l3] st H = rn Ls xs d 66 1 [l0, some (.inl x), l2, l3] (.inl x :: st) H := rn_nx rfl rfl
theorem e_M_reads_1 : rn Ls xs (d + 1) 66 1 [l0, l1, l2, l3] [v0] H = rb Ls xs (d + 1) 66 4 [l0, l1, l2, l3] [] (rn Ls xs d 146 0 [some v0] [] H) := rn_call rfl (Nat.le_of_ble_eq_true rfl) (Nat.le_of_ble_eq_true rfl) rfl rfl
theorem e_M_reads_4 : rn Ls xs d 66 4 [l0, l1, l2, l3] (.inl x :: st) H = if x ≠ 0 then rn Ls xs d 66 10 [l0, l1, l2, l3] st H else rn Ls xs d 66 7 [l0, l1, l2, l3] st H := rn_if (p := fun x => x ≠ 0) rfl
theorem e_M_reads_7 : rn Ls xs d 66 7 [l0, l1, l2, l3]  st H = rn Ls xs d 66 9 [l0, l1, l2, l3] (.inl (-1000000001) :: st) H := rn_nx rfl rfl
theorem e_M_reads_9 : rn Ls xs d 66 9 [l0, l1, l2, l3] [.inl x] H = some (some (.inl x), H) := rn_done rfl rfl
theorem e_M_reads_10 : rn Ls xs d 66 10 [some (.inr u), l1, l2, l3] st H = rn Ls xs d 66 11 [some (.inr u), l1, l2, l3] (.inr u :: st) H := rn_nx rfl rfl
theorem e_M_reads_11 : rn Ls xs d 66 11 [l0, l1, l2, l3] (.inr (.inl (some a)) :: st) (S, I, R) = if h_is S a 9 36 then rn Ls xs d 66 14 [l0, l1, l2, l3] (.inr (R a 26) :: st) (S, I, R) else none := rn_bc rfl rfl
theorem e_M_reads_14 : rn Ls xs d 66 14 [l0, some (.inl x), l2, l3] st H = rn Ls xs d 66 15 [l0, some (.inl x), l2, l3] (.inl x :: st) H := rn_nx rfl rfl
theorem e_M_reads_15 : rn Ls xs d 66 15 [l0, l1, l2, l3] (.inl i :: .inr (.inl (some a)) :: st) (S, I, R) = if h_ia S a 0 i then rn Ls xs d 66 16 [l0, l1, l2, l3] (.inl (I a i.toNatClampNeg) :: st) (S, I, R) else none := rn_bc rfl rfl
theorem e_M_reads_16 : rn Ls xs d 66 16 [l0, l1, l2, l3] (.inl x :: st) H = if 0 ≤ x then rn Ls xs d 66 22 [l0, l1, l2, l3] st H else rn Ls xs d 66 19 [l0, l1, l2, l3] st H := rn_if (p := fun x => 0 ≤ x) rfl
theorem e_M_reads_19 : rn Ls xs d 66 19 [l0, l1, l2, l3]  st H = rn Ls xs d 66 21 [l0, l1, l2, l3] (.inl (-1000000011) :: st) H := rn_nx rfl rfl
theorem e_M_reads_21 : rn Ls xs d 66 21 [l0, l1, l2, l3] [.inl x] H = some (some (.inl x), H) := rn_done rfl rfl
theorem e_M_reads_22 : rn Ls xs d 66 22 [l0, l1, l2, l3]  st H = rn Ls xs d 66 23 [l0, l1, l2, l3] (.inl 0 :: st) H := rn_nx rfl rfl
theorem e_M_reads_23 : rn Ls xs d 66 23 [l0, l1, l2, l3] (.inl x :: st) H = rn Ls xs d 66 24 [l0, l1, some (.inl x), l3] st H := rn_nx rfl rfl
theorem e_M_reads_24 : rn Ls xs d 66 24 [l0, l1, some (.inl x), l3] st H = rn Ls xs d 66 25 [l0, l1, some (.inl x), l3] (.inl x :: st) H := rn_nx rfl rfl
theorem e_M_reads_25 : rn Ls xs d 66 25 [some (.inr u), l1, l2, l3] st H = rn Ls xs d 66 26 [some (.inr u), l1, l2, l3] (.inr u :: st) H := rn_nx rfl rfl
theorem e_M_reads_26 : rn Ls xs d 66 26 [l0, l1, l2, l3] (.inr (.inl (some a)) :: st) (S, I, R) = if h_is S a 9 36 then rn Ls xs d 66 29 [l0, l1, l2, l3] (.inr (R a 27) :: st) (S, I, R) else none := rn_bc rfl rfl
theorem e_M_reads_29 : rn Ls xs d 66 29 [l0, some (.inl x), l2, l3] st H = rn Ls xs d 66 30 [l0, some (.inl x), l2, l3] (.inl x :: st) H := rn_nx rfl rfl
theorem e_M_reads_30 : rn Ls xs d 66 30 [l0, l1, l2, l3] (.inl i :: .inr (.inl (some a)) :: st) (S, I, R) = if h_ia S a 0 i then rn Ls xs d 66 31 [l0, l1, l2, l3] (.inl (I a i.toNatClampNeg) :: st) (S, I, R) else none := rn_bc rfl rfl
theorem e_M_reads_31 : rn Ls xs d 66 31 [l0, l1, l2, l3] (.inl y :: .inl x :: st) H = if y ≤ x then rn Ls xs d 66 78 [l0, l1, l2, l3] st H else rn Ls xs d 66 34 [l0, l1, l2, l3] st H := rn_cmp (p := fun x y => y ≤ x) rfl
theorem e_M_reads_34 : rn Ls xs d 66 34 [some (.inr u), l1, l2, l3] st H = rn Ls xs d 66 35 [some (.inr u), l1, l2, l3] (.inr u :: st) H := rn_nx rfl rfl
theorem e_M_reads_35 : rn Ls xs d 66 35 [l0, l1, l2, l3] (.inr (.inl (some a)) :: st) (S, I, R) = if h_is S a 9 36 then rn Ls xs d 66 38 [l0, l1, l2, l3] (.inr (R a 28) :: st) (S, I, R) else none := rn_bc rfl rfl
theorem e_M_reads_38 : rn Ls xs d 66 38 [l0, l1, l2, l3]  st H = rn Ls xs d 66 40 [l0, l1, l2, l3] (.inl 24 :: st) H := rn_nx rfl rfl
theorem e_M_reads_40 : rn Ls xs d 66 40 [l0, some (.inl x), l2, l3] st H = rn Ls xs d 66 41 [l0, some (.inl x), l2, l3] (.inl x :: st) H := rn_nx rfl rfl
theorem e_M_reads_41 : rn Ls xs d 66 41 [l0, l1, l2, l3] (.inl y :: .inl x :: st) H = rn Ls xs d 66 42 [l0, l1, l2, l3] (.inl (x * y) :: st) H := rn_nx rfl rfl
theorem e_M_reads_42 : rn Ls xs d 66 42 [l0, l1, some (.inl x), l3] st H = rn Ls xs d 66 43 [l0, l1, some (.inl x), l3] (.inl x :: st) H := rn_nx rfl rfl
theorem e_M_reads_43 : rn Ls xs d 66 43 [l0, l1, l2, l3] (.inl y :: .inl x :: st) H = rn Ls xs d 66 44 [l0, l1, l2, l3] (.inl (x + y) :: st) H := rn_nx rfl rfl
theorem e_M_reads_44 : rn Ls xs d 66 44 [l0, l1, l2, l3] (.inl i :: .inr (.inl (some a)) :: st) (S, I, R) = if h_ia S a 0 i then rn Ls xs d 66 45 [l0, l1, l2, l3] (.inl (I a i.toNatClampNeg) :: st) (S, I, R) else none := rn_bc rfl rfl
theorem e_M_reads_45 : rn Ls xs d 66 45 [l0, l1, l2, l3] (.inl x :: st) H = rn Ls xs d 66 46 [l0, l1, l2, some (.inl x)] st H := rn_nx rfl rfl
theorem e_M_reads_46 : rn Ls xs d 66 46 [l0, l1, l2, some (.inl x)] st H = rn Ls xs d 66 47 [l0, l1, l2, some (.inl x)] (.inl x :: st) H := rn_nx rfl rfl
theorem e_M_reads_47 : rn Ls xs d 66 47 [l0, l1, l2, l3]  st H = rn Ls xs d 66 49 [l0, l1, l2, l3] (.inl (-1000000005) :: st) H := rn_nx rfl rfl
theorem e_M_reads_49 : rn Ls xs d 66 49 [l0, l1, l2, l3] (.inl y :: .inl x :: st) H = if x = y then rn Ls xs d 66 72 [l0, l1, l2, l3] st H else rn Ls xs d 66 52 [l0, l1, l2, l3] st H := rn_cmp (p := fun x y => x = y) rfl
theorem e_M_reads_52 : rn Ls xs d 66 52 [some (.inr u), l1, l2, l3] st H = rn Ls xs d 66 53 [some (.inr u), l1, l2, l3] (.inr u :: st) H := rn_nx rfl rfl
theorem e_M_reads_53 : rn Ls xs d 66 53 [l0, l1, some (.inl x), l3] st H = rn Ls xs d 66 54 [l0, l1, some (.inl x), l3] (.inl x :: st) H := rn_nx rfl rfl
theorem e_M_reads_54 : rn Ls xs (d + 1) 66 54 [l0, l1, l2, l3] [v1, (.inr (.inl (some a)))] (S, I, R) = if h_is S a 9 36 then rb Ls xs (d + 1) 66 57 [l0, l1, l2, l3] [] (rn Ls xs d 104 0 [some (.inr (.inl (some a))), some v1] [] (S, I, R)) else none := rn_callO rfl rfl (Nat.le_of_ble_eq_true rfl) rfl rfl
theorem e_M_reads_57 : rn Ls xs d 66 57 [l0, l1, l2, l3] (.inl x :: st) H = if x = 0 then rn Ls xs d 66 70 [l0, l1, l2, l3] st H else rn Ls xs d 66 60 [l0, l1, l2, l3] st H := rn_if (p := fun x => x = 0) rfl
theorem e_M_reads_60 : rn Ls xs d 66 60 [l0, l1, l2, some (.inl x)] st H = rn Ls xs d 66 61 [l0, l1, l2, some (.inl x)] (.inl x :: st) H := rn_nx rfl rfl
theorem e_M_reads_61 : rn Ls xs d 66 61 [some (.inr u), l1, l2, l3] st H = rn Ls xs d 66 62 [some (.inr u), l1, l2, l3] (.inr u :: st) H := rn_nx rfl rfl
theorem e_M_reads_62 : rn Ls xs d 66 62 [l0, l1, some (.inl x), l3] st H = rn Ls xs d 66 63 [l0, l1, some (.inl x), l3] (.inl x :: st) H := rn_nx rfl rfl
theorem e_M_reads_63 : rn Ls xs d 66 63 [l0, l1, l2, l3]  st H = rn Ls xs d 66 64 [l0, l1, l2, l3] (.inl 2 :: st) H := rn_nx rfl rfl
theorem e_M_reads_64 : rn Ls xs (d + 1) 66 64 [l0, l1, l2, l3] [v2, v1, (.inr (.inl (some a))), v3] (S, I, R) = if h_is S a 9 36 then rb Ls xs (d + 1) 66 67 [l0, l1, l2, l3] [v3] (rn Ls xs d 105 0 [some (.inr (.inl (some a))), some v1, some v2] [] (S, I, R)) else none := rn_callO rfl rfl (Nat.le_of_ble_eq_true rfl) rfl rfl
theorem e_M_reads_67 : rn Ls xs d 66 67 [l0, l1, l2, l3] (.inl y :: .inl x :: st) H = if x = y then rn Ls xs d 66 72 [l0, l1, l2, l3] st H else rn Ls xs d 66 70 [l0, l1, l2, l3] st H := rn_cmp (p := fun x y => x = y) rfl
theorem e_M_reads_70 : rn Ls xs d 66 70 [l0, l1, some (.inl x), l3] st H = rn Ls xs d 66 71 [l0, l1, some (.inl x), l3] (.inl x :: st) H := rn_nx rfl rfl
theorem e_M_reads_71 : rn Ls xs d 66 71 [l0, l1, l2, l3] [.inl x] H = some (some (.inl x), H) := rn_done rfl rfl
theorem e_M_reads_72 : rn Ls xs d 66 72 [l0, l1, some (.inl x), l3] st H = rn Ls xs d 66 75 [l0, l1, some (.inl (x + 1)), l3] st H := rn_nx rfl rfl
theorem e_M_reads_75 : rn Ls xs d 66 75 [l0, l1, l2, l3] st H = rn Ls xs d 66 24 [l0, l1, l2, l3] st H := rn_nx rfl rfl
theorem e_M_reads_78 : rn Ls xs d 66 78 [l0, l1, l2, l3]  st H = rn Ls xs d 66 80 [l0, l1, l2, l3] (.inl (-1000000005) :: st) H := rn_nx rfl rfl
theorem e_M_reads_80 : rn Ls xs d 66 80 [l0, l1, l2, l3] [.inl x] H = some (some (.inl x), H) := rn_done rfl rfl
theorem e_W_copy_0 : rn Ls xs d 67 0 [l0, some (.inl x), l2, l3, l4, l5, l6, l7] st H = rn Ls xs d 67 1 [l0, some (.inl x), l2, l3, l4, l5, l6, l7] (.inl x :: st) H := rn_nx rfl rfl
theorem e_W_copy_1 : rn Ls xs (d + 1) 67 1 [l0, l1, l2, l3, l4, l5, l6, l7] [v0] H = rb Ls xs (d + 1) 67 4 [l0, l1, l2, l3, l4, l5, l6, l7] [] (rn Ls xs d 143 0 [some v0] [] H) := rn_call rfl (Nat.le_of_ble_eq_true rfl) (Nat.le_of_ble_eq_true rfl) rfl rfl
theorem e_W_copy_4 : rn Ls xs d 67 4 [l0, l1, l2, l3, l4, l5, l6, l7] (.inl x :: st) H = if x = 0 then rn Ls xs d 67 14 [l0, l1, l2, l3, l4, l5, l6, l7] st H else rn Ls xs d 67 7 [l0, l1, l2, l3, l4, l5, l6, l7] st H := rn_if (p := fun x => x = 0) rfl
theorem e_W_copy_7 : rn Ls xs d 67 7 [l0, l1, l2, some (.inl x), l4, l5, l6, l7] st H = rn Ls xs d 67 8 [l0, l1, l2, some (.inl x), l4, l5, l6, l7] (.inl x :: st) H := rn_nx rfl rfl
theorem e_W_copy_8 : rn Ls xs (d + 1) 67 8 [l0, l1, l2, l3, l4, l5, l6, l7] [v0] H = rb Ls xs (d + 1) 67 11 [l0, l1, l2, l3, l4, l5, l6, l7] [] (rn Ls xs d 143 0 [some v0] [] H) := rn_call rfl (Nat.le_of_ble_eq_true rfl) (Nat.le_of_ble_eq_true rfl) rfl rfl
theorem e_W_copy_11 : rn Ls xs d 67 11 [l0, l1, l2, l3, l4, l5, l6, l7] (.inl x :: st) H = if x ≠ 0 then rn Ls xs d 67 17 [l0, l1, l2, l3, l4, l5, l6, l7] st H else rn Ls xs d 67 14 [l0, l1, l2, l3, l4, l5, l6, l7] st H := rn_if (p := fun x => x ≠ 0) rfl
theorem e_W_copy_14 : rn Ls xs d 67 14 [l0, l1, l2, l3, l4, l5, l6, l7]  st H = rn Ls xs d 67 16 [l0, l1, l2, l3, l4, l5, l6, l7] (.inl (-1000000001) :: st) H := rn_nx rfl rfl
theorem e_W_copy_16 : rn Ls xs d 67 16 [l0, l1, l2, l3, l4, l5, l6, l7] [.inl x] H = some (some (.inl x), H) := rn_done rfl rfl
theorem e_W_copy_17 : rn Ls xs d 67 17 [some (.inr u), l1, l2, l3, l4, l5, l6, l7] st H = rn Ls xs d 67 18 [some (.inr u), l1, l2, l3, l4, l5, l6, l7] (.inr u :: st) H := rn_nx rfl rfl
theorem e_W_copy_18 : rn Ls xs d 67 18 [l0, l1, l2, l3, l4, l5, l6, l7] (.inr (.inl (some a)) :: st) (S, I, R) = if h_is S a 8 10 then rn Ls xs d 67 21 [l0, l1, l2, l3, l4, l5, l6, l7] (.inr (R a 5) :: st) (S, I, R) else none := rn_bc rfl rfl
theorem e_W_copy_21 : rn Ls xs d 67 21 [l0, some (.inl x), l2, l3, l4, l5, l6, l7] st H = rn Ls xs d 67 22 [l0, some (.inl x), l2, l3, l4, l5, l6, l7] (.inl x :: st) H := rn_nx rfl rfl
theorem e_W_copy_22 : rn Ls xs d 67 22 [l0, l1, l2, l3, l4, l5, l6, l7] (.inl i :: .inr (.inl (some a)) :: st) (S, I, R) = if h_ia S a 6 i then (match R a i.toNatClampNeg with | .inl o => rn Ls xs d 67 23 [l0, l1, l2, l3, l4, l5, l6, l7] (.inr (.inl o) :: st) (S, I, R) | .inr _ => none) else none := rn_aald rfl
theorem e_W_copy_23 : rn Ls xs d 67 23 [l0, l1, l2, l3, l4, l5, l6, l7] (.inr u :: st) H = rn Ls xs d 67 25 [l0, l1, l2, l3, l4, l5, some (.inr u), l7] st H := rn_nx rfl rfl
theorem e_W_copy_25 : rn Ls xs d 67 25 [some (.inr u), l1, l2, l3, l4, l5, l6, l7] st H = rn Ls xs d 67 26 [some (.inr u), l1, l2, l3, l4, l5, l6, l7] (.inr u :: st) H := rn_nx rfl rfl
theorem e_W_copy_26 : rn Ls xs d 67 26 [l0, l1, l2, l3, l4, l5, l6, l7] (.inr (.inl (some a)) :: st) (S, I, R) = if h_is S a 8 10 then rn Ls xs d 67 29 [l0, l1, l2, l3, l4, l5, l6, l7] (.inr (R a 5) :: st) (S, I, R) else none := rn_bc rfl rfl
theorem e_W_copy_29 : rn Ls xs d 67 29 [l0, l1, l2, some (.inl x), l4, l5, l6, l7] st H = rn Ls xs d 67 30 [l0, l1, l2, some (.inl x), l4, l5, l6, l7] (.inl x :: st) H := rn_nx rfl rfl
theorem e_W_copy_30 : rn Ls xs d 67 30 [l0, l1, l2, l3, l4, l5, l6, l7] (.inl i :: .inr (.inl (some a)) :: st) (S, I, R) = if h_ia S a 6 i then (match R a i.toNatClampNeg with | .inl o => rn Ls xs d 67 31 [l0, l1, l2, l3, l4, l5, l6, l7] (.inr (.inl o) :: st) (S, I, R) | .inr _ => none) else none := rn_aald rfl
theorem e_W_copy_31 : rn Ls xs d 67 31 [l0, l1, l2, l3, l4, l5, l6, l7] (.inr u :: st) H = rn Ls xs d 67 33 [l0, l1, l2, l3, l4, l5, l6, some (.inr u)] st H := rn_nx rfl rfl
theorem e_W_copy_33 : rn Ls xs d 67 33 [l0, l1, l2, l3, l4, l5, some (.inr u), l7] st H = rn Ls xs d 67 35 [l0, l1, l2, l3, l4, l5, some (.inr u), l7] (.inr u :: st) H := rn_nx rfl rfl
theorem e_W_copy_35 : rn Ls xs (d + 1) 67 35 [l0, l1, l2, l3, l4, l5, l6, l7] [(.inr (.inl (some a)))] (S, I, R) = if h_is S a 2 3 then rb Ls xs (d + 1) 67 38 [l0, l1, l2, l3, l4, l5, l6, l7] [] (rn Ls xs d 144 0 [some (.inr (.inl (some a)))] [] (S, I, R)) else none := rn_callO rfl rfl (Nat.le_of_ble_eq_true rfl) rfl rfl
theorem e_W_copy_38 : rn Ls xs d 67 38 [l0, l1, l2, l3, l4, l5, l6, l7] (.inl x :: st) H = if x ≠ 0 then rn Ls xs d 67 49 [l0, l1, l2, l3, l4, l5, l6, l7] st H else rn Ls xs d 67 41 [l0, l1, l2, l3, l4, l5, l6, l7] st H := rn_if (p := fun x => x ≠ 0) rfl
theorem e_W_copy_41 : rn Ls xs d 67 41 [l0, l1, l2, l3, l4, l5, l6, some (.inr u)] st H = rn Ls xs d 67 43 [l0, l1, l2, l3, l4, l5, l6, some (.inr u)] (.inr u :: st) H := rn_nx rfl rfl
theorem e_W_copy_43 : rn Ls xs (d + 1) 67 43 [l0, l1, l2, l3, l4, l5, l6, l7] [(.inr (.inl (some a)))] (S, I, R) = if h_is S a 2 3 then rb Ls xs (d + 1) 67 46 [l0, l1, l2, l3, l4, l5, l6, l7] [] (rn Ls xs d 144 0 [some (.inr (.inl (some a)))] [] (S, I, R)) else none := rn_callO rfl rfl (Nat.le_of_ble_eq_true rfl) rfl rfl
theorem e_W_copy_46 : rn Ls xs d 67 46 [l0, l1, l2, l3, l4, l5, l6, l7] (.inl x :: st) H = if x = 0 then rn Ls xs d 67 52 [l0, l1, l2, l3, l4, l5, l6, l7] st H else rn Ls xs d 67 49 [l0, l1, l2, l3, l4, l5, l6, l7] st H := rn_if (p := fun x => x = 0) rfl
theorem e_W_copy_49 : rn Ls xs d 67 49 [l0, l1, l2, l3, l4, l5, l6, l7]  st H = rn Ls xs d 67 51 [l0, l1, l2, l3, l4, l5, l6, l7] (.inl (-1000000011) :: st) H := rn_nx rfl rfl
theorem e_W_copy_51 : rn Ls xs d 67 51 [l0, l1, l2, l3, l4, l5, l6, l7] [.inl x] H = some (some (.inl x), H) := rn_done rfl rfl
theorem e_W_copy_52 : rn Ls xs d 67 52 [l0, l1, l2, l3, l4, l5, some (.inr u), l7] st H = rn Ls xs d 67 54 [l0, l1, l2, l3, l4, l5, some (.inr u), l7] (.inr u :: st) H := rn_nx rfl rfl
theorem e_W_copy_54 : rn Ls xs d 67 54 [l0, l1, l2, l3, l4, l5, l6, l7] (.inr (.inl (some a)) :: st) (S, I, R) = if h_is S a 2 3 then rn Ls xs d 67 57 [l0, l1, l2, l3, l4, l5, l6, l7] (.inl (I a 1) :: st) (S, I, R) else none := rn_bc rfl rfl
theorem e_W_copy_57 : rn Ls xs d 67 57 [l0, l1, l2, l3, l4, l5, l6, some (.inr u)] st H = rn Ls xs d 67 59 [l0, l1, l2, l3, l4, l5, l6, some (.inr u)] (.inr u :: st) H := rn_nx rfl rfl
theorem e_W_copy_59 : rn Ls xs d 67 59 [l0, l1, l2, l3, l4, l5, l6, l7] (.inr (.inl (some a)) :: st) (S, I, R) = if h_is S a 2 3 then rn Ls xs d 67 62 [l0, l1, l2, l3, l4, l5, l6, l7] (.inl (I a 1) :: st) (S, I, R) else none := rn_bc rfl rfl
theorem e_W_copy_62 : rn Ls xs d 67 62 [l0, l1, l2, l3, l4, l5, l6, l7] (.inl y :: .inl x :: st) H = if x = y then rn Ls xs d 67 68 [l0, l1, l2, l3, l4, l5, l6, l7] st H else rn Ls xs d 67 65 [l0, l1, l2, l3, l4, l5, l6, l7] st H := rn_cmp (p := fun x y => x = y) rfl
theorem e_W_copy_65 : rn Ls xs d 67 65 [l0, l1, l2, l3, l4, l5, l6, l7]  st H = rn Ls xs d 67 67 [l0, l1, l2, l3, l4, l5, l6, l7] (.inl (-1000000012) :: st) H := rn_nx rfl rfl
theorem e_W_copy_67 : rn Ls xs d 67 67 [l0, l1, l2, l3, l4, l5, l6, l7] [.inl x] H = some (some (.inl x), H) := rn_done rfl rfl
theorem e_W_copy_68 : rn Ls xs d 67 68 [l0, l1, l2, l3, l4, l5, some (.inr u), l7] st H = rn Ls xs d 67 70 [l0, l1, l2, l3, l4, l5, some (.inr u), l7] (.inr u :: st) H := rn_nx rfl rfl
theorem e_W_copy_70 : rn Ls xs d 67 70 [l0, l1, some (.inl x), l3, l4, l5, l6, l7] st H = rn Ls xs d 67 71 [l0, l1, some (.inl x), l3, l4, l5, l6, l7] (.inl x :: st) H := rn_nx rfl rfl
theorem e_W_copy_71 : rn Ls xs d 67 71 [l0, l1, l2, l3, l4, some (.inl x), l6, l7] st H = rn Ls xs d 67 73 [l0, l1, l2, l3, l4, some (.inl x), l6, l7] (.inl x :: st) H := rn_nx rfl rfl
theorem e_W_copy_73 : rn Ls xs (d + 1) 67 73 [l0, l1, l2, l3, l4, l5, l6, l7] [v2, v1, (.inr (.inl (some a)))] (S, I, R) = if h_is S a 2 3 then rb Ls xs (d + 1) 67 76 [l0, l1, l2, l3, l4, l5, l6, l7] [] (rn Ls xs d 164 0 [some (.inr (.inl (some a))), some v1, some v2] [] (S, I, R)) else none := rn_callO rfl rfl (Nat.le_of_ble_eq_true rfl) rfl rfl
theorem e_W_copy_76 : rn Ls xs d 67 76 [l0, l1, l2, l3, l4, l5, l6, l7] (.inl x :: st) H = if x = 0 then rn Ls xs d 67 91 [l0, l1, l2, l3, l4, l5, l6, l7] st H else rn Ls xs d 67 79 [l0, l1, l2, l3, l4, l5, l6, l7] st H := rn_if (p := fun x => x = 0) rfl
theorem e_W_copy_79 : rn Ls xs d 67 79 [l0, l1, l2, l3, l4, l5, l6, some (.inr u)] st H = rn Ls xs d 67 81 [l0, l1, l2, l3, l4, l5, l6, some (.inr u)] (.inr u :: st) H := rn_nx rfl rfl
theorem e_W_copy_81 : rn Ls xs d 67 81 [l0, l1, l2, l3, some (.inl x), l5, l6, l7] st H = rn Ls xs d 67 83 [l0, l1, l2, l3, some (.inl x), l5, l6, l7] (.inl x :: st) H := rn_nx rfl rfl
theorem e_W_copy_83 : rn Ls xs d 67 83 [l0, l1, l2, l3, l4, some (.inl x), l6, l7] st H = rn Ls xs d 67 85 [l0, l1, l2, l3, l4, some (.inl x), l6, l7] (.inl x :: st) H := rn_nx rfl rfl
theorem e_W_copy_85 : rn Ls xs (d + 1) 67 85 [l0, l1, l2, l3, l4, l5, l6, l7] [v2, v1, (.inr (.inl (some a)))] (S, I, R) = if h_is S a 2 3 then rb Ls xs (d + 1) 67 88 [l0, l1, l2, l3, l4, l5, l6, l7] [] (rn Ls xs d 164 0 [some (.inr (.inl (some a))), some v1, some v2] [] (S, I, R)) else none := rn_callO rfl rfl (Nat.le_of_ble_eq_true rfl) rfl rfl
theorem e_W_copy_88 : rn Ls xs d 67 88 [l0, l1, l2, l3, l4, l5, l6, l7] (.inl x :: st) H = if x ≠ 0 then rn Ls xs d 67 95 [l0, l1, l2, l3, l4, l5, l6, l7] st H else rn Ls xs d 67 91 [l0, l1, l2, l3, l4, l5, l6, l7] st H := rn_if (p := fun x => x ≠ 0) rfl
theorem e_W_copy_91 : rn Ls xs d 67 91 [l0, l1, l2, l3, l4, l5, l6, l7]  st H = rn Ls xs d 67 94 [l0, l1, l2, l3, l4, l5, l6, l7] (.inl (-1000000013) :: st) H := rn_nx rfl rfl
theorem e_W_copy_94 : rn Ls xs d 67 94 [l0, l1, l2, l3, l4, l5, l6, l7] [.inl x] H = some (some (.inl x), H) := rn_done rfl rfl
theorem e_W_copy_95 : rn Ls xs d 67 95 [l0, l1, l2, l3, l4, l5, some (.inr u), l7] st H = rn Ls xs d 67 97 [l0, l1, l2, l3, l4, l5, some (.inr u), l7] (.inr u :: st) H := rn_nx rfl rfl
theorem e_W_copy_97 : rn Ls xs d 67 97 [l0, l1, l2, l3, l4, l5, l6, l7] (.inr (.inl (some a)) :: st) (S, I, R) = if h_is S a 2 3 then rn Ls xs d 67 100 [l0, l1, l2, l3, l4, l5, l6, l7] (.inr (R a 0) :: st) (S, I, R) else none := rn_bc rfl rfl
theorem e_W_copy_100 : rn Ls xs d 67 100 [l0, l1, some (.inl x), l3, l4, l5, l6, l7] st H = rn Ls xs d 67 101 [l0, l1, some (.inl x), l3, l4, l5, l6, l7] (.inl x :: st) H := rn_nx rfl rfl
theorem e_W_copy_101 : rn Ls xs d 67 101 [l0, l1, l2, l3, l4, l5, l6, some (.inr u)] st H = rn Ls xs d 67 103 [l0, l1, l2, l3, l4, l5, l6, some (.inr u)] (.inr u :: st) H := rn_nx rfl rfl
theorem e_W_copy_103 : rn Ls xs d 67 103 [l0, l1, l2, l3, l4, l5, l6, l7] (.inr (.inl (some a)) :: st) (S, I, R) = if h_is S a 2 3 then rn Ls xs d 67 106 [l0, l1, l2, l3, l4, l5, l6, l7] (.inr (R a 0) :: st) (S, I, R) else none := rn_bc rfl rfl
theorem e_W_copy_106 : rn Ls xs d 67 106 [l0, l1, l2, l3, some (.inl x), l5, l6, l7] st H = rn Ls xs d 67 108 [l0, l1, l2, l3, some (.inl x), l5, l6, l7] (.inl x :: st) H := rn_nx rfl rfl
theorem e_W_copy_108 : rn Ls xs d 67 108 [l0, l1, l2, l3, l4, some (.inl x), l6, l7] st H = rn Ls xs d 67 110 [l0, l1, l2, l3, l4, some (.inl x), l6, l7] (.inl x :: st) H := rn_nx rfl rfl
theorem e_W_copy_110 : rn Ls xs (d + 1) 67 110 [l0, l1, l2, l3, l4, l5, l6, l7] (.inl z :: .inl y :: .inr (.inl (some b)) :: .inl x :: .inr (.inl (some a)) :: []) (S, I, R) = if h_cp S a b x y z then rn Ls xs (d + 1) 67 113 [l0, l1, l2, l3, l4, l5, l6, l7] [] (S, va_up I b (va_cpy (I a) (I b) x.toNatClampNeg y.toNatClampNeg z.toNatClampNeg), R) else none := rn_copy rfl (Nat.le_of_ble_eq_true rfl)
theorem e_W_copy_113 : rn Ls xs d 67 113 [l0, l1, l2, l3, l4, some (.inl x), l6, l7] st H = rn Ls xs d 67 115 [l0, l1, l2, l3, l4, some (.inl x), l6, l7] (.inl x :: st) H := rn_nx rfl rfl
theorem e_W_copy_115 : rn Ls xs d 67 115 [l0, l1, l2, l3, l4, l5, l6, l7] [.inl x] H = some (some (.inl x), H) := rn_done rfl rfl
end EQ

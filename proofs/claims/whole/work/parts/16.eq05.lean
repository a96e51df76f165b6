section EQ
variable {Ls : Nat} {xs : Nat → Int32} {d : Nat} {l0 l1 l2 l3 l4 l5 l6 l7 l8 l9 l10 l11 l12 : Option mV} {st : List mV} {H : mH} {S : mS} {I : mI} {R : mR} {x y z i : Int32} {a b : Nat} {k : Nat} {v w : mV} {u : mr} {v0 v1 v2 v3 v4 v5 v6 v7 v8 v9 v10 v11 : mV}
theorem e_JInteger_bitCount_0 : rn Ls xs d 127 0 [some (.inl x)] st H = rn Ls xs d 127 1 [some (.inl x)] (.inl x :: st) H := rn_nx rfl rfl
theorem e_JInteger_bitCount_1 : rn Ls xs d 127 1 [some (.inl x)] st H = rn Ls xs d 127 2 [some (.inl x)] (.inl x :: st) H := rn_nx rfl rfl
theorem e_JInteger_bitCount_2 : rn Ls xs d 127 2 [l0]  st H = rn Ls xs d 127 3 [l0] (.inl 1 :: st) H := rn_nx rfl rfl
theorem e_JInteger_bitCount_3 : rn Ls xs d 127 3 [l0] (.inl y :: .inl x :: st) H = rn Ls xs d 127 4 [l0] (.inl ((x.toUInt32 >>> (y.toUInt32 &&& Int32.toUInt32 31)).toInt32) :: st) H := rn_nx rfl rfl
theorem e_JInteger_bitCount_4 : rn Ls xs d 127 4 [l0]  st H = rn Ls xs d 127 7 [l0] (.inl 1431655765 :: st) H := rn_nx rfl rfl
theorem e_JInteger_bitCount_7 : rn Ls xs d 127 7 [l0] (.inl y :: .inl x :: st) H = rn Ls xs d 127 8 [l0] (.inl (x &&& y) :: st) H := rn_nx rfl rfl
theorem e_JInteger_bitCount_8 : rn Ls xs d 127 8 [l0] (.inl y :: .inl x :: st) H = rn Ls xs d 127 9 [l0] (.inl (x - y) :: st) H := rn_nx rfl rfl
theorem e_JInteger_bitCount_9 : rn Ls xs d 127 9 [l0] (.inl x :: st) H = rn Ls xs d 127 10 [some (.inl x)] st H := rn_nx rfl rfl
theorem e_JInteger_bitCount_10 : rn Ls xs d 127 10 [some (.inl x)] st H = rn Ls xs d 127 11 [some (.inl x)] (.inl x :: st) H := rn_nx rfl rfl
theorem e_JInteger_bitCount_11 : rn Ls xs d 127 11 [l0]  st H = rn Ls xs d 127 14 [l0] (.inl 858993459 :: st) H := rn_nx rfl rfl
theorem e_JInteger_bitCount_14 : rn Ls xs d 127 14 [l0] (.inl y :: .inl x :: st) H = rn Ls xs d 127 15 [l0] (.inl (x &&& y) :: st) H := rn_nx rfl rfl
theorem e_JInteger_bitCount_15 : rn Ls xs d 127 15 [some (.inl x)] st H = rn Ls xs d 127 16 [some (.inl x)] (.inl x :: st) H := rn_nx rfl rfl
theorem e_JInteger_bitCount_16 : rn Ls xs d 127 16 [l0]  st H = rn Ls xs d 127 17 [l0] (.inl 2 :: st) H := rn_nx rfl rfl
theorem e_JInteger_bitCount_17 : rn Ls xs d 127 17 [l0] (.inl y :: .inl x :: st) H = rn Ls xs d 127 18 [l0] (.inl ((x.toUInt32 >>> (y.toUInt32 &&& Int32.toUInt32 31)).toInt32) :: st) H := rn_nx rfl rfl
theorem e_JInteger_bitCount_18 : rn Ls xs d 127 18 [l0]  st H = rn Ls xs d 127 21 [l0] (.inl 858993459 :: st) H := rn_nx rfl rfl
theorem e_JInteger_bitCount_21 : rn Ls xs d 127 21 [l0] (.inl y :: .inl x :: st) H = rn Ls xs d 127 22 [l0] (.inl (x &&& y) :: st) H := rn_nx rfl rfl
theorem e_JInteger_bitCount_22 : rn Ls xs d 127 22 [l0] (.inl y :: .inl x :: st) H = rn Ls xs d 127 23 [l0] (.inl (x + y) :: st) H := rn_nx rfl rfl
theorem e_JInteger_bitCount_23 : rn Ls xs d 127 23 [l0] (.inl x :: st) H = rn Ls xs d 127 24 [some (.inl x)] st H := rn_nx rfl rfl
theorem e_JInteger_bitCount_24 : rn Ls xs d 127 24 [some (.inl x)] st H = rn Ls xs d 127 25 [some (.inl x)] (.inl x :: st) H := rn_nx rfl rfl
theorem e_JInteger_bitCount_25 : rn Ls xs d 127 25 [some (.inl x)] st H = rn Ls xs d 127 26 [some (.inl x)] (.inl x :: st) H := rn_nx rfl rfl
theorem e_JInteger_bitCount_26 : rn Ls xs d 127 26 [l0]  st H = rn Ls xs d 127 27 [l0] (.inl 4 :: st) H := rn_nx rfl rfl
theorem e_JInteger_bitCount_27 : rn Ls xs d 127 27 [l0] (.inl y :: .inl x :: st) H = rn Ls xs d 127 28 [l0] (.inl ((x.toUInt32 >>> (y.toUInt32 &&& Int32.toUInt32 31)).toInt32) :: st) H := rn_nx rfl rfl
theorem e_JInteger_bitCount_28 : rn Ls xs d 127 28 [l0] (.inl y :: .inl x :: st) H = rn Ls xs d 127 29 [l0] (.inl (x + y) :: st) H := rn_nx rfl rfl
theorem e_JInteger_bitCount_29 : rn Ls xs d 127 29 [l0]  st H = rn Ls xs d 127 32 [l0] (.inl 252645135 :: st) H := rn_nx rfl rfl
theorem e_JInteger_bitCount_32 : rn Ls xs d 127 32 [l0] (.inl y :: .inl x :: st) H = rn Ls xs d 127 33 [l0] (.inl (x &&& y) :: st) H := rn_nx rfl rfl
theorem e_JInteger_bitCount_33 : rn Ls xs d 127 33 [l0] (.inl x :: st) H = rn Ls xs d 127 34 [some (.inl x)] st H := rn_nx rfl rfl
theorem e_JInteger_bitCount_34 : rn Ls xs d 127 34 [some (.inl x)] st H = rn Ls xs d 127 35 [some (.inl x)] (.inl x :: st) H := rn_nx rfl rfl
theorem e_JInteger_bitCount_35 : rn Ls xs d 127 35 [some (.inl x)] st H = rn Ls xs d 127 36 [some (.inl x)] (.inl x :: st) H := rn_nx rfl rfl
theorem e_JInteger_bitCount_36 : rn Ls xs d 127 36 [l0]  st H = rn Ls xs d 127 38 [l0] (.inl 8 :: st) H := rn_nx rfl rfl
theorem e_JInteger_bitCount_38 : rn Ls xs d 127 38 [l0] (.inl y :: .inl x :: st) H = rn Ls xs d 127 39 [l0] (.inl ((x.toUInt32 >>> (y.toUInt32 &&& Int32.toUInt32 31)).toInt32) :: st) H := rn_nx rfl rfl
theorem e_JInteger_bitCount_39 : rn Ls xs d 127 39 [l0] (.inl y :: .inl x :: st) H = rn Ls xs d 127 40 [l0] (.inl (x + y) :: st) H := rn_nx rfl rfl
theorem e_JInteger_bitCount_40 : rn Ls xs d 127 40 [l0] (.inl x :: st) H = rn Ls xs d 127 41 [some (.inl x)] st H := rn_nx rfl rfl
theorem e_JInteger_bitCount_41 : rn Ls xs d 127 41 [some (.inl x)] st H = rn Ls xs d 127 42 [some (.inl x)] (.inl x :: st) H := rn_nx rfl rfl
theorem e_JInteger_bitCount_42 : rn Ls xs d 127 42 [some (.inl x)] st H = rn Ls xs d 127 43 [some (.inl x)] (.inl x :: st) H := rn_nx rfl rfl
theorem e_JInteger_bitCount_43 : rn Ls xs d 127 43 [l0]  st H = rn Ls xs d 127 45 [l0] (.inl 16 :: st) H := rn_nx rfl rfl
theorem e_JInteger_bitCount_45 : rn Ls xs d 127 45 [l0] (.inl y :: .inl x :: st) H = rn Ls xs d 127 46 [l0] (.inl ((x.toUInt32 >>> (y.toUInt32 &&& Int32.toUInt32 31)).toInt32) :: st) H := rn_nx rfl rfl
theorem e_JInteger_bitCount_46 : rn Ls xs d 127 46 [l0] (.inl y :: .inl x :: st) H = rn Ls xs d 127 47 [l0] (.inl (x + y) :: st) H := rn_nx rfl rfl
theorem e_JInteger_bitCount_47 : rn Ls xs d 127 47 [l0] (.inl x :: st) H = rn Ls xs d 127 48 [some (.inl x)] st H := rn_nx rfl rfl
theorem e_JInteger_bitCount_48 : rn Ls xs d 127 48 [some (.inl x)] st H = rn Ls xs d 127 49 [some (.inl x)] (.inl x :: st) H := rn_nx rfl rfl
theorem e_JInteger_bitCount_49 : rn Ls xs d 127 49 [l0]  st H = rn Ls xs d 127 51 [l0] (.inl 63 :: st) H := rn_nx rfl rfl
theorem e_JInteger_bitCount_51 : rn Ls xs d 127 51 [l0] (.inl y :: .inl x :: st) H = rn Ls xs d 127 52 [l0] (.inl (x &&& y) :: st) H := rn_nx rfl rfl
theorem e_JInteger_bitCount_52 : rn Ls xs d 127 52 [l0] [.inl x] H = some (some (.inl x), H) := rn_done rfl rfl
theorem e_M_thinks_0 : rn Ls xs d 128 0 [l0, l1]  st H = rn Ls xs d 128 1 [l0, l1] (.inl 0 :: st) H := rn_nx rfl rfl
theorem e_M_thinks_1 : rn Ls xs d 128 1 [l0, l1] (.inl x :: st) H = rn Ls xs d 128 2 [l0, some (.inl x)] st H := rn_nx rfl rfl
theorem e_M_thinks_2 : rn Ls xs d 128 2 [l0, some (.inl x)] st H = rn Ls xs d 128 3 [l0, some (.inl x)] (.inl x :: st) H := rn_nx rfl rfl
theorem e_M_thinks_3 : rn Ls xs d 128 3 [l0, l1]  st H = rn Ls xs d 128 5 [l0, l1] (.inl 92 :: st) H := rn_nx rfl rfl
theorem e_M_thinks_5 : rn Ls xs d 128 5 [l0, l1] (.inl y :: .inl x :: st) H = if y ≤ x then rn Ls xs d 128 26 [l0, l1] st H else rn Ls xs d 128 8 [l0, l1] st H := rn_cmp (p := fun x y => y ≤ x) rfl
theorem e_M_thinks_8 : rn Ls xs d 128 8 [some (.inr u), l1] st H = rn Ls xs d 128 9 [some (.inr u), l1] (.inr u :: st) H := rn_nx rfl rfl
theorem e_M_thinks_9 : rn Ls xs d 128 9 [l0, l1] (.inr (.inl (some a)) :: st) (S, I, R) = if h_is S a 9 36 then rn Ls xs d 128 12 [l0, l1] (.inr (R a 4) :: st) (S, I, R) else none := rn_bc rfl rfl
theorem e_M_thinks_12 : rn Ls xs d 128 12 [l0, some (.inl x)] st H = rn Ls xs d 128 13 [l0, some (.inl x)] (.inl x :: st) H := rn_nx rfl rfl
theorem e_M_thinks_13 : rn Ls xs d 128 13 [some (.inr u), l1] st H = rn Ls xs d 128 14 [some (.inr u), l1] (.inr u :: st) H := rn_nx rfl rfl
theorem e_M_thinks_14 : rn Ls xs d 128 14 [l0, l1] (.inr (.inl (some a)) :: st) (S, I, R) = if h_is S a 9 36 then rn Ls xs d 128 17 [l0, l1] (.inr (R a 0) :: st) (S, I, R) else none := rn_bc rfl rfl
theorem e_M_thinks_17 : rn Ls xs d 128 17 [l0, some (.inl x)] st H = rn Ls xs d 128 18 [l0, some (.inl x)] (.inl x :: st) H := rn_nx rfl rfl
theorem e_M_thinks_18 : rn Ls xs d 128 18 [l0, l1] (.inl i :: .inr (.inl (some a)) :: st) (S, I, R) = if h_ia S a 0 i then rn Ls xs d 128 19 [l0, l1] (.inl (I a i.toNatClampNeg) :: st) (S, I, R) else none := rn_bc rfl rfl
theorem e_M_thinks_19 : rn Ls xs d 128 19 [l0, l1] (.inl x :: .inl i :: .inr (.inl (some a)) :: st) (S, I, R) = if h_ia S a 0 i then rn Ls xs d 128 20 [l0, l1] st (S, va_up I a (upd (I a) i.toNatClampNeg x), R) else none := rn_bc rfl rfl
theorem e_M_thinks_20 : rn Ls xs d 128 20 [l0, some (.inl x)] st H = rn Ls xs d 128 23 [l0, some (.inl (x + 1))] st H := rn_nx rfl rfl
theorem e_M_thinks_23 : rn Ls xs d 128 23 [l0, l1] st H = rn Ls xs d 128 2 [l0, l1] st H := rn_nx rfl rfl
theorem e_M_thinks_26 : rn Ls xs d 128 26 [l0, l1] [] H = some (none, H) := rn_done rfl rfl
theorem e_M_putsBack_0 : rn Ls xs d 129 0 [l0, l1]  st H = rn Ls xs d 129 1 [l0, l1] (.inl 0 :: st) H := rn_nx rfl rfl
theorem e_M_putsBack_1 : rn Ls xs d 129 1 [l0, l1] (.inl x :: st) H = rn Ls xs d 129 2 [l0, some (.inl x)] st H := rn_nx rfl rfl
theorem e_M_putsBack_2 : rn Ls xs d 129 2 [l0, some (.inl x)] st H = rn Ls xs d 129 3 [l0, some (.inl x)] (.inl x :: st) H := rn_nx rfl rfl
theorem e_M_putsBack_3 : rn Ls xs d 129 3 [l0, l1]  st H = rn Ls xs d 129 5 [l0, l1] (.inl 92 :: st) H := rn_nx rfl rfl
theorem e_M_putsBack_5 : rn Ls xs d 129 5 [l0, l1] (.inl y :: .inl x :: st) H = if y ≤ x then rn Ls xs d 129 26 [l0, l1] st H else rn Ls xs d 129 8 [l0, l1] st H := rn_cmp (p := fun x y => y ≤ x) rfl
theorem e_M_putsBack_8 : rn Ls xs d 129 8 [some (.inr u), l1] st H = rn Ls xs d 129 9 [some (.inr u), l1] (.inr u :: st) H := rn_nx rfl rfl
theorem e_M_putsBack_9 : rn Ls xs d 129 9 [l0, l1] (.inr (.inl (some a)) :: st) (S, I, R) = if h_is S a 9 36 then rn Ls xs d 129 12 [l0, l1] (.inr (R a 0) :: st) (S, I, R) else none := rn_bc rfl rfl
theorem e_M_putsBack_12 : rn Ls xs d 129 12 [l0, some (.inl x)] st H = rn Ls xs d 129 13 [l0, some (.inl x)] (.inl x :: st) H := rn_nx rfl rfl
theorem e_M_putsBack_13 : rn Ls xs d 129 13 [some (.inr u), l1] st H = rn Ls xs d 129 14 [some (.inr u), l1] (.inr u :: st) H := rn_nx rfl rfl
theorem e_M_putsBack_14 : rn Ls xs d 129 14 [l0, l1] (.inr (.inl (some a)) :: st) (S, I, R) = if h_is S a 9 36 then rn Ls xs d 129 17 [l0, l1] (.inr (R a 4) :: st) (S, I, R) else none := rn_bc rfl rfl
theorem e_M_putsBack_17 : rn Ls xs d 129 17 [l0, some (.inl x)] st H = rn Ls xs d 129 18 [l0, some (.inl x)] (.inl x :: st) H := rn_nx rfl rfl
theorem e_M_putsBack_18 : rn Ls xs d 129 18 [l0, l1] (.inl i :: .inr (.inl (some a)) :: st) (S, I, R) = if h_ia S a 0 i then rn Ls xs d 129 19 [l0, l1] (.inl (I a i.toNatClampNeg) :: st) (S, I, R) else none := rn_bc rfl rfl
theorem e_M_putsBack_19 : rn Ls xs d 129 19 [l0, l1] (.inl x :: .inl i :: .inr (.inl (some a)) :: st) (S, I, R) = if h_ia S a 0 i then rn Ls xs d 129 20 [l0, l1] st (S, va_up I a (upd (I a) i.toNatClampNeg x), R) else none := rn_bc rfl rfl
theorem e_M_putsBack_20 : rn Ls xs d 129 20 [l0, some (.inl x)] st H = rn Ls xs d 129 23 [l0, some (.inl (x + 1))] st H := rn_nx rfl rfl
theorem e_M_putsBack_23 : rn Ls xs d 129 23 [l0, l1] st H = rn Ls xs d 129 2 [l0, l1] st H := rn_nx rfl rfl
theorem e_M_putsBack_26 : rn Ls xs d 129 26 [l0, l1] [] H = some (none, H) := rn_done rfl rfl
theorem e_F_firstBreak_0 : rn Ls xs d 130 0 [some (.inr u), l1, l2] st H = rn Ls xs d 130 1 [some (.inr u), l1, l2] (.inr u :: st) H := rn_nx rfl rfl
theorem e_F_firstBreak_1 : rn Ls xs d 130 1 [l0, l1, l2] (.inr (.inl (some a)) :: st) (S, I, R) = if h_is S a 0 5 then rn Ls xs d 130 4 [l0, l1, l2] (.inr (R a 0) :: st) (S, I, R) else none := rn_bc rfl rfl
theorem e_F_firstBreak_4 : rn Ls xs d 130 4 [l0, some (.inr u), l2] st H = rn Ls xs d 130 5 [l0, some (.inr u), l2] (.inr u :: st) H := rn_nx rfl rfl
theorem e_F_firstBreak_5 : rn Ls xs (d + 1) 130 5 [l0, l1, l2] [v1, (.inr (.inl (some a)))] (S, I, R) = if h_is S a 3 11 then rb Ls xs (d + 1) 130 8 [l0, l1, l2] [] (rn Ls xs d 172 0 [some (.inr (.inl (some a))), some v1, none] [] (S, I, R)) else none := rn_callO rfl rfl (Nat.le_of_ble_eq_true rfl) rfl rfl
theorem e_F_firstBreak_8 : rn Ls xs d 130 8 [l0, l1, l2]  st H = rn Ls xs d 130 9 [l0, l1, l2] (.inl 1 :: st) H := rn_nx rfl rfl
theorem e_F_firstBreak_9 : rn Ls xs d 130 9 [l0, l1, l2] (.inl x :: st) H = rn Ls xs d 130 10 [l0, l1, some (.inl x)] st H := rn_nx rfl rfl
theorem e_F_firstBreak_10 : rn Ls xs d 130 10 [l0, l1, some (.inl x)] st H = rn Ls xs d 130 11 [l0, l1, some (.inl x)] (.inl x :: st) H := rn_nx rfl rfl
theorem e_F_firstBreak_11 : rn Ls xs d 130 11 [l0, l1, l2]  st H = rn Ls xs d 130 14 [l0, l1, l2] (.inl 200 :: st) H := rn_nx rfl rfl
theorem e_F_firstBreak_14 : rn Ls xs d 130 14 [l0, l1, l2] (.inl y :: .inl x :: st) H = if y < x then rn Ls xs d 130 47 [l0, l1, l2] st H else rn Ls xs d 130 17 [l0, l1, l2] st H := rn_cmp (p := fun x y => y < x) rfl
theorem e_F_firstBreak_17 : rn Ls xs d 130 17 [some (.inr u), l1, l2] st H = rn Ls xs d 130 18 [some (.inr u), l1, l2] (.inr u :: st) H := rn_nx rfl rfl
theorem e_F_firstBreak_18 : rn Ls xs d 130 18 [l0, l1, l2] (.inr (.inl (some a)) :: st) (S, I, R) = if h_is S a 0 5 then rn Ls xs d 130 21 [l0, l1, l2] (.inr (R a 0) :: st) (S, I, R) else none := rn_bc rfl rfl
theorem e_F_firstBreak_21 : rn Ls xs d 130 21 [l0, l1, l2]  st H = rn Ls xs d 130 22 [l0, l1, l2] (.inl 1 :: st) H := rn_nx rfl rfl
theorem e_F_firstBreak_22 : rn Ls xs (d + 1) 130 22 [l0, l1, l2] [v1, (.inr (.inl (some a)))] (S, I, R) = if h_is S a 3 11 then rb Ls xs (d + 1) 130 25 [l0, l1, l2] [] (rn Ls xs d 119 0 [some (.inr (.inl (some a))), some v1, none] [] (S, I, R)) else none := rn_callO rfl rfl (Nat.le_of_ble_eq_true rfl) rfl rfl
theorem e_F_firstBreak_25 : rn Ls xs d 130 25 [some (.inr u), l1, l2] st H = rn Ls xs d 130 26 [some (.inr u), l1, l2] (.inr u :: st) H := rn_nx rfl rfl
theorem e_F_firstBreak_26 : rn Ls xs d 130 26 [l0, l1, l2] (.inr (.inl (some a)) :: st) (S, I, R) = if h_is S a 0 5 then rn Ls xs d 130 29 [l0, l1, l2] (.inr (R a 0) :: st) (S, I, R) else none := rn_bc rfl rfl
theorem e_F_firstBreak_29 : rn Ls xs d 130 29 [l0, l1, l2] (.inr (.inl (some a)) :: st) (S, I, R) = if h_is S a 3 11 then rn Ls xs d 130 32 [l0, l1, l2] (.inl (I a 6) :: st) (S, I, R) else none := rn_bc rfl rfl
theorem e_F_firstBreak_32 : rn Ls xs d 130 32 [l0, some (.inr u), l2] st H = rn Ls xs d 130 33 [l0, some (.inr u), l2] (.inr u :: st) H := rn_nx rfl rfl
theorem e_F_firstBreak_33 : rn Ls xs d 130 33 [l0, l1, l2] (.inr (.inl (some a)) :: st) (S, I, R) = if h_is S a 3 11 then rn Ls xs d 130 36 [l0, l1, l2] (.inl (I a 6) :: st) (S, I, R) else none := rn_bc rfl rfl
theorem e_F_firstBreak_36 : rn Ls xs d 130 36 [l0, l1, l2] (.inl y :: .inl x :: st) H = if x ≤ y then rn Ls xs d 130 41 [l0, l1, l2] st H else rn Ls xs d 130 39 [l0, l1, l2] st H := rn_cmp (p := fun x y => x ≤ y) rfl
theorem e_F_firstBreak_39 : rn Ls xs d 130 39 [l0, l1, some (.inl x)] st H = rn Ls xs d 130 40 [l0, l1, some (.inl x)] (.inl x :: st) H := rn_nx rfl rfl
theorem e_F_firstBreak_40 : rn Ls xs d 130 40 [l0, l1, l2] [.inl x] H = some (some (.inl x), H) := rn_done rfl rfl
theorem e_F_firstBreak_41 : rn Ls xs d 130 41 [l0, l1, some (.inl x)] st H = rn Ls xs d 130 44 [l0, l1, some (.inl (x + 1))] st H := rn_nx rfl rfl
theorem e_F_firstBreak_44 : rn Ls xs d 130 44 [l0, l1, l2] st H = rn Ls xs d 130 10 [l0, l1, l2] st H := rn_nx rfl rfl
theorem e_F_firstBreak_47 : rn Ls xs d 130 47 [l0, l1, l2]  st H = rn Ls xs d 130 49 [l0, l1, l2] (.inl (-1000000005) :: st) H := rn_nx rfl rfl
theorem e_F_firstBreak_49 : rn Ls xs d 130 49 [l0, l1, l2] [.inl x] H = some (some (.inl x), H) := rn_done rfl rfl
set_option maxRecDepth 20000 in
theorem e_M_hour_0 : rn Ls xs d 131 0 [some (.inr u), l1, l2, l3] st H = rn Ls xs d 131 1 [some (.inr u), l1, l2, l3] (.inr u :: st) H := rn_nx rfl rfl
set_option maxRecDepth 20000 in
theorem e_M_hour_1 : rn Ls xs d 131 1 [l0, l1, l2, l3] (.inr (.inl (some a)) :: st) (S, I, R) = if h_is S a 9 36 then rn Ls xs d 131 4 [l0, l1, l2, l3] (.inr (R a 0) :: st) (S, I, R) else none := rn_bc rfl rfl
set_option maxRecDepth 20000 in
theorem e_M_hour_4 : rn Ls xs d 131 4 [l0, l1, l2, l3]  st H = rn Ls xs d 131 5 [l0, l1, l2, l3] (.inl 1 :: st) H := rn_nx rfl rfl
set_option maxRecDepth 20000 in
theorem e_M_hour_5 : rn Ls xs d 131 5 [l0, l1, l2, l3] (.inl i :: .inr (.inl (some a)) :: st) (S, I, R) = if h_ia S a 0 i then rn Ls xs d 131 6 [l0, l1, l2, l3] (.inl (I a i.toNatClampNeg) :: st) (S, I, R) else none := rn_bc rfl rfl
set_option maxRecDepth 20000 in
theorem e_M_hour_6 : rn Ls xs d 131 6 [l0, l1, l2, l3] (.inl x :: st) H = rn Ls xs d 131 7 [l0, some (.inl x), l2, l3] st H := rn_nx rfl rfl
set_option maxRecDepth 20000 in
theorem e_M_hour_7 : rn Ls xs d 131 7 [l0, l1, l2, l3]  st H = rn Ls xs d 131 8 [l0, l1, l2, l3] (.inl 0 :: st) H := rn_nx rfl rfl
set_option maxRecDepth 20000 in
theorem e_M_hour_8 : rn Ls xs d 131 8 [l0, l1, l2, l3] (.inl x :: st) H = rn Ls xs d 131 9 [l0, l1, some (.inl x), l3] st H := rn_nx rfl rfl
set_option maxRecDepth 20000 in
theorem e_M_hour_9 : rn Ls xs d 131 9 [l0, l1, some (.inl x), l3] st H = rn Ls xs d 131 10 [l0, l1, some (.inl x), l3] (.inl x :: st) H := rn_nx rfl rfl
set_option maxRecDepth 20000 in
theorem e_M_hour_10 : rn Ls xs d 131 10 [l0, some (.inl x), l2, l3] st H = rn Ls xs d 131 11 [l0, some (.inl x), l2, l3] (.inl x :: st) H := rn_nx rfl rfl
set_option maxRecDepth 20000 in
theorem e_M_hour_11 : rn Ls xs d 131 11 [l0, l1, l2, l3] (.inl y :: .inl x :: st) H = if y ≤ x then rn Ls xs d 131 58 [l0, l1, l2, l3] st H else rn Ls xs d 131 14 [l0, l1, l2, l3] st H := rn_cmp (p := fun x y => y ≤ x) rfl
set_option maxRecDepth 20000 in
theorem e_M_hour_14 : rn Ls xs d 131 14 [some (.inr u), l1, l2, l3] st H = rn Ls xs d 131 15 [some (.inr u), l1, l2, l3] (.inr u :: st) H := rn_nx rfl rfl
set_option maxRecDepth 20000 in
theorem e_M_hour_15 : rn Ls xs d 131 15 [l0, l1, some (.inl x), l3] st H = rn Ls xs d 131 16 [l0, l1, some (.inl x), l3] (.inl x :: st) H := rn_nx rfl rfl
set_option maxRecDepth 20000 in
theorem e_M_hour_16 : rn Ls xs d 131 16 [l0, l1, l2, l3]  st H = rn Ls xs d 131 17 [l0, l1, l2, l3] (.inl 2 :: st) H := rn_nx rfl rfl
set_option maxRecDepth 20000 in
theorem e_M_hour_17 : rn Ls xs d 131 17 [some (.inr u), l1, l2, l3] st H = rn Ls xs d 131 18 [some (.inr u), l1, l2, l3] (.inr u :: st) H := rn_nx rfl rfl
set_option maxRecDepth 20000 in
theorem e_M_hour_18 : rn Ls xs d 131 18 [l0, l1, some (.inl x), l3] st H = rn Ls xs d 131 19 [l0, l1, some (.inl x), l3] (.inl x :: st) H := rn_nx rfl rfl
set_option maxRecDepth 20000 in
theorem e_M_hour_19 : rn Ls xs (d + 1) 131 19 [l0, l1, l2, l3] [v1, (.inr (.inl (some a))), v2, v3, v4] (S, I, R) = if h_is S a 9 36 then rb Ls xs (d + 1) 131 22 [l0, l1, l2, l3] [v2, v3, v4] (rn Ls xs d 113 0 [some (.inr (.inl (some a))), some v1] [] (S, I, R)) else none := rn_callO rfl rfl (Nat.le_of_ble_eq_true rfl) rfl rfl
set_option maxRecDepth 20000 in
theorem e_M_hour_22 : rn Ls xs d 131 22 [l0, l1, l2, l3] (.inl x :: st) H = if x = 0 then rn Ls xs d 131 43 [l0, l1, l2, l3] st H else rn Ls xs d 131 25 [l0, l1, l2, l3] st H := rn_if (p := fun x => x = 0) rfl
set_option maxRecDepth 20000 in
theorem e_M_hour_25 : rn Ls xs d 131 25 [some (.inr u), l1, l2, l3] st H = rn Ls xs d 131 26 [some (.inr u), l1, l2, l3] (.inr u :: st) H := rn_nx rfl rfl
set_option maxRecDepth 20000 in
theorem e_M_hour_26 : rn Ls xs d 131 26 [l0, l1, some (.inl x), l3] st H = rn Ls xs d 131 27 [l0, l1, some (.inl x), l3] (.inl x :: st) H := rn_nx rfl rfl
set_option maxRecDepth 20000 in
theorem e_M_hour_27 : rn Ls xs d 131 27 [l0, l1, l2, l3]  st H = rn Ls xs d 131 28 [l0, l1, l2, l3] (.inl 2 :: st) H := rn_nx rfl rfl
set_option maxRecDepth 20000 in
theorem e_M_hour_28 : rn Ls xs (d + 1) 131 28 [l0, l1, l2, l3] [v2, v1, (.inr (.inl (some a))), v3, v4, v5] (S, I, R) = if h_is S a 9 36 then rb Ls xs (d + 1) 131 31 [l0, l1, l2, l3] [v3, v4, v5] (rn Ls xs d 105 0 [some (.inr (.inl (some a))), some v1, some v2] [] (S, I, R)) else none := rn_callO rfl rfl (Nat.le_of_ble_eq_true rfl) rfl rfl
set_option maxRecDepth 20000 in
theorem e_M_hour_31 : rn Ls xs d 131 31 [some (.inr u), l1, l2, l3] st H = rn Ls xs d 131 32 [some (.inr u), l1, l2, l3] (.inr u :: st) H := rn_nx rfl rfl
set_option maxRecDepth 20000 in
theorem e_M_hour_32 : rn Ls xs d 131 32 [l0, l1, some (.inl x), l3] st H = rn Ls xs d 131 33 [l0, l1, some (.inl x), l3] (.inl x :: st) H := rn_nx rfl rfl
set_option maxRecDepth 20000 in
theorem e_M_hour_33 : rn Ls xs (d + 1) 131 33 [l0, l1, l2, l3] [v1, (.inr (.inl (some a))), v2, v3, v4, v5] (S, I, R) = if h_is S a 9 36 then rb Ls xs (d + 1) 131 36 [l0, l1, l2, l3] [v2, v3, v4, v5] (rn Ls xs d 107 0 [some (.inr (.inl (some a))), some v1, none] [] (S, I, R)) else none := rn_callO rfl rfl (Nat.le_of_ble_eq_true rfl) rfl rfl
set_option maxRecDepth 20000 in
theorem e_M_hour_36 : rn Ls xs d 131 36 [l0, l1, l2, l3] (.inl y :: .inl x :: st) H = rn Ls xs d 131 37 [l0, l1, l2, l3] (.inl (x + y) :: st) H := rn_nx rfl rfl
set_option maxRecDepth 20000 in
theorem e_M_hour_37 : rn Ls xs (d + 1) 131 37 [l0, l1, l2, l3] [v0, v1, v2, v3] H = rb Ls xs (d + 1) 131 40 [l0, l1, l2, l3] [v1, v2, v3] (rn Ls xs d 147 0 [some v0, none] [] H) := rn_call rfl (Nat.le_of_ble_eq_true rfl) (Nat.le_of_ble_eq_true rfl) rfl rfl
set_option maxRecDepth 20000 in
theorem e_M_hour_40 : rn Ls xs d 131 40 [l0, l1, l2, l3] st H = rn Ls xs d 131 49 [l0, l1, l2, l3] st H := rn_nx rfl rfl
set_option maxRecDepth 20000 in
theorem e_M_hour_43 : rn Ls xs d 131 43 [some (.inr u), l1, l2, l3] st H = rn Ls xs d 131 44 [some (.inr u), l1, l2, l3] (.inr u :: st) H := rn_nx rfl rfl
set_option maxRecDepth 20000 in
theorem e_M_hour_44 : rn Ls xs d 131 44 [l0, l1, some (.inl x), l3] st H = rn Ls xs d 131 45 [l0, l1, some (.inl x), l3] (.inl x :: st) H := rn_nx rfl rfl
set_option maxRecDepth 20000 in
theorem e_M_hour_45 : rn Ls xs d 131 45 [l0, l1, l2, l3]  st H = rn Ls xs d 131 46 [l0, l1, l2, l3] (.inl 2 :: st) H := rn_nx rfl rfl
set_option maxRecDepth 20000 in
theorem e_M_hour_46 : rn Ls xs (d + 1) 131 46 [l0, l1, l2, l3] [v2, v1, (.inr (.inl (some a))), v3, v4, v5] (S, I, R) = if h_is S a 9 36 then rb Ls xs (d + 1) 131 49 [l0, l1, l2, l3] [v3, v4, v5] (rn Ls xs d 105 0 [some (.inr (.inl (some a))), some v1, some v2] [] (S, I, R)) else none := rn_callO rfl rfl (Nat.le_of_ble_eq_true rfl) rfl rfl
set_option maxRecDepth 20000 in
theorem e_M_hour_49 : rn Ls xs (d + 1) 131 49 [l0, l1, l2, l3] [v3, v2, v1, (.inr (.inl (some a)))] (S, I, R) = if h_is S a 9 36 then rb Ls xs (d + 1) 131 52 [l0, l1, l2, l3] [] (rn Ls xs d 114 0 [some (.inr (.inl (some a))), some v1, some v2, some v3] [] (S, I, R)) else none := rn_callO rfl rfl (Nat.le_of_ble_eq_true rfl) rfl rfl
set_option maxRecDepth 20000 in
theorem e_M_hour_52 : rn Ls xs d 131 52 [l0, l1, some (.inl x), l3] st H = rn Ls xs d 131 55 [l0, l1, some (.inl (x + 1)), l3] st H := rn_nx rfl rfl
set_option maxRecDepth 20000 in
theorem e_M_hour_55 : rn Ls xs d 131 55 [l0, l1, l2, l3] st H = rn Ls xs d 131 9 [l0, l1, l2, l3] st H := rn_nx rfl rfl
set_option maxRecDepth 20000 in
theorem e_M_hour_58 : rn Ls xs d 131 58 [l0, l1, l2, l3]  st H = rn Ls xs d 131 59 [l0, l1, l2, l3] (.inl 0 :: st) H := rn_nx rfl rfl
set_option maxRecDepth 20000 in
theorem e_M_hour_59 : rn Ls xs d 131 59 [l0, l1, l2, l3] (.inl x :: st) H = rn Ls xs d 131 60 [l0, l1, some (.inl x), l3] st H := rn_nx rfl rfl
set_option maxRecDepth 20000 in
theorem e_M_hour_60 : rn Ls xs d 131 60 [l0, l1, some (.inl x), l3] st H = rn Ls xs d 131 61 [l0, l1, some (.inl x), l3] (.inl x :: st) H := rn_nx rfl rfl
set_option maxRecDepth 20000 in
theorem e_M_hour_61 : rn Ls xs d 131 61 [l0, some (.inl x), l2, l3] st H = rn Ls xs d 131 62 [l0, some (.inl x), l2, l3] (.inl x :: st) H := rn_nx rfl rfl
set_option maxRecDepth 20000 in
theorem e_M_hour_62 : rn Ls xs d 131 62 [l0, l1, l2, l3] (.inl y :: .inl x :: st) H = if y ≤ x then rn Ls xs d 131 117 [l0, l1, l2, l3] st H else rn Ls xs d 131 65 [l0, l1, l2, l3] st H := rn_cmp (p := fun x y => y ≤ x) rfl
set_option maxRecDepth 20000 in
theorem e_M_hour_65 : rn Ls xs d 131 65 [l0, l1, some (.inl x), l3] st H = rn Ls xs d 131 66 [l0, l1, some (.inl x), l3] (.inl x :: st) H := rn_nx rfl rfl
set_option maxRecDepth 20000 in
theorem e_M_hour_66 : rn Ls xs d 131 66 [l0, l1, l2, l3]  st H = rn Ls xs d 131 67 [l0, l1, l2, l3] (.inl 1 :: st) H := rn_nx rfl rfl
set_option maxRecDepth 20000 in
theorem e_M_hour_67 : rn Ls xs d 131 67 [l0, l1, l2, l3] (.inl y :: .inl x :: st) H = rn Ls xs d 131 68 [l0, l1, l2, l3] (.inl (x + y) :: st) H := rn_nx rfl rfl
set_option maxRecDepth 20000 in
theorem e_M_hour_68 : rn Ls xs d 131 68 [l0, l1, l2, l3] (.inl x :: st) H = rn Ls xs d 131 69 [l0, l1, l2, some (.inl x)] st H := rn_nx rfl rfl
set_option maxRecDepth 20000 in
theorem e_M_hour_69 : rn Ls xs d 131 69 [l0, l1, l2, some (.inl x)] st H = rn Ls xs d 131 70 [l0, l1, l2, some (.inl x)] (.inl x :: st) H := rn_nx rfl rfl
set_option maxRecDepth 20000 in
theorem e_M_hour_70 : rn Ls xs d 131 70 [l0, some (.inl x), l2, l3] st H = rn Ls xs d 131 71 [l0, some (.inl x), l2, l3] (.inl x :: st) H := rn_nx rfl rfl
set_option maxRecDepth 20000 in
theorem e_M_hour_71 : rn Ls xs d 131 71 [l0, l1, l2, l3] (.inl y :: .inl x :: st) H = if y ≤ x then rn Ls xs d 131 111 [l0, l1, l2, l3] st H else rn Ls xs d 131 74 [l0, l1, l2, l3] st H := rn_cmp (p := fun x y => y ≤ x) rfl
set_option maxRecDepth 20000 in
theorem e_M_hour_74 : rn Ls xs d 131 74 [some (.inr u), l1, l2, l3] st H = rn Ls xs d 131 75 [some (.inr u), l1, l2, l3] (.inr u :: st) H := rn_nx rfl rfl
set_option maxRecDepth 20000 in
theorem e_M_hour_75 : rn Ls xs d 131 75 [l0, l1, some (.inl x), l3] st H = rn Ls xs d 131 76 [l0, l1, some (.inl x), l3] (.inl x :: st) H := rn_nx rfl rfl
set_option maxRecDepth 20000 in
theorem e_M_hour_76 : rn Ls xs d 131 76 [l0, l1, l2, some (.inl x)] st H = rn Ls xs d 131 77 [l0, l1, l2, some (.inl x)] (.inl x :: st) H := rn_nx rfl rfl
set_option maxRecDepth 20000 in
theorem e_M_hour_77 : rn Ls xs (d + 1) 131 77 [l0, l1, l2, l3] [v2, v1, (.inr (.inl (some a)))] (S, I, R) = if h_is S a 9 36 then rb Ls xs (d + 1) 131 80 [l0, l1, l2, l3] [] (rn Ls xs d 179 0 [some (.inr (.inl (some a))), some v1, some v2] [] (S, I, R)) else none := rn_callO rfl rfl (Nat.le_of_ble_eq_true rfl) rfl rfl
set_option maxRecDepth 20000 in
theorem e_M_hour_80 : rn Ls xs d 131 80 [l0, l1, l2, l3] (.inl x :: st) H = if x = 0 then rn Ls xs d 131 105 [l0, l1, l2, l3] st H else rn Ls xs d 131 83 [l0, l1, l2, l3] st H := rn_if (p := fun x => x = 0) rfl
set_option maxRecDepth 20000 in
theorem e_M_hour_83 : rn Ls xs d 131 83 [some (.inr u), l1, l2, l3] st H = rn Ls xs d 131 84 [some (.inr u), l1, l2, l3] (.inr u :: st) H := rn_nx rfl rfl
set_option maxRecDepth 20000 in
theorem e_M_hour_84 : rn Ls xs d 131 84 [some (.inr u), l1, l2, l3] st H = rn Ls xs d 131 85 [some (.inr u), l1, l2, l3] (.inr u :: st) H := rn_nx rfl rfl
set_option maxRecDepth 20000 in
theorem e_M_hour_85 : rn Ls xs d 131 85 [l0, l1, some (.inl x), l3] st H = rn Ls xs d 131 86 [l0, l1, some (.inl x), l3] (.inl x :: st) H := rn_nx rfl rfl
set_option maxRecDepth 20000 in
theorem e_M_hour_86 : rn Ls xs (d + 1) 131 86 [l0, l1, l2, l3] [v1, (.inr (.inl (some a))), v2] (S, I, R) = if h_is S a 9 36 then rb Ls xs (d + 1) 131 89 [l0, l1, l2, l3] [v2] (rn Ls xs d 106 0 [some (.inr (.inl (some a))), some v1, none, none] [] (S, I, R)) else none := rn_callO rfl rfl (Nat.le_of_ble_eq_true rfl) rfl rfl
set_option maxRecDepth 20000 in
theorem e_M_hour_89 : rn Ls xs d 131 89 [some (.inr u), l1, l2, l3] st H = rn Ls xs d 131 90 [some (.inr u), l1, l2, l3] (.inr u :: st) H := rn_nx rfl rfl
set_option maxRecDepth 20000 in
theorem e_M_hour_90 : rn Ls xs d 131 90 [l0, l1, l2, some (.inl x)] st H = rn Ls xs d 131 91 [l0, l1, l2, some (.inl x)] (.inl x :: st) H := rn_nx rfl rfl
set_option maxRecDepth 20000 in
theorem e_M_hour_91 : rn Ls xs (d + 1) 131 91 [l0, l1, l2, l3] [v1, (.inr (.inl (some a))), v2, v3] (S, I, R) = if h_is S a 9 36 then rb Ls xs (d + 1) 131 94 [l0, l1, l2, l3] [v2, v3] (rn Ls xs d 106 0 [some (.inr (.inl (some a))), some v1, none, none] [] (S, I, R)) else none := rn_callO rfl rfl (Nat.le_of_ble_eq_true rfl) rfl rfl
set_option maxRecDepth 20000 in
theorem e_M_hour_94 : rn Ls xs d 131 94 [l0, l1, l2, l3] (.inl y :: .inl x :: st) H = if y ≤ x then rn Ls xs d 131 101 [l0, l1, l2, l3] st H else rn Ls xs d 131 97 [l0, l1, l2, l3] st H := rn_cmp (p := fun x y => y ≤ x) rfl
set_option maxRecDepth 20000 in
theorem e_M_hour_97 : rn Ls xs d 131 97 [l0, l1, some (.inl x), l3] st H = rn Ls xs d 131 98 [l0, l1, some (.inl x), l3] (.inl x :: st) H := rn_nx rfl rfl
set_option maxRecDepth 20000 in
theorem e_M_hour_98 : rn Ls xs d 131 98 [l0, l1, l2, l3] st H = rn Ls xs d 131 102 [l0, l1, l2, l3] st H := rn_nx rfl rfl
set_option maxRecDepth 20000 in
theorem e_M_hour_101 : rn Ls xs d 131 101 [l0, l1, l2, some (.inl x)] st H = rn Ls xs d 131 102 [l0, l1, l2, some (.inl x)] (.inl x :: st) H := rn_nx rfl rfl
set_option maxRecDepth 20000 in
theorem e_M_hour_102 : rn Ls xs (d + 1) 131 102 [l0, l1, l2, l3] [v1, (.inr (.inl (some a)))] (S, I, R) = if h_is S a 9 36 then rb Ls xs (d + 1) 131 105 [l0, l1, l2, l3] [] (rn Ls xs d 180 0 [some (.inr (.inl (some a))), some v1, none, none] [] (S, I, R)) else none := rn_callO rfl rfl (Nat.le_of_ble_eq_true rfl) rfl rfl
set_option maxRecDepth 20000 in
theorem e_M_hour_105 : rn Ls xs d 131 105 [l0, l1, l2, some (.inl x)] st H = rn Ls xs d 131 108 [l0, l1, l2, some (.inl (x + 1))] st H := rn_nx rfl rfl
set_option maxRecDepth 20000 in
theorem e_M_hour_108 : rn Ls xs d 131 108 [l0, l1, l2, l3] st H = rn Ls xs d 131 69 [l0, l1, l2, l3] st H := rn_nx rfl rfl
set_option maxRecDepth 20000 in
theorem e_M_hour_111 : rn Ls xs d 131 111 [l0, l1, some (.inl x), l3] st H = rn Ls xs d 131 114 [l0, l1, some (.inl (x + 1)), l3] st H := rn_nx rfl rfl
set_option maxRecDepth 20000 in
theorem e_M_hour_114 : rn Ls xs d 131 114 [l0, l1, l2, l3] st H = rn Ls xs d 131 60 [l0, l1, l2, l3] st H := rn_nx rfl rfl
set_option maxRecDepth 20000 in
theorem e_M_hour_117 : rn Ls xs d 131 117 [some (.inr u), l1, l2, l3] st H = rn Ls xs d 131 118 [some (.inr u), l1, l2, l3] (.inr u :: st) H := rn_nx rfl rfl
set_option maxRecDepth 20000 in
theorem e_M_hour_118 : rn Ls xs (d + 1) 131 118 [l0, l1, l2, l3] [(.inr (.inl (some a)))] (S, I, R) = if h_is S a 9 36 then rb Ls xs (d + 1) 131 121 [l0, l1, l2, l3] [] (rn Ls xs d 118 0 [some (.inr (.inl (some a)))] [] (S, I, R)) else none := rn_callO rfl rfl (Nat.le_of_ble_eq_true rfl) rfl rfl
set_option maxRecDepth 20000 in
theorem e_M_hour_121 : rn Ls xs d 131 121 [l0, l1, l2, l3]  st H = rn Ls xs d 131 123 [l0, l1, l2, l3] (.inl 100 :: st) H := rn_nx rfl rfl
set_option maxRecDepth 20000 in
theorem e_M_hour_123 : rn Ls xs d 131 123 [l0, l1, l2, l3] (.inl y :: .inl x :: st) H = if y = 0 then none else rn Ls xs d 131 124 [l0, l1, l2, l3] (.inl (x - x / y * y) :: st) H := rn_div (f := fun x y => x - x / y * y) rfl
set_option maxRecDepth 20000 in
theorem e_M_hour_124 : rn Ls xs d 131 124 [some (.inr u), l1, l2, l3] st H = rn Ls xs d 131 125 [some (.inr u), l1, l2, l3] (.inr u :: st) H := rn_nx rfl rfl
set_option maxRecDepth 20000 in
theorem e_M_hour_125 : rn Ls xs d 131 125 [l0, l1, l2, l3] (.inr (.inl (some a)) :: st) (S, I, R) = if h_is S a 9 36 then rn Ls xs d 131 128 [l0, l1, l2, l3] (.inr (R a 0) :: st) (S, I, R) else none := rn_bc rfl rfl
set_option maxRecDepth 20000 in
theorem e_M_hour_128 : rn Ls xs d 131 128 [l0, l1, l2, l3]  st H = rn Ls xs d 131 129 [l0, l1, l2, l3] (.inl 3 :: st) H := rn_nx rfl rfl
set_option maxRecDepth 20000 in
theorem e_M_hour_129 : rn Ls xs d 131 129 [l0, l1, l2, l3] (.inl i :: .inr (.inl (some a)) :: st) (S, I, R) = if h_ia S a 0 i then rn Ls xs d 131 130 [l0, l1, l2, l3] (.inl (I a i.toNatClampNeg) :: st) (S, I, R) else none := rn_bc rfl rfl
set_option maxRecDepth 20000 in
theorem e_M_hour_130 : rn Ls xs d 131 130 [l0, l1, l2, l3] (.inl y :: .inl x :: st) H = if y ≤ x then rn Ls xs d 131 157 [l0, l1, l2, l3] st H else rn Ls xs d 131 133 [l0, l1, l2, l3] st H := rn_cmp (p := fun x y => y ≤ x) rfl
set_option maxRecDepth 20000 in
theorem e_M_hour_133 : rn Ls xs d 131 133 [some (.inr u), l1, l2, l3] st H = rn Ls xs d 131 134 [some (.inr u), l1, l2, l3] (.inr u :: st) H := rn_nx rfl rfl
set_option maxRecDepth 20000 in
theorem e_M_hour_134 : rn Ls xs d 131 134 [l0, l1, l2, l3] (.inr (.inl (some a)) :: st) (S, I, R) = if h_is S a 9 36 then rn Ls xs d 131 137 [l0, l1, l2, l3] (.inr (R a 0) :: st) (S, I, R) else none := rn_bc rfl rfl
set_option maxRecDepth 20000 in
theorem e_M_hour_137 : rn Ls xs d 131 137 [l0, l1, l2, l3]  st H = rn Ls xs d 131 138 [l0, l1, l2, l3] (.inl 1 :: st) H := rn_nx rfl rfl
set_option maxRecDepth 20000 in
theorem e_M_hour_138 : rn Ls xs d 131 138 [l0, l1, l2, l3] (.inl i :: .inr (.inl (some a)) :: st) (S, I, R) = if h_ia S a 0 i then rn Ls xs d 131 139 [l0, l1, l2, l3] (.inl (I a i.toNatClampNeg) :: st) (S, I, R) else none := rn_bc rfl rfl
set_option maxRecDepth 20000 in
theorem e_M_hour_139 : rn Ls xs d 131 139 [l0, l1, l2, l3] (.inl x :: st) H = if x ≤ 0 then rn Ls xs d 131 157 [l0, l1, l2, l3] st H else rn Ls xs d 131 142 [l0, l1, l2, l3] st H := rn_if (p := fun x => x ≤ 0) rfl
set_option maxRecDepth 20000 in
theorem e_M_hour_142 : rn Ls xs d 131 142 [some (.inr u), l1, l2, l3] st H = rn Ls xs d 131 143 [some (.inr u), l1, l2, l3] (.inr u :: st) H := rn_nx rfl rfl
set_option maxRecDepth 20000 in
theorem e_M_hour_143 : rn Ls xs d 131 143 [some (.inr u), l1, l2, l3] st H = rn Ls xs d 131 144 [some (.inr u), l1, l2, l3] (.inr u :: st) H := rn_nx rfl rfl
set_option maxRecDepth 20000 in
theorem e_M_hour_144 : rn Ls xs (d + 1) 131 144 [l0, l1, l2, l3] [(.inr (.inl (some a))), v1] (S, I, R) = if h_is S a 9 36 then rb Ls xs (d + 1) 131 147 [l0, l1, l2, l3] [v1] (rn Ls xs d 118 0 [some (.inr (.inl (some a)))] [] (S, I, R)) else none := rn_callO rfl rfl (Nat.le_of_ble_eq_true rfl) rfl rfl
set_option maxRecDepth 20000 in
theorem e_M_hour_147 : rn Ls xs d 131 147 [some (.inr u), l1, l2, l3] st H = rn Ls xs d 131 148 [some (.inr u), l1, l2, l3] (.inr u :: st) H := rn_nx rfl rfl
set_option maxRecDepth 20000 in
theorem e_M_hour_148 : rn Ls xs d 131 148 [l0, l1, l2, l3] (.inr (.inl (some a)) :: st) (S, I, R) = if h_is S a 9 36 then rn Ls xs d 131 151 [l0, l1, l2, l3] (.inr (R a 0) :: st) (S, I, R) else none := rn_bc rfl rfl
set_option maxRecDepth 20000 in
theorem e_M_hour_151 : rn Ls xs d 131 151 [l0, l1, l2, l3]  st H = rn Ls xs d 131 152 [l0, l1, l2, l3] (.inl 1 :: st) H := rn_nx rfl rfl
set_option maxRecDepth 20000 in
theorem e_M_hour_152 : rn Ls xs d 131 152 [l0, l1, l2, l3] (.inl i :: .inr (.inl (some a)) :: st) (S, I, R) = if h_ia S a 0 i then rn Ls xs d 131 153 [l0, l1, l2, l3] (.inl (I a i.toNatClampNeg) :: st) (S, I, R) else none := rn_bc rfl rfl
set_option maxRecDepth 20000 in
theorem e_M_hour_153 : rn Ls xs d 131 153 [l0, l1, l2, l3] (.inl y :: .inl x :: st) H = if y = 0 then none else rn Ls xs d 131 154 [l0, l1, l2, l3] (.inl (x - x / y * y) :: st) H := rn_div (f := fun x y => x - x / y * y) rfl
set_option maxRecDepth 20000 in
theorem e_M_hour_154 : rn Ls xs (d + 1) 131 154 [l0, l1, l2, l3] [v1, (.inr (.inl (some a)))] (S, I, R) = if h_is S a 9 36 then rb Ls xs (d + 1) 131 157 [l0, l1, l2, l3] [] (rn Ls xs d 181 0 [some (.inr (.inl (some a))), some v1] [] (S, I, R)) else none := rn_callO rfl rfl (Nat.le_of_ble_eq_true rfl) rfl rfl
set_option maxRecDepth 20000 in
theorem e_M_hour_157 : rn Ls xs d 131 157 [some (.inr u), l1, l2, l3] st H = rn Ls xs d 131 158 [some (.inr u), l1, l2, l3] (.inr u :: st) H := rn_nx rfl rfl
set_option maxRecDepth 20000 in
theorem e_M_hour_158 : rn Ls xs d 131 158 [l0, l1, l2, l3] (.inr (.inl (some a)) :: st) (S, I, R) = if h_is S a 9 36 then rn Ls xs d 131 161 [l0, l1, l2, l3] (.inr (R a 0) :: st) (S, I, R) else none := rn_bc rfl rfl
set_option maxRecDepth 20000 in
theorem e_M_hour_161 : rn Ls xs d 131 161 [l0, l1, l2, l3]  st H = rn Ls xs d 131 162 [l0, l1, l2, l3] (.inl 2 :: st) H := rn_nx rfl rfl
set_option maxRecDepth 20000 in
theorem e_M_hour_162 : rn Ls xs d 131 162 [l0, l1, l2, l3] (v :: w :: st) H = rn Ls xs d 131 163 [l0, l1, l2, l3] (v :: w :: v :: w :: st) H := rn_nx rfl rfl
set_option maxRecDepth 20000 in
theorem e_M_hour_163 : rn Ls xs d 131 163 [l0, l1, l2, l3] (.inl i :: .inr (.inl (some a)) :: st) (S, I, R) = if h_ia S a 0 i then rn Ls xs d 131 164 [l0, l1, l2, l3] (.inl (I a i.toNatClampNeg) :: st) (S, I, R) else none := rn_bc rfl rfl
set_option maxRecDepth 20000 in
theorem e_M_hour_164 : rn Ls xs d 131 164 [l0, l1, l2, l3]  st H = rn Ls xs d 131 165 [l0, l1, l2, l3] (.inl 1 :: st) H := rn_nx rfl rfl
set_option maxRecDepth 20000 in
theorem e_M_hour_165 : rn Ls xs d 131 165 [l0, l1, l2, l3] (.inl y :: .inl x :: st) H = rn Ls xs d 131 166 [l0, l1, l2, l3] (.inl (x + y) :: st) H := rn_nx rfl rfl
set_option maxRecDepth 20000 in
theorem e_M_hour_166 : rn Ls xs d 131 166 [l0, l1, l2, l3] (.inl x :: .inl i :: .inr (.inl (some a)) :: st) (S, I, R) = if h_ia S a 0 i then rn Ls xs d 131 167 [l0, l1, l2, l3] st (S, va_up I a (upd (I a) i.toNatClampNeg x), R) else none := rn_bc rfl rfl
set_option maxRecDepth 20000 in
theorem e_M_hour_167 : rn Ls xs d 131 167 [l0, l1, l2, l3] [] H = some (none, H) := rn_done rfl rfl
theorem e_F_findHoles_0 : rn Ls xs d 132 0 [some (.inr u), l1, l2] st H = rn Ls xs d 132 1 [some (.inr u), l1, l2] (.inr u :: st) H := rn_nx rfl rfl
theorem e_F_findHoles_1 : rn Ls xs d 132 1 [l0, l1, l2] (.inr (.inl (some a)) :: st) (S, I, R) = if h_is S a 0 5 then rn Ls xs d 132 4 [l0, l1, l2] (.inr (R a 0) :: st) (S, I, R) else none := rn_bc rfl rfl
theorem e_F_findHoles_4 : rn Ls xs d 132 4 [l0, some (.inr u), l2] st H = rn Ls xs d 132 5 [l0, some (.inr u), l2] (.inr u :: st) H := rn_nx rfl rfl
theorem e_F_findHoles_5 : rn Ls xs (d + 1) 132 5 [l0, l1, l2] [v1, (.inr (.inl (some a)))] (S, I, R) = if h_is S a 3 11 then rb Ls xs (d + 1) 132 8 [l0, l1, l2] [] (rn Ls xs d 172 0 [some (.inr (.inl (some a))), some v1, none] [] (S, I, R)) else none := rn_callO rfl rfl (Nat.le_of_ble_eq_true rfl) rfl rfl
theorem e_F_findHoles_8 : rn Ls xs d 132 8 [some (.inr u), l1, l2] st H = rn Ls xs d 132 9 [some (.inr u), l1, l2] (.inr u :: st) H := rn_nx rfl rfl
theorem e_F_findHoles_9 : rn Ls xs d 132 9 [l0, l1, l2] (.inr (.inl (some a)) :: st) (S, I, R) = if h_is S a 0 5 then rn Ls xs d 132 12 [l0, l1, l2] (.inr (R a 1) :: st) (S, I, R) else none := rn_bc rfl rfl
theorem e_F_findHoles_12 : rn Ls xs d 132 12 [l0, l1, l2]  st H = rn Ls xs d 132 13 [l0, l1, l2] (.inl 0 :: st) H := rn_nx rfl rfl
theorem e_F_findHoles_13 : rn Ls xs (d + 1) 132 13 [l0, l1, l2] [v1, v0] H = rb Ls xs (d + 1) 132 16 [l0, l1, l2] [] (rn Ls xs d 182 0 [some v0, some v1, none, none] [] H) := rn_call rfl (Nat.le_of_ble_eq_true rfl) (Nat.le_of_ble_eq_true rfl) rfl rfl
theorem e_F_findHoles_16 : rn Ls xs d 132 16 [l0, l1, l2]  st H = rn Ls xs d 132 17 [l0, l1, l2] (.inl 0 :: st) H := rn_nx rfl rfl
theorem e_F_findHoles_17 : rn Ls xs d 132 17 [l0, l1, l2] (.inl x :: st) H = rn Ls xs d 132 18 [l0, l1, some (.inl x)] st H := rn_nx rfl rfl
theorem e_F_findHoles_18 : rn Ls xs d 132 18 [l0, l1, some (.inl x)] st H = rn Ls xs d 132 19 [l0, l1, some (.inl x)] (.inl x :: st) H := rn_nx rfl rfl
theorem e_F_findHoles_19 : rn Ls xs d 132 19 [l0, l1, l2]  st H = rn Ls xs d 132 21 [l0, l1, l2] (.inl 68 :: st) H := rn_nx rfl rfl
theorem e_F_findHoles_21 : rn Ls xs d 132 21 [l0, l1, l2] (.inl y :: .inl x :: st) H = if y ≤ x then rn Ls xs d 132 47 [l0, l1, l2] st H else rn Ls xs d 132 24 [l0, l1, l2] st H := rn_cmp (p := fun x y => y ≤ x) rfl
theorem e_F_findHoles_24 : rn Ls xs d 132 24 [l0, l1, some (.inl x)] st H = rn Ls xs d 132 25 [l0, l1, some (.inl x)] (.inl x :: st) H := rn_nx rfl rfl
theorem e_F_findHoles_25 : rn Ls xs d 132 25 [l0, l1, l2] (.inl x :: st) H = if x ≤ 0 then rn Ls xs d 132 36 [l0, l1, l2] st H else rn Ls xs d 132 28 [l0, l1, l2] st H := rn_if (p := fun x => x ≤ 0) rfl
theorem e_F_findHoles_28 : rn Ls xs d 132 28 [some (.inr u), l1, l2] st H = rn Ls xs d 132 29 [some (.inr u), l1, l2] (.inr u :: st) H := rn_nx rfl rfl
theorem e_F_findHoles_29 : rn Ls xs d 132 29 [l0, l1, l2] (.inr (.inl (some a)) :: st) (S, I, R) = if h_is S a 0 5 then rn Ls xs d 132 32 [l0, l1, l2] (.inr (R a 0) :: st) (S, I, R) else none := rn_bc rfl rfl
theorem e_F_findHoles_32 : rn Ls xs d 132 32 [l0, l1, l2]  st H = rn Ls xs d 132 33 [l0, l1, l2] (.inl 1 :: st) H := rn_nx rfl rfl
theorem e_F_findHoles_33 : rn Ls xs (d + 1) 132 33 [l0, l1, l2] [v1, (.inr (.inl (some a)))] (S, I, R) = if h_is S a 3 11 then rb Ls xs (d + 1) 132 36 [l0, l1, l2] [] (rn Ls xs d 119 0 [some (.inr (.inl (some a))), some v1, none] [] (S, I, R)) else none := rn_callO rfl rfl (Nat.le_of_ble_eq_true rfl) rfl rfl
theorem e_F_findHoles_36 : rn Ls xs d 132 36 [some (.inr u), l1, l2] st H = rn Ls xs d 132 37 [some (.inr u), l1, l2] (.inr u :: st) H := rn_nx rfl rfl
theorem e_F_findHoles_37 : rn Ls xs d 132 37 [l0, l1, some (.inl x)] st H = rn Ls xs d 132 38 [l0, l1, some (.inl x)] (.inl x :: st) H := rn_nx rfl rfl
theorem e_F_findHoles_38 : rn Ls xs (d + 1) 132 38 [l0, l1, l2] [v1, (.inr (.inl (some a)))] (S, I, R) = if h_is S a 0 5 then rb Ls xs (d + 1) 132 41 [l0, l1, l2] [] (rn Ls xs d 183 0 [some (.inr (.inl (some a))), some v1, none, none, none] [] (S, I, R)) else none := rn_callO rfl rfl (Nat.le_of_ble_eq_true rfl) rfl rfl
theorem e_F_findHoles_41 : rn Ls xs d 132 41 [l0, l1, some (.inl x)] st H = rn Ls xs d 132 44 [l0, l1, some (.inl (x + 1))] st H := rn_nx rfl rfl
theorem e_F_findHoles_44 : rn Ls xs d 132 44 [l0, l1, l2] st H = rn Ls xs d 132 18 [l0, l1, l2] st H := rn_nx rfl rfl
theorem e_F_findHoles_47 : rn Ls xs d 132 47 [l0, l1, l2] [] H = some (none, H) := rn_done rfl rfl
theorem e_F_holeOver_0 : rn Ls xs d 133 0 [l0, l1, l2]  st H = rn Ls xs d 133 1 [l0, l1, l2] (.inl 0 :: st) H := rn_nx rfl rfl
theorem e_F_holeOver_1 : rn Ls xs d 133 1 [l0, l1, l2] (.inl x :: st) H = rn Ls xs d 133 2 [l0, l1, some (.inl x)] st H := rn_nx rfl rfl
theorem e_F_holeOver_2 : rn Ls xs d 133 2 [l0, l1, some (.inl x)] st H = rn Ls xs d 133 3 [l0, l1, some (.inl x)] (.inl x :: st) H := rn_nx rfl rfl
theorem e_F_holeOver_3 : rn Ls xs d 133 3 [l0, l1, l2]  st H = rn Ls xs d 133 5 [l0, l1, l2] (.inl 60 :: st) H := rn_nx rfl rfl
theorem e_F_holeOver_5 : rn Ls xs d 133 5 [l0, l1, l2] (.inl y :: .inl x :: st) H = if y < x then rn Ls xs d 133 29 [l0, l1, l2] st H else rn Ls xs d 133 8 [l0, l1, l2] st H := rn_cmp (p := fun x y => y < x) rfl
theorem e_F_holeOver_8 : rn Ls xs d 133 8 [some (.inr u), l1, l2] st H = rn Ls xs d 133 9 [some (.inr u), l1, l2] (.inr u :: st) H := rn_nx rfl rfl
theorem e_F_holeOver_9 : rn Ls xs d 133 9 [l0, l1, l2] (.inr (.inl (some a)) :: st) (S, I, R) = if h_is S a 0 5 then rn Ls xs d 133 12 [l0, l1, l2] (.inr (R a 1) :: st) (S, I, R) else none := rn_bc rfl rfl
theorem e_F_holeOver_12 : rn Ls xs d 133 12 [l0, l1, some (.inl x)] st H = rn Ls xs d 133 13 [l0, l1, some (.inl x)] (.inl x :: st) H := rn_nx rfl rfl
theorem e_F_holeOver_13 : rn Ls xs d 133 13 [l0, l1, l2] (.inl i :: .inr (.inl (some a)) :: st) (S, I, R) = if h_ia S a 0 i then rn Ls xs d 133 14 [l0, l1, l2] (.inl (I a i.toNatClampNeg) :: st) (S, I, R) else none := rn_bc rfl rfl
theorem e_F_holeOver_14 : rn Ls xs d 133 14 [l0, some (.inl x), l2] st H = rn Ls xs d 133 15 [l0, some (.inl x), l2] (.inl x :: st) H := rn_nx rfl rfl
theorem e_F_holeOver_15 : rn Ls xs d 133 15 [l0, l1, l2] (.inl y :: .inl x :: st) H = rn Ls xs d 133 16 [l0, l1, l2] (.inl (x >>> (y &&& 31)) :: st) H := rn_nx rfl rfl
theorem e_F_holeOver_16 : rn Ls xs d 133 16 [l0, l1, l2]  st H = rn Ls xs d 133 17 [l0, l1, l2] (.inl 1 :: st) H := rn_nx rfl rfl
theorem e_F_holeOver_17 : rn Ls xs d 133 17 [l0, l1, l2] (.inl y :: .inl x :: st) H = rn Ls xs d 133 18 [l0, l1, l2] (.inl (x &&& y) :: st) H := rn_nx rfl rfl
theorem e_F_holeOver_18 : rn Ls xs d 133 18 [l0, l1, l2] (.inl x :: st) H = if x ≠ 0 then rn Ls xs d 133 23 [l0, l1, l2] st H else rn Ls xs d 133 21 [l0, l1, l2] st H := rn_if (p := fun x => x ≠ 0) rfl
theorem e_F_holeOver_21 : rn Ls xs d 133 21 [l0, l1, some (.inl x)] st H = rn Ls xs d 133 22 [l0, l1, some (.inl x)] (.inl x :: st) H := rn_nx rfl rfl
theorem e_F_holeOver_22 : rn Ls xs d 133 22 [l0, l1, l2] [.inl x] H = some (some (.inl x), H) := rn_done rfl rfl
theorem e_F_holeOver_23 : rn Ls xs d 133 23 [l0, l1, some (.inl x)] st H = rn Ls xs d 133 26 [l0, l1, some (.inl (x + 1))] st H := rn_nx rfl rfl
theorem e_F_holeOver_26 : rn Ls xs d 133 26 [l0, l1, l2] st H = rn Ls xs d 133 2 [l0, l1, l2] st H := rn_nx rfl rfl
theorem e_F_holeOver_29 : rn Ls xs d 133 29 [l0, l1, l2]  st H = rn Ls xs d 133 31 [l0, l1, l2] (.inl (-1000000005) :: st) H := rn_nx rfl rfl
theorem e_F_holeOver_31 : rn Ls xs d 133 31 [l0, l1, l2] [.inl x] H = some (some (.inl x), H) := rn_done rfl rfl
theorem e_M_looksUp_0 : rn Ls xs d 134 0 [some (.inr u), l1, l2, l3, l4] st H = rn Ls xs d 134 1 [some (.inr u), l1, l2, l3, l4] (.inr u :: st) H := rn_nx rfl rfl
theorem e_M_looksUp_1 : rn Ls xs (d + 1) 134 1 [l0, l1, l2, l3, l4] [(.inr (.inl (some a)))] (S, I, R) = if h_is S a 9 36 then rb Ls xs (d + 1) 134 4 [l0, l1, l2, l3, l4] [] (rn Ls xs d 128 0 [some (.inr (.inl (some a))), none] [] (S, I, R)) else none := rn_callO rfl rfl (Nat.le_of_ble_eq_true rfl) rfl rfl
theorem e_M_looksUp_4 : rn Ls xs d 134 4 [l0, l1, l2, l3, l4]  st H = rn Ls xs d 134 5 [l0, l1, l2, l3, l4] (.inl 0 :: st) H := rn_nx rfl rfl
theorem e_M_looksUp_5 : rn Ls xs d 134 5 [l0, l1, l2, l3, l4] (.inl x :: st) H = rn Ls xs d 134 6 [l0, some (.inl x), l2, l3, l4] st H := rn_nx rfl rfl
theorem e_M_looksUp_6 : rn Ls xs d 134 6 [l0, some (.inl x), l2, l3, l4] st H = rn Ls xs d 134 7 [l0, some (.inl x), l2, l3, l4] (.inl x :: st) H := rn_nx rfl rfl
theorem e_M_looksUp_7 : rn Ls xs d 134 7 [l0, l1, l2, l3, l4]  st H = rn Ls xs d 134 9 [l0, l1, l2, l3, l4] (.inl 68 :: st) H := rn_nx rfl rfl
theorem e_M_looksUp_9 : rn Ls xs d 134 9 [l0, l1, l2, l3, l4] (.inl y :: .inl x :: st) H = if y ≤ x then rn Ls xs d 134 106 [l0, l1, l2, l3, l4] st H else rn Ls xs d 134 12 [l0, l1, l2, l3, l4] st H := rn_cmp (p := fun x y => y ≤ x) rfl
theorem e_M_looksUp_12 : rn Ls xs d 134 12 [l0, l1, l2, l3, l4]  st H = rn Ls xs d 134 13 [l0, l1, l2, l3, l4] (.inl 0 :: st) H := rn_nx rfl rfl
theorem e_M_looksUp_13 : rn Ls xs d 134 13 [l0, l1, l2, l3, l4] (.inl x :: st) H = rn Ls xs d 134 14 [l0, l1, some (.inl x), l3, l4] st H := rn_nx rfl rfl
theorem e_M_looksUp_14 : rn Ls xs d 134 14 [l0, l1, some (.inl x), l3, l4] st H = rn Ls xs d 134 15 [l0, l1, some (.inl x), l3, l4] (.inl x :: st) H := rn_nx rfl rfl
theorem e_M_looksUp_15 : rn Ls xs d 134 15 [l0, l1, l2, l3, l4]  st H = rn Ls xs d 134 17 [l0, l1, l2, l3, l4] (.inl 8 :: st) H := rn_nx rfl rfl
theorem e_M_looksUp_17 : rn Ls xs d 134 17 [l0, l1, l2, l3, l4] (.inl y :: .inl x :: st) H = if y ≤ x then rn Ls xs d 134 96 [l0, l1, l2, l3, l4] st H else rn Ls xs d 134 20 [l0, l1, l2, l3, l4] st H := rn_cmp (p := fun x y => y ≤ x) rfl
theorem e_M_looksUp_20 : rn Ls xs d 134 20 [l0, l1, l2, l3, l4]  st H = rn Ls xs d 134 21 [l0, l1, l2, l3, l4] (.inl 0 :: st) H := rn_nx rfl rfl
theorem e_M_looksUp_21 : rn Ls xs d 134 21 [l0, l1, l2, l3, l4] (.inl x :: st) H = rn Ls xs d 134 22 [l0, l1, l2, some (.inl x), l4] st H := rn_nx rfl rfl
theorem e_M_looksUp_22 : rn Ls xs d 134 22 [l0, l1, l2, l3, l4]  st H = rn Ls xs d 134 23 [l0, l1, l2, l3, l4] (.inl 0 :: st) H := rn_nx rfl rfl
theorem e_M_looksUp_23 : rn Ls xs d 134 23 [l0, l1, l2, l3, l4] (.inl x :: st) H = rn Ls xs d 134 25 [l0, l1, l2, l3, some (.inl x)] st H := rn_nx rfl rfl
theorem e_M_looksUp_25 : rn Ls xs d 134 25 [l0, l1, l2, l3, some (.inl x)] st H = rn Ls xs d 134 27 [l0, l1, l2, l3, some (.inl x)] (.inl x :: st) H := rn_nx rfl rfl
theorem e_M_looksUp_27 : rn Ls xs d 134 27 [some (.inr u), l1, l2, l3, l4] st H = rn Ls xs d 134 28 [some (.inr u), l1, l2, l3, l4] (.inr u :: st) H := rn_nx rfl rfl
theorem e_M_looksUp_28 : rn Ls xs d 134 28 [l0, l1, l2, l3, l4] (.inr (.inl (some a)) :: st) (S, I, R) = if h_is S a 9 36 then rn Ls xs d 134 31 [l0, l1, l2, l3, l4] (.inr (R a 0) :: st) (S, I, R) else none := rn_bc rfl rfl
theorem e_M_looksUp_31 : rn Ls xs d 134 31 [l0, l1, l2, l3, l4]  st H = rn Ls xs d 134 32 [l0, l1, l2, l3, l4] (.inl 1 :: st) H := rn_nx rfl rfl
theorem e_M_looksUp_32 : rn Ls xs d 134 32 [l0, l1, l2, l3, l4] (.inl i :: .inr (.inl (some a)) :: st) (S, I, R) = if h_ia S a 0 i then rn Ls xs d 134 33 [l0, l1, l2, l3, l4] (.inl (I a i.toNatClampNeg) :: st) (S, I, R) else none := rn_bc rfl rfl
theorem e_M_looksUp_33 : rn Ls xs d 134 33 [l0, l1, l2, l3, l4] (.inl y :: .inl x :: st) H = if y ≤ x then rn Ls xs d 134 78 [l0, l1, l2, l3, l4] st H else rn Ls xs d 134 36 [l0, l1, l2, l3, l4] st H := rn_cmp (p := fun x y => y ≤ x) rfl
theorem e_M_looksUp_36 : rn Ls xs d 134 36 [l0, l1, l2, some (.inl x), l4] st H = rn Ls xs d 134 37 [l0, l1, l2, some (.inl x), l4] (.inl x :: st) H := rn_nx rfl rfl
theorem e_M_looksUp_37 : rn Ls xs d 134 37 [some (.inr u), l1, l2, l3, l4] st H = rn Ls xs d 134 38 [some (.inr u), l1, l2, l3, l4] (.inr u :: st) H := rn_nx rfl rfl
theorem e_M_looksUp_38 : rn Ls xs d 134 38 [l0, l1, l2, l3, some (.inl x)] st H = rn Ls xs d 134 40 [l0, l1, l2, l3, some (.inl x)] (.inl x :: st) H := rn_nx rfl rfl
theorem e_M_looksUp_40 : rn Ls xs (d + 1) 134 40 [l0, l1, l2, l3, l4] [v1, (.inr (.inl (some a))), v2] (S, I, R) = if h_is S a 9 36 then rb Ls xs (d + 1) 134 43 [l0, l1, l2, l3, l4] [v2] (rn Ls xs d 113 0 [some (.inr (.inl (some a))), some v1] [] (S, I, R)) else none := rn_callO rfl rfl (Nat.le_of_ble_eq_true rfl) rfl rfl
theorem e_M_looksUp_43 : rn Ls xs d 134 43 [l0, l1, l2, l3, l4] (.inl x :: st) H = if x = 0 then rn Ls xs d 134 69 [l0, l1, l2, l3, l4] st H else rn Ls xs d 134 46 [l0, l1, l2, l3, l4] st H := rn_if (p := fun x => x = 0) rfl
theorem e_M_looksUp_46 : rn Ls xs d 134 46 [some (.inr u), l1, l2, l3, l4] st H = rn Ls xs d 134 47 [some (.inr u), l1, l2, l3, l4] (.inr u :: st) H := rn_nx rfl rfl
theorem e_M_looksUp_47 : rn Ls xs d 134 47 [l0, l1, l2, l3, some (.inl x)] st H = rn Ls xs d 134 49 [l0, l1, l2, l3, some (.inl x)] (.inl x :: st) H := rn_nx rfl rfl
theorem e_M_looksUp_49 : rn Ls xs d 134 49 [l0, l1, l2, l3, l4]  st H = rn Ls xs d 134 50 [l0, l1, l2, l3, l4] (.inl 1 :: st) H := rn_nx rfl rfl
theorem e_M_looksUp_50 : rn Ls xs (d + 1) 134 50 [l0, l1, l2, l3, l4] [v2, v1, (.inr (.inl (some a))), v3] (S, I, R) = if h_is S a 9 36 then rb Ls xs (d + 1) 134 53 [l0, l1, l2, l3, l4] [v3] (rn Ls xs d 105 0 [some (.inr (.inl (some a))), some v1, some v2] [] (S, I, R)) else none := rn_callO rfl rfl (Nat.le_of_ble_eq_true rfl) rfl rfl
theorem e_M_looksUp_53 : rn Ls xs d 134 53 [l0, l1, some (.inl x), l3, l4] st H = rn Ls xs d 134 54 [l0, l1, some (.inl x), l3, l4] (.inl x :: st) H := rn_nx rfl rfl
theorem e_M_looksUp_54 : rn Ls xs d 134 54 [l0, l1, l2, l3, l4] (.inl y :: .inl x :: st) H = if x ≠ y then rn Ls xs d 134 69 [l0, l1, l2, l3, l4] st H else rn Ls xs d 134 57 [l0, l1, l2, l3, l4] st H := rn_cmp (p := fun x y => x ≠ y) rfl
theorem e_M_looksUp_57 : rn Ls xs d 134 57 [l0, l1, l2, l3, l4]  st H = rn Ls xs d 134 58 [l0, l1, l2, l3, l4] (.inl 1 :: st) H := rn_nx rfl rfl
theorem e_M_looksUp_58 : rn Ls xs d 134 58 [some (.inr u), l1, l2, l3, l4] st H = rn Ls xs d 134 59 [some (.inr u), l1, l2, l3, l4] (.inr u :: st) H := rn_nx rfl rfl
theorem e_M_looksUp_59 : rn Ls xs d 134 59 [l0, l1, l2, l3, some (.inl x)] st H = rn Ls xs d 134 61 [l0, l1, l2, l3, some (.inl x)] (.inl x :: st) H := rn_nx rfl rfl
theorem e_M_looksUp_61 : rn Ls xs d 134 61 [l0, l1, l2, l3, l4]  st H = rn Ls xs d 134 62 [l0, l1, l2, l3, l4] (.inl 2 :: st) H := rn_nx rfl rfl
theorem e_M_looksUp_62 : rn Ls xs (d + 1) 134 62 [l0, l1, l2, l3, l4] [v2, v1, (.inr (.inl (some a))), v3, v4] (S, I, R) = if h_is S a 9 36 then rb Ls xs (d + 1) 134 65 [l0, l1, l2, l3, l4] [v3, v4] (rn Ls xs d 105 0 [some (.inr (.inl (some a))), some v1, some v2] [] (S, I, R)) else none := rn_callO rfl rfl (Nat.le_of_ble_eq_true rfl) rfl rfl
theorem e_M_looksUp_65 : rn Ls xs d 134 65 [l0, l1, l2, l3, l4] (.inl y :: .inl x :: st) H = rn Ls xs d 134 66 [l0, l1, l2, l3, l4] (.inl (x <<< (y &&& 31)) :: st) H := rn_nx rfl rfl
theorem e_M_looksUp_66 : rn Ls xs d 134 66 [l0, l1, l2, l3, l4] st H = rn Ls xs d 134 70 [l0, l1, l2, l3, l4] st H := rn_nx rfl rfl
theorem e_M_looksUp_69 : rn Ls xs d 134 69 [l0, l1, l2, l3, l4]  st H = rn Ls xs d 134 70 [l0, l1, l2, l3, l4] (.inl 0 :: st) H := rn_nx rfl rfl
theorem e_M_looksUp_70 : rn Ls xs d 134 70 [l0, l1, l2, l3, l4] (.inl y :: .inl x :: st) H = rn Ls xs d 134 71 [l0, l1, l2, l3, l4] (.inl (x ||| y) :: st) H := rn_nx rfl rfl
theorem e_M_looksUp_71 : rn Ls xs d 134 71 [l0, l1, l2, l3, l4] (.inl x :: st) H = rn Ls xs d 134 72 [l0, l1, l2, some (.inl x), l4] st H := rn_nx rfl rfl
theorem e_M_looksUp_72 : rn Ls xs d 134 72 [l0, l1, l2, l3, some (.inl x)] st H = rn Ls xs d 134 75 [l0, l1, l2, l3, some (.inl (x + 1))] st H := rn_nx rfl rfl
theorem e_M_looksUp_75 : rn Ls xs d 134 75 [l0, l1, l2, l3, l4] st H = rn Ls xs d 134 25 [l0, l1, l2, l3, l4] st H := rn_nx rfl rfl
theorem e_M_looksUp_78 : rn Ls xs d 134 78 [some (.inr u), l1, l2, l3, l4] st H = rn Ls xs d 134 79 [some (.inr u), l1, l2, l3, l4] (.inr u :: st) H := rn_nx rfl rfl
theorem e_M_looksUp_79 : rn Ls xs d 134 79 [l0, l1, l2, l3, l4] (.inr (.inl (some a)) :: st) (S, I, R) = if h_is S a 9 36 then rn Ls xs d 134 82 [l0, l1, l2, l3, l4] (.inr (R a 5) :: st) (S, I, R) else none := rn_bc rfl rfl
theorem e_M_looksUp_82 : rn Ls xs d 134 82 [l0, l1, l2, l3, l4]  st H = rn Ls xs d 134 84 [l0, l1, l2, l3, l4] (.inl 68 :: st) H := rn_nx rfl rfl
theorem e_M_looksUp_84 : rn Ls xs d 134 84 [l0, l1, some (.inl x), l3, l4] st H = rn Ls xs d 134 85 [l0, l1, some (.inl x), l3, l4] (.inl x :: st) H := rn_nx rfl rfl
theorem e_M_looksUp_85 : rn Ls xs d 134 85 [l0, l1, l2, l3, l4] (.inl y :: .inl x :: st) H = rn Ls xs d 134 86 [l0, l1, l2, l3, l4] (.inl (x * y) :: st) H := rn_nx rfl rfl
theorem e_M_looksUp_86 : rn Ls xs d 134 86 [l0, some (.inl x), l2, l3, l4] st H = rn Ls xs d 134 87 [l0, some (.inl x), l2, l3, l4] (.inl x :: st) H := rn_nx rfl rfl
theorem e_M_looksUp_87 : rn Ls xs d 134 87 [l0, l1, l2, l3, l4] (.inl y :: .inl x :: st) H = rn Ls xs d 134 88 [l0, l1, l2, l3, l4] (.inl (x + y) :: st) H := rn_nx rfl rfl
theorem e_M_looksUp_88 : rn Ls xs d 134 88 [l0, l1, l2, some (.inl x), l4] st H = rn Ls xs d 134 89 [l0, l1, l2, some (.inl x), l4] (.inl x :: st) H := rn_nx rfl rfl
theorem e_M_looksUp_89 : rn Ls xs d 134 89 [l0, l1, l2, l3, l4] (.inl x :: .inl i :: .inr (.inl (some a)) :: st) (S, I, R) = if h_ia S a 0 i then rn Ls xs d 134 90 [l0, l1, l2, l3, l4] st (S, va_up I a (upd (I a) i.toNatClampNeg x), R) else none := rn_bc rfl rfl
theorem e_M_looksUp_90 : rn Ls xs d 134 90 [l0, l1, some (.inl x), l3, l4] st H = rn Ls xs d 134 93 [l0, l1, some (.inl (x + 1)), l3, l4] st H := rn_nx rfl rfl
theorem e_M_looksUp_93 : rn Ls xs d 134 93 [l0, l1, l2, l3, l4] st H = rn Ls xs d 134 14 [l0, l1, l2, l3, l4] st H := rn_nx rfl rfl
theorem e_M_looksUp_96 : rn Ls xs d 134 96 [some (.inr u), l1, l2, l3, l4] st H = rn Ls xs d 134 97 [some (.inr u), l1, l2, l3, l4] (.inr u :: st) H := rn_nx rfl rfl
theorem e_M_looksUp_97 : rn Ls xs (d + 1) 134 97 [l0, l1, l2, l3, l4] [(.inr (.inl (some a)))] (S, I, R) = if h_is S a 9 36 then rb Ls xs (d + 1) 134 100 [l0, l1, l2, l3, l4] [] (rn Ls xs d 131 0 [some (.inr (.inl (some a))), none, none, none] [] (S, I, R)) else none := rn_callO rfl rfl (Nat.le_of_ble_eq_true rfl) rfl rfl
theorem e_M_looksUp_100 : rn Ls xs d 134 100 [l0, some (.inl x), l2, l3, l4] st H = rn Ls xs d 134 103 [l0, some (.inl (x + 1)), l2, l3, l4] st H := rn_nx rfl rfl
theorem e_M_looksUp_103 : rn Ls xs d 134 103 [l0, l1, l2, l3, l4] st H = rn Ls xs d 134 6 [l0, l1, l2, l3, l4] st H := rn_nx rfl rfl
theorem e_M_looksUp_106 : rn Ls xs d 134 106 [some (.inr u), l1, l2, l3, l4] st H = rn Ls xs d 134 107 [some (.inr u), l1, l2, l3, l4] (.inr u :: st) H := rn_nx rfl rfl
theorem e_M_looksUp_107 : rn Ls xs (d + 1) 134 107 [l0, l1, l2, l3, l4] [(.inr (.inl (some a)))] (S, I, R) = if h_is S a 9 36 then rb Ls xs (d + 1) 134 110 [l0, l1, l2, l3, l4] [] (rn Ls xs d 129 0 [some (.inr (.inl (some a))), none] [] (S, I, R)) else none := rn_callO rfl rfl (Nat.le_of_ble_eq_true rfl) rfl rfl
theorem e_M_looksUp_110 : rn Ls xs d 134 110 [l0, l1, l2, l3, l4] [] H = some (none, H) := rn_done rfl rfl
theorem e_M_holeOf_0 : rn Ls xs d 135 0 [l0, l1, l2, l3, l4]  st H = rn Ls xs d 135 1 [l0, l1, l2, l3, l4] (.inl 0 :: st) H := rn_nx rfl rfl
theorem e_M_holeOf_1 : rn Ls xs d 135 1 [l0, l1, l2, l3, l4] (.inl x :: st) H = rn Ls xs d 135 2 [l0, l1, some (.inl x), l3, l4] st H := rn_nx rfl rfl
theorem e_M_holeOf_2 : rn Ls xs d 135 2 [l0, l1, some (.inl x), l3, l4] st H = rn Ls xs d 135 3 [l0, l1, some (.inl x), l3, l4] (.inl x :: st) H := rn_nx rfl rfl
theorem e_M_holeOf_3 : rn Ls xs d 135 3 [l0, l1, l2, l3, l4]  st H = rn Ls xs d 135 5 [l0, l1, l2, l3, l4] (.inl 60 :: st) H := rn_nx rfl rfl
theorem e_M_holeOf_5 : rn Ls xs d 135 5 [l0, l1, l2, l3, l4] (.inl y :: .inl x :: st) H = if y < x then rn Ls xs d 135 60 [l0, l1, l2, l3, l4] st H else rn Ls xs d 135 8 [l0, l1, l2, l3, l4] st H := rn_cmp (p := fun x y => y < x) rfl
theorem e_M_holeOf_8 : rn Ls xs d 135 8 [l0, l1, l2, l3, l4]  st H = rn Ls xs d 135 9 [l0, l1, l2, l3, l4] (.inl 0 :: st) H := rn_nx rfl rfl
theorem e_M_holeOf_9 : rn Ls xs d 135 9 [l0, l1, l2, l3, l4] (.inl x :: st) H = rn Ls xs d 135 10 [l0, l1, l2, some (.inl x), l4] st H := rn_nx rfl rfl
theorem e_M_holeOf_10 : rn Ls xs d 135 10 [l0, l1, l2, l3, l4]  st H = rn Ls xs d 135 11 [l0, l1, l2, l3, l4] (.inl 0 :: st) H := rn_nx rfl rfl
theorem e_M_holeOf_11 : rn Ls xs d 135 11 [l0, l1, l2, l3, l4] (.inl x :: st) H = rn Ls xs d 135 13 [l0, l1, l2, l3, some (.inl x)] st H := rn_nx rfl rfl
theorem e_M_holeOf_13 : rn Ls xs d 135 13 [l0, l1, l2, l3, some (.inl x)] st H = rn Ls xs d 135 15 [l0, l1, l2, l3, some (.inl x)] (.inl x :: st) H := rn_nx rfl rfl
theorem e_M_holeOf_15 : rn Ls xs d 135 15 [l0, l1, l2, l3, l4]  st H = rn Ls xs d 135 17 [l0, l1, l2, l3, l4] (.inl 8 :: st) H := rn_nx rfl rfl
theorem e_M_holeOf_17 : rn Ls xs d 135 17 [l0, l1, l2, l3, l4] (.inl y :: .inl x :: st) H = if y ≤ x then rn Ls xs d 135 44 [l0, l1, l2, l3, l4] st H else rn Ls xs d 135 20 [l0, l1, l2, l3, l4] st H := rn_cmp (p := fun x y => y ≤ x) rfl
theorem e_M_holeOf_20 : rn Ls xs d 135 20 [l0, l1, l2, some (.inl x), l4] st H = rn Ls xs d 135 21 [l0, l1, l2, some (.inl x), l4] (.inl x :: st) H := rn_nx rfl rfl
theorem e_M_holeOf_21 : rn Ls xs d 135 21 [some (.inr u), l1, l2, l3, l4] st H = rn Ls xs d 135 22 [some (.inr u), l1, l2, l3, l4] (.inr u :: st) H := rn_nx rfl rfl
theorem e_M_holeOf_22 : rn Ls xs d 135 22 [l0, l1, l2, l3, l4] (.inr (.inl (some a)) :: st) (S, I, R) = if h_is S a 9 36 then rn Ls xs d 135 25 [l0, l1, l2, l3, l4] (.inr (R a 5) :: st) (S, I, R) else none := rn_bc rfl rfl
theorem e_M_holeOf_25 : rn Ls xs d 135 25 [l0, l1, l2, l3, l4]  st H = rn Ls xs d 135 27 [l0, l1, l2, l3, l4] (.inl 68 :: st) H := rn_nx rfl rfl
theorem e_M_holeOf_27 : rn Ls xs d 135 27 [l0, l1, l2, l3, some (.inl x)] st H = rn Ls xs d 135 29 [l0, l1, l2, l3, some (.inl x)] (.inl x :: st) H := rn_nx rfl rfl
theorem e_M_holeOf_29 : rn Ls xs d 135 29 [l0, l1, l2, l3, l4] (.inl y :: .inl x :: st) H = rn Ls xs d 135 30 [l0, l1, l2, l3, l4] (.inl (x * y) :: st) H := rn_nx rfl rfl
theorem e_M_holeOf_30 : rn Ls xs d 135 30 [l0, l1, some (.inl x), l3, l4] st H = rn Ls xs d 135 31 [l0, l1, some (.inl x), l3, l4] (.inl x :: st) H := rn_nx rfl rfl
theorem e_M_holeOf_31 : rn Ls xs d 135 31 [l0, l1, l2, l3, l4] (.inl y :: .inl x :: st) H = rn Ls xs d 135 32 [l0, l1, l2, l3, l4] (.inl (x + y) :: st) H := rn_nx rfl rfl
theorem e_M_holeOf_32 : rn Ls xs d 135 32 [l0, l1, l2, l3, some (.inl x)] st H = rn Ls xs d 135 34 [l0, l1, l2, l3, some (.inl x)] (.inl x :: st) H := rn_nx rfl rfl
theorem e_M_holeOf_34 : rn Ls xs d 135 34 [l0, l1, l2, l3, l4] (.inl y :: .inl x :: st) H = rn Ls xs d 135 35 [l0, l1, l2, l3, l4] (.inl (x + y) :: st) H := rn_nx rfl rfl
theorem e_M_holeOf_35 : rn Ls xs d 135 35 [l0, l1, l2, l3, l4] (.inl i :: .inr (.inl (some a)) :: st) (S, I, R) = if h_ia S a 0 i then rn Ls xs d 135 36 [l0, l1, l2, l3, l4] (.inl (I a i.toNatClampNeg) :: st) (S, I, R) else none := rn_bc rfl rfl
theorem e_M_holeOf_36 : rn Ls xs d 135 36 [l0, l1, l2, l3, l4] (.inl y :: .inl x :: st) H = rn Ls xs d 135 37 [l0, l1, l2, l3, l4] (.inl (x ||| y) :: st) H := rn_nx rfl rfl
theorem e_M_holeOf_37 : rn Ls xs d 135 37 [l0, l1, l2, l3, l4] (.inl x :: st) H = rn Ls xs d 135 38 [l0, l1, l2, some (.inl x), l4] st H := rn_nx rfl rfl
theorem e_M_holeOf_38 : rn Ls xs d 135 38 [l0, l1, l2, l3, some (.inl x)] st H = rn Ls xs d 135 41 [l0, l1, l2, l3, some (.inl (x + 1))] st H := rn_nx rfl rfl
theorem e_M_holeOf_41 : rn Ls xs d 135 41 [l0, l1, l2, l3, l4] st H = rn Ls xs d 135 13 [l0, l1, l2, l3, l4] st H := rn_nx rfl rfl
theorem e_M_holeOf_44 : rn Ls xs d 135 44 [l0, l1, l2, some (.inl x), l4] st H = rn Ls xs d 135 45 [l0, l1, l2, some (.inl x), l4] (.inl x :: st) H := rn_nx rfl rfl
theorem e_M_holeOf_45 : rn Ls xs d 135 45 [l0, some (.inl x), l2, l3, l4] st H = rn Ls xs d 135 46 [l0, some (.inl x), l2, l3, l4] (.inl x :: st) H := rn_nx rfl rfl
theorem e_M_holeOf_46 : rn Ls xs d 135 46 [l0, l1, l2, l3, l4] (.inl y :: .inl x :: st) H = rn Ls xs d 135 47 [l0, l1, l2, l3, l4] (.inl (x >>> (y &&& 31)) :: st) H := rn_nx rfl rfl
theorem e_M_holeOf_47 : rn Ls xs d 135 47 [l0, l1, l2, l3, l4]  st H = rn Ls xs d 135 48 [l0, l1, l2, l3, l4] (.inl 1 :: st) H := rn_nx rfl rfl
theorem e_M_holeOf_48 : rn Ls xs d 135 48 [l0, l1, l2, l3, l4] (.inl y :: .inl x :: st) H = rn Ls xs d 135 49 [l0, l1, l2, l3, l4] (.inl (x &&& y) :: st) H := rn_nx rfl rfl
theorem e_M_holeOf_49 : rn Ls xs d 135 49 [l0, l1, l2, l3, l4] (.inl x :: st) H = if x ≠ 0 then rn Ls xs d 135 54 [l0, l1, l2, l3, l4] st H else rn Ls xs d 135 52 [l0, l1, l2, l3, l4] st H := rn_if (p := fun x => x ≠ 0) rfl
theorem e_M_holeOf_52 : rn Ls xs d 135 52 [l0, l1, some (.inl x), l3, l4] st H = rn Ls xs d 135 53 [l0, l1, some (.inl x), l3, l4] (.inl x :: st) H := rn_nx rfl rfl
theorem e_M_holeOf_53 : rn Ls xs d 135 53 [l0, l1, l2, l3, l4] [.inl x] H = some (some (.inl x), H) := rn_done rfl rfl
theorem e_M_holeOf_54 : rn Ls xs d 135 54 [l0, l1, some (.inl x), l3, l4] st H = rn Ls xs d 135 57 [l0, l1, some (.inl (x + 1)), l3, l4] st H := rn_nx rfl rfl
theorem e_M_holeOf_57 : rn Ls xs d 135 57 [l0, l1, l2, l3, l4] st H = rn Ls xs d 135 2 [l0, l1, l2, l3, l4] st H := rn_nx rfl rfl
theorem e_M_holeOf_60 : rn Ls xs d 135 60 [l0, l1, l2, l3, l4]  st H = rn Ls xs d 135 62 [l0, l1, l2, l3, l4] (.inl (-1000000005) :: st) H := rn_nx rfl rfl
theorem e_M_holeOf_62 : rn Ls xs d 135 62 [l0, l1, l2, l3, l4] [.inl x] H = some (some (.inl x), H) := rn_done rfl rfl
theorem e_F_chooseSweep_0 : rn Ls xs d 136 0 [some (.inr u), l1, l2, l3] st H = rn Ls xs d 136 1 [some (.inr u), l1, l2, l3] (.inr u :: st) H := rn_nx rfl rfl
theorem e_F_chooseSweep_1 : rn Ls xs (d + 1) 136 1 [l0, l1, l2, l3] [(.inr (.inl (some a)))] (S, I, R) = if h_is S a 0 5 then rb Ls xs (d + 1) 136 4 [l0, l1, l2, l3] [] (rn Ls xs d 184 0 [some (.inr (.inl (some a)))] [] (S, I, R)) else none := rn_callO rfl rfl (Nat.le_of_ble_eq_true rfl) rfl rfl
theorem e_F_chooseSweep_4 : rn Ls xs d 136 4 [l0, l1, l2, l3]  st H = rn Ls xs d 136 5 [l0, l1, l2, l3] (.inl 0 :: st) H := rn_nx rfl rfl
theorem e_F_chooseSweep_5 : rn Ls xs d 136 5 [l0, l1, l2, l3] (.inl x :: st) H = rn Ls xs d 136 6 [l0, l1, l2, some (.inl x)] st H := rn_nx rfl rfl
theorem e_F_chooseSweep_6 : rn Ls xs d 136 6 [l0, l1, l2, some (.inl x)] st H = rn Ls xs d 136 7 [l0, l1, l2, some (.inl x)] (.inl x :: st) H := rn_nx rfl rfl
theorem e_F_chooseSweep_7 : rn Ls xs d 136 7 [l0, some (.inr u), l2, l3] st H = rn Ls xs d 136 8 [l0, some (.inr u), l2, l3] (.inr u :: st) H := rn_nx rfl rfl
theorem e_F_chooseSweep_8 : rn Ls xs d 136 8 [l0, l1, l2, l3] (.inr (.inl (some a)) :: st) (S, I, R) = if h_is S a 3 11 then rn Ls xs d 136 11 [l0, l1, l2, l3] (.inl (I a 3) :: st) (S, I, R) else none := rn_bc rfl rfl
theorem e_F_chooseSweep_11 : rn Ls xs d 136 11 [l0, l1, l2, l3] (.inl y :: .inl x :: st) H = if y ≤ x then rn Ls xs d 136 73 [l0, l1, l2, l3] st H else rn Ls xs d 136 14 [l0, l1, l2, l3] st H := rn_cmp (p := fun x y => y ≤ x) rfl
theorem e_F_chooseSweep_14 : rn Ls xs d 136 14 [l0, some (.inr u), l2, l3] st H = rn Ls xs d 136 15 [l0, some (.inr u), l2, l3] (.inr u :: st) H := rn_nx rfl rfl
theorem e_F_chooseSweep_15 : rn Ls xs d 136 15 [l0, l1, l2, l3] (.inr (.inl (some a)) :: st) (S, I, R) = if h_is S a 3 11 then rn Ls xs d 136 18 [l0, l1, l2, l3] (.inr (R a 0) :: st) (S, I, R) else none := rn_bc rfl rfl
theorem e_F_chooseSweep_18 : rn Ls xs d 136 18 [l0, l1, l2, some (.inl x)] st H = rn Ls xs d 136 19 [l0, l1, l2, some (.inl x)] (.inl x :: st) H := rn_nx rfl rfl
theorem e_F_chooseSweep_19 : rn Ls xs d 136 19 [l0, l1, l2, l3] (.inl i :: .inr (.inl (some a)) :: st) (S, I, R) = if h_ia S a 4 i then (match R a i.toNatClampNeg with | .inl o => rn Ls xs d 136 20 [l0, l1, l2, l3] (.inr (.inl o) :: st) (S, I, R) | .inr _ => none) else none := rn_aald rfl
theorem e_F_chooseSweep_20 : rn Ls xs d 136 20 [l0, l1, l2, l3] (.inr (.inl (some a)) :: st) (S, I, R) = if h_is S a 7 6 then rn Ls xs d 136 23 [l0, l1, l2, l3] (.inl (I a 5) :: st) (S, I, R) else none := rn_bc rfl rfl
theorem e_F_chooseSweep_23 : rn Ls xs d 136 23 [l0, l1, l2, l3] (.inl x :: st) H = if x = 0 then rn Ls xs d 136 67 [l0, l1, l2, l3] st H else rn Ls xs d 136 26 [l0, l1, l2, l3] st H := rn_if (p := fun x => x = 0) rfl
theorem e_F_chooseSweep_26 : rn Ls xs d 136 26 [some (.inr u), l1, l2, l3] st H = rn Ls xs d 136 27 [some (.inr u), l1, l2, l3] (.inr u :: st) H := rn_nx rfl rfl
theorem e_F_chooseSweep_27 : rn Ls xs d 136 27 [l0, l1, l2, l3] (.inr (.inl (some a)) :: st) (S, I, R) = if h_is S a 0 5 then rn Ls xs d 136 30 [l0, l1, l2, l3] (.inr (R a 0) :: st) (S, I, R) else none := rn_bc rfl rfl
theorem e_F_chooseSweep_30 : rn Ls xs d 136 30 [l0, some (.inr u), l2, l3] st H = rn Ls xs d 136 31 [l0, some (.inr u), l2, l3] (.inr u :: st) H := rn_nx rfl rfl
theorem e_F_chooseSweep_31 : rn Ls xs (d + 1) 136 31 [l0, l1, l2, l3] [v1, (.inr (.inl (some a)))] (S, I, R) = if h_is S a 3 11 then rb Ls xs (d + 1) 136 34 [l0, l1, l2, l3] [] (rn Ls xs d 172 0 [some (.inr (.inl (some a))), some v1, none] [] (S, I, R)) else none := rn_callO rfl rfl (Nat.le_of_ble_eq_true rfl) rfl rfl
theorem e_F_chooseSweep_34 : rn Ls xs d 136 34 [some (.inr u), l1, l2, l3] st H = rn Ls xs d 136 35 [some (.inr u), l1, l2, l3] (.inr u :: st) H := rn_nx rfl rfl
theorem e_F_chooseSweep_35 : rn Ls xs d 136 35 [l0, l1, l2, l3] (.inr (.inl (some a)) :: st) (S, I, R) = if h_is S a 0 5 then rn Ls xs d 136 38 [l0, l1, l2, l3] (.inr (R a 0) :: st) (S, I, R) else none := rn_bc rfl rfl
theorem e_F_chooseSweep_38 : rn Ls xs d 136 38 [l0, l1, l2, l3] (.inr (.inl (some a)) :: st) (S, I, R) = if h_is S a 3 11 then rn Ls xs d 136 41 [l0, l1, l2, l3] (.inr (R a 0) :: st) (S, I, R) else none := rn_bc rfl rfl
theorem e_F_chooseSweep_41 : rn Ls xs d 136 41 [l0, l1, l2, some (.inl x)] st H = rn Ls xs d 136 42 [l0, l1, l2, some (.inl x)] (.inl x :: st) H := rn_nx rfl rfl
theorem e_F_chooseSweep_42 : rn Ls xs d 136 42 [l0, l1, l2, l3] (.inl i :: .inr (.inl (some a)) :: st) (S, I, R) = if h_ia S a 4 i then (match R a i.toNatClampNeg with | .inl o => rn Ls xs d 136 43 [l0, l1, l2, l3] (.inr (.inl o) :: st) (S, I, R) | .inr _ => none) else none := rn_aald rfl
theorem e_F_chooseSweep_43 : rn Ls xs d 136 43 [l0, l1, l2, l3]  st H = rn Ls xs d 136 44 [l0, l1, l2, l3] (.inl 0 :: st) H := rn_nx rfl rfl
theorem e_F_chooseSweep_44 : rn Ls xs d 136 44 [l0, l1, l2, l3] (.inl x :: .inr (.inl (some a)) :: st) (S, I, R) = if h_is S a 7 6 && h_bo x then rn Ls xs d 136 47 [l0, l1, l2, l3] st (S, va_up I a (upd (I a) 5 x), R) else none := rn_bc rfl rfl
theorem e_F_chooseSweep_47 : rn Ls xs d 136 47 [some (.inr u), l1, l2, l3] st H = rn Ls xs d 136 48 [some (.inr u), l1, l2, l3] (.inr u :: st) H := rn_nx rfl rfl
theorem e_F_chooseSweep_48 : rn Ls xs d 136 48 [l0, l1, l2, l3] (.inr (.inl (some a)) :: st) (S, I, R) = if h_is S a 0 5 then rn Ls xs d 136 51 [l0, l1, l2, l3] (.inr (R a 0) :: st) (S, I, R) else none := rn_bc rfl rfl
theorem e_F_chooseSweep_51 : rn Ls xs d 136 51 [l0, l1, some (.inl x), l3] st H = rn Ls xs d 136 52 [l0, l1, some (.inl x), l3] (.inl x :: st) H := rn_nx rfl rfl
theorem e_F_chooseSweep_52 : rn Ls xs (d + 1) 136 52 [l0, l1, l2, l3] [v1, (.inr (.inl (some a)))] (S, I, R) = if h_is S a 3 11 then rb Ls xs (d + 1) 136 55 [l0, l1, l2, l3] [] (rn Ls xs d 119 0 [some (.inr (.inl (some a))), some v1, none] [] (S, I, R)) else none := rn_callO rfl rfl (Nat.le_of_ble_eq_true rfl) rfl rfl
theorem e_F_chooseSweep_55 : rn Ls xs d 136 55 [some (.inr u), l1, l2, l3] st H = rn Ls xs d 136 56 [some (.inr u), l1, l2, l3] (.inr u :: st) H := rn_nx rfl rfl
theorem e_F_chooseSweep_56 : rn Ls xs d 136 56 [l0, l1, l2, some (.inl x)] st H = rn Ls xs d 136 57 [l0, l1, l2, some (.inl x)] (.inl x :: st) H := rn_nx rfl rfl
theorem e_F_chooseSweep_57 : rn Ls xs d 136 57 [some (.inr u), l1, l2, l3] st H = rn Ls xs d 136 58 [some (.inr u), l1, l2, l3] (.inr u :: st) H := rn_nx rfl rfl
theorem e_F_chooseSweep_58 : rn Ls xs d 136 58 [l0, l1, l2, l3] (.inr (.inl (some a)) :: st) (S, I, R) = if h_is S a 0 5 then rn Ls xs d 136 61 [l0, l1, l2, l3] (.inr (R a 0) :: st) (S, I, R) else none := rn_bc rfl rfl
theorem e_F_chooseSweep_61 : rn Ls xs d 136 61 [l0, l1, l2, l3] (.inr (.inl (some a)) :: st) (S, I, R) = if h_is S a 3 11 then rn Ls xs d 136 64 [l0, l1, l2, l3] (.inl (I a 6) :: st) (S, I, R) else none := rn_bc rfl rfl
theorem e_F_chooseSweep_64 : rn Ls xs (d + 1) 136 64 [l0, l1, l2, l3] [v2, v1, (.inr (.inl (some a)))] (S, I, R) = if h_is S a 0 5 then rb Ls xs (d + 1) 136 67 [l0, l1, l2, l3] [] (rn Ls xs d 185 0 [some (.inr (.inl (some a))), some v1, some v2] [] (S, I, R)) else none := rn_callO rfl rfl (Nat.le_of_ble_eq_true rfl) rfl rfl
theorem e_F_chooseSweep_67 : rn Ls xs d 136 67 [l0, l1, l2, some (.inl x)] st H = rn Ls xs d 136 70 [l0, l1, l2, some (.inl (x + 1))] st H := rn_nx rfl rfl
theorem e_F_chooseSweep_70 : rn Ls xs d 136 70 [l0, l1, l2, l3] st H = rn Ls xs d 136 6 [l0, l1, l2, l3] st H := rn_nx rfl rfl
theorem e_F_chooseSweep_73 : rn Ls xs d 136 73 [l0, l1, l2, l3] [] H = some (none, H) := rn_done rfl rfl
theorem e_F_toldOf_0 : rn Ls xs d 137 0 [l0, some (.inl x)] st H = rn Ls xs d 137 1 [l0, some (.inl x)] (.inl x :: st) H := rn_nx rfl rfl
theorem e_F_toldOf_1 : rn Ls xs d 137 1 [l0, l1] (.inl x :: st) H = if x ≠ 0 then rn Ls xs d 137 11 [l0, l1] st H else rn Ls xs d 137 4 [l0, l1] st H := rn_if (p := fun x => x ≠ 0) rfl
theorem e_F_toldOf_4 : rn Ls xs d 137 4 [some (.inr u), l1] st H = rn Ls xs d 137 5 [some (.inr u), l1] (.inr u :: st) H := rn_nx rfl rfl
theorem e_F_toldOf_5 : rn Ls xs d 137 5 [l0, l1] (.inr (.inl (some a)) :: st) (S, I, R) = if h_is S a 0 5 then rn Ls xs d 137 8 [l0, l1] (.inl (I a 3) :: st) (S, I, R) else none := rn_bc rfl rfl
theorem e_F_toldOf_8 : rn Ls xs d 137 8 [l0, l1] st H = rn Ls xs d 137 15 [l0, l1] st H := rn_nx rfl rfl
theorem e_F_toldOf_11 : rn Ls xs d 137 11 [some (.inr u), l1] st H = rn Ls xs d 137 12 [some (.inr u), l1] (.inr u :: st) H := rn_nx rfl rfl
theorem e_F_toldOf_12 : rn Ls xs d 137 12 [l0, l1] (.inr (.inl (some a)) :: st) (S, I, R) = if h_is S a 0 5 then rn Ls xs d 137 15 [l0, l1] (.inl (I a 4) :: st) (S, I, R) else none := rn_bc rfl rfl
theorem e_F_toldOf_15 : rn Ls xs d 137 15 [l0, l1] [.inl x] H = some (some (.inl x), H) := rn_done rfl rfl
theorem e_M_brokenBehind_0 : rn Ls xs d 138 0 [some (.inr u), l1, l2] st H = rn Ls xs d 138 1 [some (.inr u), l1, l2] (.inr u :: st) H := rn_nx rfl rfl
theorem e_M_brokenBehind_1 : rn Ls xs d 138 1 [l0, some (.inl x), l2] st H = rn Ls xs d 138 2 [l0, some (.inl x), l2] (.inl x :: st) H := rn_nx rfl rfl
theorem e_M_brokenBehind_2 : rn Ls xs (d + 1) 138 2 [l0, l1, l2] [v1, (.inr (.inl (some a)))] (S, I, R) = if h_is S a 9 36 then rb Ls xs (d + 1) 138 5 [l0, l1, l2] [] (rn Ls xs d 121 0 [some (.inr (.inl (some a))), some v1, none] [] (S, I, R)) else none := rn_callO rfl rfl (Nat.le_of_ble_eq_true rfl) rfl rfl
theorem e_M_brokenBehind_5 : rn Ls xs d 138 5 [some (.inr u), l1, l2] st H = rn Ls xs d 138 6 [some (.inr u), l1, l2] (.inr u :: st) H := rn_nx rfl rfl
theorem e_M_brokenBehind_6 : rn Ls xs d 138 6 [l0, l1, l2] (.inr (.inl (some a)) :: st) (S, I, R) = if h_is S a 9 36 then rn Ls xs d 138 9 [l0, l1, l2] (.inr (R a 0) :: st) (S, I, R) else none := rn_bc rfl rfl
theorem e_M_brokenBehind_9 : rn Ls xs d 138 9 [l0, l1, l2]  st H = rn Ls xs d 138 10 [l0, l1, l2] (.inl 4 :: st) H := rn_nx rfl rfl
theorem e_M_brokenBehind_10 : rn Ls xs d 138 10 [l0, l1, l2] (.inl i :: .inr (.inl (some a)) :: st) (S, I, R) = if h_ia S a 0 i then rn Ls xs d 138 11 [l0, l1, l2] (.inl (I a i.toNatClampNeg) :: st) (S, I, R) else none := rn_bc rfl rfl
theorem e_M_brokenBehind_11 : rn Ls xs d 138 11 [l0, l1, l2] (.inl x :: st) H = rn Ls xs d 138 12 [l0, l1, some (.inl x)] st H := rn_nx rfl rfl
theorem e_M_brokenBehind_12 : rn Ls xs d 138 12 [some (.inr u), l1, l2] st H = rn Ls xs d 138 13 [some (.inr u), l1, l2] (.inr u :: st) H := rn_nx rfl rfl
theorem e_M_brokenBehind_13 : rn Ls xs (d + 1) 138 13 [l0, l1, l2] [(.inr (.inl (some a)))] (S, I, R) = if h_is S a 9 36 then rb Ls xs (d + 1) 138 16 [l0, l1, l2] [] (rn Ls xs d 129 0 [some (.inr (.inl (some a))), none] [] (S, I, R)) else none := rn_callO rfl rfl (Nat.le_of_ble_eq_true rfl) rfl rfl
theorem e_M_brokenBehind_16 : rn Ls xs d 138 16 [l0, l1, some (.inl x)] st H = rn Ls xs d 138 17 [l0, l1, some (.inl x)] (.inl x :: st) H := rn_nx rfl rfl
theorem e_M_brokenBehind_17 : rn Ls xs d 138 17 [l0, l1, l2] [.inl x] H = some (some (.inl x), H) := rn_done rfl rfl
theorem e_F_choosePace_0 : rn Ls xs d 139 0 [some (.inr u), l1, l2, l3, l4] st H = rn Ls xs d 139 1 [some (.inr u), l1, l2, l3, l4] (.inr u :: st) H := rn_nx rfl rfl
theorem e_F_choosePace_1 : rn Ls xs (d + 1) 139 1 [l0, l1, l2, l3, l4] [(.inr (.inl (some a)))] (S, I, R) = if h_is S a 0 5 then rb Ls xs (d + 1) 139 4 [l0, l1, l2, l3, l4] [] (rn Ls xs d 184 0 [some (.inr (.inl (some a)))] [] (S, I, R)) else none := rn_callO rfl rfl (Nat.le_of_ble_eq_true rfl) rfl rfl
theorem e_F_choosePace_4 : rn Ls xs d 139 4 [l0, l1, l2, l3, l4]  st H = rn Ls xs d 139 6 [l0, l1, l2, l3, l4] (.inl (-9) :: st) H := rn_nx rfl rfl
theorem e_F_choosePace_6 : rn Ls xs d 139 6 [l0, l1, l2, l3, l4] (.inl x :: st) H = rn Ls xs d 139 8 [l0, l1, l2, l3, some (.inl x)] st H := rn_nx rfl rfl
theorem e_F_choosePace_8 : rn Ls xs d 139 8 [l0, l1, l2, l3, some (.inl x)] st H = rn Ls xs d 139 10 [l0, l1, l2, l3, some (.inl x)] (.inl x :: st) H := rn_nx rfl rfl
theorem e_F_choosePace_10 : rn Ls xs d 139 10 [l0, l1, l2, l3, l4]  st H = rn Ls xs d 139 12 [l0, l1, l2, l3, l4] (.inl 9 :: st) H := rn_nx rfl rfl
theorem e_F_choosePace_12 : rn Ls xs d 139 12 [l0, l1, l2, l3, l4] (.inl y :: .inl x :: st) H = if y < x then rn Ls xs d 139 64 [l0, l1, l2, l3, l4] st H else rn Ls xs d 139 15 [l0, l1, l2, l3, l4] st H := rn_cmp (p := fun x y => y < x) rfl
theorem e_F_choosePace_15 : rn Ls xs d 139 15 [some (.inr u), l1, l2, l3, l4] st H = rn Ls xs d 139 16 [some (.inr u), l1, l2, l3, l4] (.inr u :: st) H := rn_nx rfl rfl
theorem e_F_choosePace_16 : rn Ls xs d 139 16 [l0, l1, l2, l3, l4] (.inr (.inl (some a)) :: st) (S, I, R) = if h_is S a 0 5 then rn Ls xs d 139 19 [l0, l1, l2, l3, l4] (.inr (R a 0) :: st) (S, I, R) else none := rn_bc rfl rfl
theorem e_F_choosePace_19 : rn Ls xs d 139 19 [l0, some (.inr u), l2, l3, l4] st H = rn Ls xs d 139 20 [l0, some (.inr u), l2, l3, l4] (.inr u :: st) H := rn_nx rfl rfl
theorem e_F_choosePace_20 : rn Ls xs (d + 1) 139 20 [l0, l1, l2, l3, l4] [v1, (.inr (.inl (some a)))] (S, I, R) = if h_is S a 3 11 then rb Ls xs (d + 1) 139 23 [l0, l1, l2, l3, l4] [] (rn Ls xs d 172 0 [some (.inr (.inl (some a))), some v1, none] [] (S, I, R)) else none := rn_callO rfl rfl (Nat.le_of_ble_eq_true rfl) rfl rfl
theorem e_F_choosePace_23 : rn Ls xs d 139 23 [some (.inr u), l1, l2, l3, l4] st H = rn Ls xs d 139 24 [some (.inr u), l1, l2, l3, l4] (.inr u :: st) H := rn_nx rfl rfl
theorem e_F_choosePace_24 : rn Ls xs d 139 24 [l0, l1, l2, l3, l4] (.inr (.inl (some a)) :: st) (S, I, R) = if h_is S a 0 5 then rn Ls xs d 139 27 [l0, l1, l2, l3, l4] (.inr (R a 0) :: st) (S, I, R) else none := rn_bc rfl rfl
theorem e_F_choosePace_27 : rn Ls xs d 139 27 [l0, l1, l2, l3, l4] (.inr (.inl (some a)) :: st) (S, I, R) = if h_is S a 3 11 then rn Ls xs d 139 30 [l0, l1, l2, l3, l4] (.inr (R a 0) :: st) (S, I, R) else none := rn_bc rfl rfl
theorem e_F_choosePace_30 : rn Ls xs d 139 30 [l0, l1, some (.inl x), l3, l4] st H = rn Ls xs d 139 31 [l0, l1, some (.inl x), l3, l4] (.inl x :: st) H := rn_nx rfl rfl
theorem e_F_choosePace_31 : rn Ls xs d 139 31 [l0, l1, l2, l3, l4] (.inl i :: .inr (.inl (some a)) :: st) (S, I, R) = if h_ia S a 4 i then (match R a i.toNatClampNeg with | .inl o => rn Ls xs d 139 32 [l0, l1, l2, l3, l4] (.inr (.inl o) :: st) (S, I, R) | .inr _ => none) else none := rn_aald rfl
theorem e_F_choosePace_32 : rn Ls xs d 139 32 [l0, l1, l2, l3, some (.inl x)] st H = rn Ls xs d 139 34 [l0, l1, l2, l3, some (.inl x)] (.inl x :: st) H := rn_nx rfl rfl
theorem e_F_choosePace_34 : rn Ls xs d 139 34 [l0, l1, l2, l3, l4] (.inl x :: .inr (.inl (some a)) :: st) (S, I, R) = if h_is S a 7 6 then rn Ls xs d 139 37 [l0, l1, l2, l3, l4] st (S, va_up I a (upd (I a) 3 x), R) else none := rn_bc rfl rfl
theorem e_F_choosePace_37 : rn Ls xs d 139 37 [some (.inr u), l1, l2, l3, l4] st H = rn Ls xs d 139 38 [some (.inr u), l1, l2, l3, l4] (.inr u :: st) H := rn_nx rfl rfl
theorem e_F_choosePace_38 : rn Ls xs d 139 38 [l0, l1, l2, l3, l4] (.inr (.inl (some a)) :: st) (S, I, R) = if h_is S a 0 5 then rn Ls xs d 139 41 [l0, l1, l2, l3, l4] (.inr (R a 0) :: st) (S, I, R) else none := rn_bc rfl rfl
theorem e_F_choosePace_41 : rn Ls xs d 139 41 [l0, l1, l2, some (.inl x), l4] st H = rn Ls xs d 139 42 [l0, l1, l2, some (.inl x), l4] (.inl x :: st) H := rn_nx rfl rfl
theorem e_F_choosePace_42 : rn Ls xs (d + 1) 139 42 [l0, l1, l2, l3, l4] [v1, (.inr (.inl (some a)))] (S, I, R) = if h_is S a 3 11 then rb Ls xs (d + 1) 139 45 [l0, l1, l2, l3, l4] [] (rn Ls xs d 119 0 [some (.inr (.inl (some a))), some v1, none] [] (S, I, R)) else none := rn_callO rfl rfl (Nat.le_of_ble_eq_true rfl) rfl rfl
theorem e_F_choosePace_45 : rn Ls xs d 139 45 [some (.inr u), l1, l2, l3, l4] st H = rn Ls xs d 139 46 [some (.inr u), l1, l2, l3, l4] (.inr u :: st) H := rn_nx rfl rfl
theorem e_F_choosePace_46 : rn Ls xs d 139 46 [l0, l1, l2, l3, some (.inl x)] st H = rn Ls xs d 139 48 [l0, l1, l2, l3, some (.inl x)] (.inl x :: st) H := rn_nx rfl rfl
theorem e_F_choosePace_48 : rn Ls xs d 139 48 [some (.inr u), l1, l2, l3, l4] st H = rn Ls xs d 139 49 [some (.inr u), l1, l2, l3, l4] (.inr u :: st) H := rn_nx rfl rfl
theorem e_F_choosePace_49 : rn Ls xs d 139 49 [l0, l1, l2, l3, l4] (.inr (.inl (some a)) :: st) (S, I, R) = if h_is S a 0 5 then rn Ls xs d 139 52 [l0, l1, l2, l3, l4] (.inr (R a 0) :: st) (S, I, R) else none := rn_bc rfl rfl
theorem e_F_choosePace_52 : rn Ls xs d 139 52 [l0, l1, l2, l3, l4] (.inr (.inl (some a)) :: st) (S, I, R) = if h_is S a 3 11 then rn Ls xs d 139 55 [l0, l1, l2, l3, l4] (.inl (I a 6) :: st) (S, I, R) else none := rn_bc rfl rfl
theorem e_F_choosePace_55 : rn Ls xs (d + 1) 139 55 [l0, l1, l2, l3, l4] [v2, v1, (.inr (.inl (some a)))] (S, I, R) = if h_is S a 0 5 then rb Ls xs (d + 1) 139 58 [l0, l1, l2, l3, l4] [] (rn Ls xs d 185 0 [some (.inr (.inl (some a))), some v1, some v2] [] (S, I, R)) else none := rn_callO rfl rfl (Nat.le_of_ble_eq_true rfl) rfl rfl
theorem e_F_choosePace_58 : rn Ls xs d 139 58 [l0, l1, l2, l3, some (.inl x)] st H = rn Ls xs d 139 61 [l0, l1, l2, l3, some (.inl (x + 1))] st H := rn_nx rfl rfl
theorem e_F_choosePace_61 : rn Ls xs d 139 61 [l0, l1, l2, l3, l4] st H = rn Ls xs d 139 8 [l0, l1, l2, l3, l4] st H := rn_nx rfl rfl
theorem e_F_choosePace_64 : rn Ls xs d 139 64 [l0, l1, l2, l3, l4] [] H = some (none, H) := rn_done rfl rfl
theorem e_F_choosePlaceUnder_0 : rn Ls xs d 140 0 [some (.inr u), l1, l2, l3, l4, l5] st H = rn Ls xs d 140 1 [some (.inr u), l1, l2, l3, l4, l5] (.inr u :: st) H := rn_nx rfl rfl
theorem e_F_choosePlaceUnder_1 : rn Ls xs d 140 1 [l0, l1, l2, l3, l4, l5] (.inr (.inl (some a)) :: st) (S, I, R) = if h_is S a 0 5 then rn Ls xs d 140 4 [l0, l1, l2, l3, l4, l5] (.inr (R a 0) :: st) (S, I, R) else none := rn_bc rfl rfl
theorem e_F_choosePlaceUnder_4 : rn Ls xs d 140 4 [l0, some (.inr u), l2, l3, l4, l5] st H = rn Ls xs d 140 5 [l0, some (.inr u), l2, l3, l4, l5] (.inr u :: st) H := rn_nx rfl rfl
theorem e_F_choosePlaceUnder_5 : rn Ls xs (d + 1) 140 5 [l0, l1, l2, l3, l4, l5] [v1, (.inr (.inl (some a)))] (S, I, R) = if h_is S a 3 11 then rb Ls xs (d + 1) 140 8 [l0, l1, l2, l3, l4, l5] [] (rn Ls xs d 172 0 [some (.inr (.inl (some a))), some v1, none] [] (S, I, R)) else none := rn_callO rfl rfl (Nat.le_of_ble_eq_true rfl) rfl rfl
theorem e_F_choosePlaceUnder_8 : rn Ls xs d 140 8 [some (.inr u), l1, l2, l3, l4, l5] st H = rn Ls xs d 140 9 [some (.inr u), l1, l2, l3, l4, l5] (.inr u :: st) H := rn_nx rfl rfl
theorem e_F_choosePlaceUnder_9 : rn Ls xs d 140 9 [l0, l1, l2, l3, l4, l5] (.inr (.inl (some a)) :: st) (S, I, R) = if h_is S a 0 5 then rn Ls xs d 140 12 [l0, l1, l2, l3, l4, l5] (.inr (R a 2) :: st) (S, I, R) else none := rn_bc rfl rfl
theorem e_F_choosePlaceUnder_12 : rn Ls xs d 140 12 [l0, l1, l2, l3, l4, l5]  st H = rn Ls xs d 140 13 [l0, l1, l2, l3, l4, l5] (.inl 0 :: st) H := rn_nx rfl rfl
theorem e_F_choosePlaceUnder_13 : rn Ls xs (d + 1) 140 13 [l0, l1, l2, l3, l4, l5] [v1, v0] H = rb Ls xs (d + 1) 140 16 [l0, l1, l2, l3, l4, l5] [] (rn Ls xs d 182 0 [some v0, some v1, none, none] [] H) := rn_call rfl (Nat.le_of_ble_eq_true rfl) (Nat.le_of_ble_eq_true rfl) rfl rfl
theorem e_F_choosePlaceUnder_16 : rn Ls xs d 140 16 [l0, l1, l2, l3, l4, l5]  st H = rn Ls xs d 140 17 [l0, l1, l2, l3, l4, l5] (.inl 0 :: st) H := rn_nx rfl rfl
theorem e_F_choosePlaceUnder_17 : rn Ls xs d 140 17 [l0, l1, l2, l3, l4, l5] (.inl x :: st) H = rn Ls xs d 140 18 [l0, l1, l2, some (.inl x), l4, l5] st H := rn_nx rfl rfl
theorem e_F_choosePlaceUnder_18 : rn Ls xs d 140 18 [l0, l1, l2, some (.inl x), l4, l5] st H = rn Ls xs d 140 19 [l0, l1, l2, some (.inl x), l4, l5] (.inl x :: st) H := rn_nx rfl rfl
theorem e_F_choosePlaceUnder_19 : rn Ls xs d 140 19 [l0, l1, some (.inl x), l3, l4, l5] st H = rn Ls xs d 140 20 [l0, l1, some (.inl x), l3, l4, l5] (.inl x :: st) H := rn_nx rfl rfl
theorem e_F_choosePlaceUnder_20 : rn Ls xs d 140 20 [l0, l1, l2, l3, l4, l5] (.inl y :: .inl x :: st) H = if y ≤ x then rn Ls xs d 140 79 [l0, l1, l2, l3, l4, l5] st H else rn Ls xs d 140 23 [l0, l1, l2, l3, l4, l5] st H := rn_cmp (p := fun x y => y ≤ x) rfl
theorem e_F_choosePlaceUnder_23 : rn Ls xs d 140 23 [some (.inr u), l1, l2, l3, l4, l5] st H = rn Ls xs d 140 24 [some (.inr u), l1, l2, l3, l4, l5] (.inr u :: st) H := rn_nx rfl rfl
theorem e_F_choosePlaceUnder_24 : rn Ls xs d 140 24 [l0, l1, l2, l3, l4, l5] (.inr (.inl (some a)) :: st) (S, I, R) = if h_is S a 0 5 then rn Ls xs d 140 27 [l0, l1, l2, l3, l4, l5] (.inr (R a 0) :: st) (S, I, R) else none := rn_bc rfl rfl
theorem e_F_choosePlaceUnder_27 : rn Ls xs d 140 27 [l0, l1, l2, l3, l4, l5]  st H = rn Ls xs d 140 28 [l0, l1, l2, l3, l4, l5] (.inl 1 :: st) H := rn_nx rfl rfl
theorem e_F_choosePlaceUnder_28 : rn Ls xs (d + 1) 140 28 [l0, l1, l2, l3, l4, l5] [v1, (.inr (.inl (some a)))] (S, I, R) = if h_is S a 3 11 then rb Ls xs (d + 1) 140 31 [l0, l1, l2, l3, l4, l5] [] (rn Ls xs d 119 0 [some (.inr (.inl (some a))), some v1, none] [] (S, I, R)) else none := rn_callO rfl rfl (Nat.le_of_ble_eq_true rfl) rfl rfl
theorem e_F_choosePlaceUnder_31 : rn Ls xs d 140 31 [some (.inr u), l1, l2, l3, l4, l5] st H = rn Ls xs d 140 32 [some (.inr u), l1, l2, l3, l4, l5] (.inr u :: st) H := rn_nx rfl rfl
theorem e_F_choosePlaceUnder_32 : rn Ls xs d 140 32 [l0, l1, l2, l3, l4, l5] (.inr (.inl (some a)) :: st) (S, I, R) = if h_is S a 0 5 then rn Ls xs d 140 35 [l0, l1, l2, l3, l4, l5] (.inr (R a 0) :: st) (S, I, R) else none := rn_bc rfl rfl
theorem e_F_choosePlaceUnder_35 : rn Ls xs (d + 1) 140 35 [l0, l1, l2, l3, l4, l5] [(.inr (.inl (some a)))] (S, I, R) = if h_is S a 3 11 then rb Ls xs (d + 1) 140 38 [l0, l1, l2, l3, l4, l5] [] (rn Ls xs d 186 0 [some (.inr (.inl (some a))), none, none] [] (S, I, R)) else none := rn_callO rfl rfl (Nat.le_of_ble_eq_true rfl) rfl rfl
theorem e_F_choosePlaceUnder_38 : rn Ls xs d 140 38 [l0, l1, l2, l3, l4, l5] (.inl x :: st) H = rn Ls xs d 140 40 [l0, l1, l2, l3, some (.inl x), l5] st H := rn_nx rfl rfl
theorem e_F_choosePlaceUnder_40 : rn Ls xs d 140 40 [l0, l1, l2, l3, l4, l5]  st H = rn Ls xs d 140 41 [l0, l1, l2, l3, l4, l5] (.inl 0 :: st) H := rn_nx rfl rfl
theorem e_F_choosePlaceUnder_41 : rn Ls xs d 140 41 [l0, l1, l2, l3, l4, l5] (.inl x :: st) H = rn Ls xs d 140 43 [l0, l1, l2, l3, l4, some (.inl x)] st H := rn_nx rfl rfl
theorem e_F_choosePlaceUnder_43 : rn Ls xs d 140 43 [l0, l1, l2, l3, l4, some (.inl x)] st H = rn Ls xs d 140 45 [l0, l1, l2, l3, l4, some (.inl x)] (.inl x :: st) H := rn_nx rfl rfl
theorem e_F_choosePlaceUnder_45 : rn Ls xs d 140 45 [l0, l1, l2, l3, l4, l5]  st H = rn Ls xs d 140 47 [l0, l1, l2, l3, l4, l5] (.inl 30 :: st) H := rn_nx rfl rfl
theorem e_F_choosePlaceUnder_47 : rn Ls xs d 140 47 [l0, l1, l2, l3, l4, l5] (.inl y :: .inl x :: st) H = if y ≤ x then rn Ls xs d 140 73 [l0, l1, l2, l3, l4, l5] st H else rn Ls xs d 140 50 [l0, l1, l2, l3, l4, l5] st H := rn_cmp (p := fun x y => y ≤ x) rfl
theorem e_F_choosePlaceUnder_50 : rn Ls xs d 140 50 [some (.inr u), l1, l2, l3, l4, l5] st H = rn Ls xs d 140 51 [some (.inr u), l1, l2, l3, l4, l5] (.inr u :: st) H := rn_nx rfl rfl
theorem e_F_choosePlaceUnder_51 : rn Ls xs d 140 51 [l0, l1, l2, l3, l4, l5] (.inr (.inl (some a)) :: st) (S, I, R) = if h_is S a 0 5 then rn Ls xs d 140 54 [l0, l1, l2, l3, l4, l5] (.inr (R a 2) :: st) (S, I, R) else none := rn_bc rfl rfl
theorem e_F_choosePlaceUnder_54 : rn Ls xs d 140 54 [l0, l1, l2, l3, l4, some (.inl x)] st H = rn Ls xs d 140 56 [l0, l1, l2, l3, l4, some (.inl x)] (.inl x :: st) H := rn_nx rfl rfl
theorem e_F_choosePlaceUnder_56 : rn Ls xs d 140 56 [l0, l1, l2, l3, l4, l5] (v :: w :: st) H = rn Ls xs d 140 57 [l0, l1, l2, l3, l4, l5] (v :: w :: v :: w :: st) H := rn_nx rfl rfl
theorem e_F_choosePlaceUnder_57 : rn Ls xs d 140 57 [l0, l1, l2, l3, l4, l5] (.inl i :: .inr (.inl (some a)) :: st) (S, I, R) = if h_ia S a 0 i then rn Ls xs d 140 58 [l0, l1, l2, l3, l4, l5] (.inl (I a i.toNatClampNeg) :: st) (S, I, R) else none := rn_bc rfl rfl
theorem e_F_choosePlaceUnder_58 : rn Ls xs d 140 58 [l0, l1, l2, l3, some (.inl x), l5] st H = rn Ls xs d 140 60 [l0, l1, l2, l3, some (.inl x), l5] (.inl x :: st) H := rn_nx rfl rfl
theorem e_F_choosePlaceUnder_60 : rn Ls xs d 140 60 [l0, l1, l2, l3, l4, some (.inl x)] st H = rn Ls xs d 140 62 [l0, l1, l2, l3, l4, some (.inl x)] (.inl x :: st) H := rn_nx rfl rfl
theorem e_F_choosePlaceUnder_62 : rn Ls xs d 140 62 [l0, l1, l2, l3, l4, l5] (.inl y :: .inl x :: st) H = rn Ls xs d 140 63 [l0, l1, l2, l3, l4, l5] (.inl (x >>> (y &&& 31)) :: st) H := rn_nx rfl rfl
theorem e_F_choosePlaceUnder_63 : rn Ls xs d 140 63 [l0, l1, l2, l3, l4, l5]  st H = rn Ls xs d 140 64 [l0, l1, l2, l3, l4, l5] (.inl 1 :: st) H := rn_nx rfl rfl
theorem e_F_choosePlaceUnder_64 : rn Ls xs d 140 64 [l0, l1, l2, l3, l4, l5] (.inl y :: .inl x :: st) H = rn Ls xs d 140 65 [l0, l1, l2, l3, l4, l5] (.inl (x &&& y) :: st) H := rn_nx rfl rfl
theorem e_F_choosePlaceUnder_65 : rn Ls xs d 140 65 [l0, l1, l2, l3, l4, l5] (.inl y :: .inl x :: st) H = rn Ls xs d 140 66 [l0, l1, l2, l3, l4, l5] (.inl (x + y) :: st) H := rn_nx rfl rfl
theorem e_F_choosePlaceUnder_66 : rn Ls xs d 140 66 [l0, l1, l2, l3, l4, l5] (.inl x :: .inl i :: .inr (.inl (some a)) :: st) (S, I, R) = if h_ia S a 0 i then rn Ls xs d 140 67 [l0, l1, l2, l3, l4, l5] st (S, va_up I a (upd (I a) i.toNatClampNeg x), R) else none := rn_bc rfl rfl
theorem e_F_choosePlaceUnder_67 : rn Ls xs d 140 67 [l0, l1, l2, l3, l4, some (.inl x)] st H = rn Ls xs d 140 70 [l0, l1, l2, l3, l4, some (.inl (x + 1))] st H := rn_nx rfl rfl
theorem e_F_choosePlaceUnder_70 : rn Ls xs d 140 70 [l0, l1, l2, l3, l4, l5] st H = rn Ls xs d 140 43 [l0, l1, l2, l3, l4, l5] st H := rn_nx rfl rfl
theorem e_F_choosePlaceUnder_73 : rn Ls xs d 140 73 [l0, l1, l2, some (.inl x), l4, l5] st H = rn Ls xs d 140 76 [l0, l1, l2, some (.inl (x + 1)), l4, l5] st H := rn_nx rfl rfl
theorem e_F_choosePlaceUnder_76 : rn Ls xs d 140 76 [l0, l1, l2, l3, l4, l5] st H = rn Ls xs d 140 18 [l0, l1, l2, l3, l4, l5] st H := rn_nx rfl rfl
theorem e_F_choosePlaceUnder_79 : rn Ls xs d 140 79 [some (.inr u), l1, l2, l3, l4, l5] st H = rn Ls xs d 140 80 [some (.inr u), l1, l2, l3, l4, l5] (.inr u :: st) H := rn_nx rfl rfl
theorem e_F_choosePlaceUnder_80 : rn Ls xs d 140 80 [l0, l1, l2, l3, l4, l5]  st H = rn Ls xs d 140 81 [l0, l1, l2, l3, l4, l5] (.inl 0 :: st) H := rn_nx rfl rfl
theorem e_F_choosePlaceUnder_81 : rn Ls xs d 140 81 [l0, l1, l2, l3, l4, l5] (.inl x :: .inr (.inl (some a)) :: st) (S, I, R) = if h_is S a 0 5 then rn Ls xs d 140 84 [l0, l1, l2, l3, l4, l5] st (S, va_up I a (upd (I a) 3 x), R) else none := rn_bc rfl rfl
theorem e_F_choosePlaceUnder_84 : rn Ls xs d 140 84 [l0, l1, l2, l3, l4, l5]  st H = rn Ls xs d 140 85 [l0, l1, l2, l3, l4, l5] (.inl 1 :: st) H := rn_nx rfl rfl
theorem e_F_choosePlaceUnder_85 : rn Ls xs d 140 85 [l0, l1, l2, l3, l4, l5] (.inl x :: st) H = rn Ls xs d 140 86 [l0, l1, l2, some (.inl x), l4, l5] st H := rn_nx rfl rfl
theorem e_F_choosePlaceUnder_86 : rn Ls xs d 140 86 [l0, l1, l2, some (.inl x), l4, l5] st H = rn Ls xs d 140 87 [l0, l1, l2, some (.inl x), l4, l5] (.inl x :: st) H := rn_nx rfl rfl
theorem e_F_choosePlaceUnder_87 : rn Ls xs d 140 87 [l0, l1, l2, l3, l4, l5]  st H = rn Ls xs d 140 89 [l0, l1, l2, l3, l4, l5] (.inl 30 :: st) H := rn_nx rfl rfl
theorem e_F_choosePlaceUnder_89 : rn Ls xs d 140 89 [l0, l1, l2, l3, l4, l5] (.inl y :: .inl x :: st) H = if y ≤ x then rn Ls xs d 140 128 [l0, l1, l2, l3, l4, l5] st H else rn Ls xs d 140 92 [l0, l1, l2, l3, l4, l5] st H := rn_cmp (p := fun x y => y ≤ x) rfl
theorem e_F_choosePlaceUnder_92 : rn Ls xs d 140 92 [some (.inr u), l1, l2, l3, l4, l5] st H = rn Ls xs d 140 93 [some (.inr u), l1, l2, l3, l4, l5] (.inr u :: st) H := rn_nx rfl rfl
theorem e_F_choosePlaceUnder_93 : rn Ls xs d 140 93 [some (.inr u), l1, l2, l3, l4, l5] st H = rn Ls xs d 140 94 [some (.inr u), l1, l2, l3, l4, l5] (.inr u :: st) H := rn_nx rfl rfl
theorem e_F_choosePlaceUnder_94 : rn Ls xs d 140 94 [l0, l1, l2, l3, l4, l5] (.inr (.inl (some a)) :: st) (S, I, R) = if h_is S a 0 5 then rn Ls xs d 140 97 [l0, l1, l2, l3, l4, l5] (.inr (R a 2) :: st) (S, I, R) else none := rn_bc rfl rfl
theorem e_F_choosePlaceUnder_97 : rn Ls xs d 140 97 [l0, l1, l2, some (.inl x), l4, l5] st H = rn Ls xs d 140 98 [l0, l1, l2, some (.inl x), l4, l5] (.inl x :: st) H := rn_nx rfl rfl
theorem e_F_choosePlaceUnder_98 : rn Ls xs d 140 98 [l0, l1, l2, l3, l4, l5] (.inl i :: .inr (.inl (some a)) :: st) (S, I, R) = if h_ia S a 0 i then rn Ls xs d 140 99 [l0, l1, l2, l3, l4, l5] (.inl (I a i.toNatClampNeg) :: st) (S, I, R) else none := rn_bc rfl rfl
theorem e_F_choosePlaceUnder_99 : rn Ls xs d 140 99 [some (.inr u), l1, l2, l3, l4, l5] st H = rn Ls xs d 140 100 [some (.inr u), l1, l2, l3, l4, l5] (.inr u :: st) H := rn_nx rfl rfl
theorem e_F_choosePlaceUnder_100 : rn Ls xs d 140 100 [l0, l1, l2, l3, l4, l5] (.inr (.inl (some a)) :: st) (S, I, R) = if h_is S a 0 5 then rn Ls xs d 140 103 [l0, l1, l2, l3, l4, l5] (.inr (R a 2) :: st) (S, I, R) else none := rn_bc rfl rfl
theorem e_F_choosePlaceUnder_103 : rn Ls xs d 140 103 [some (.inr u), l1, l2, l3, l4, l5] st H = rn Ls xs d 140 104 [some (.inr u), l1, l2, l3, l4, l5] (.inr u :: st) H := rn_nx rfl rfl
theorem e_F_choosePlaceUnder_104 : rn Ls xs d 140 104 [l0, l1, l2, l3, l4, l5] (.inr (.inl (some a)) :: st) (S, I, R) = if h_is S a 0 5 then rn Ls xs d 140 107 [l0, l1, l2, l3, l4, l5] (.inl (I a 3) :: st) (S, I, R) else none := rn_bc rfl rfl
theorem e_F_choosePlaceUnder_107 : rn Ls xs d 140 107 [l0, l1, l2, l3, l4, l5] (.inl i :: .inr (.inl (some a)) :: st) (S, I, R) = if h_ia S a 0 i then rn Ls xs d 140 108 [l0, l1, l2, l3, l4, l5] (.inl (I a i.toNatClampNeg) :: st) (S, I, R) else none := rn_bc rfl rfl
theorem e_F_choosePlaceUnder_108 : rn Ls xs d 140 108 [l0, l1, l2, l3, l4, l5] (.inl y :: .inl x :: st) H = if x ≤ y then rn Ls xs d 140 115 [l0, l1, l2, l3, l4, l5] st H else rn Ls xs d 140 111 [l0, l1, l2, l3, l4, l5] st H := rn_cmp (p := fun x y => x ≤ y) rfl
theorem e_F_choosePlaceUnder_111 : rn Ls xs d 140 111 [l0, l1, l2, some (.inl x), l4, l5] st H = rn Ls xs d 140 112 [l0, l1, l2, some (.inl x), l4, l5] (.inl x :: st) H := rn_nx rfl rfl
theorem e_F_choosePlaceUnder_112 : rn Ls xs d 140 112 [l0, l1, l2, l3, l4, l5] st H = rn Ls xs d 140 119 [l0, l1, l2, l3, l4, l5] st H := rn_nx rfl rfl
theorem e_F_choosePlaceUnder_115 : rn Ls xs d 140 115 [some (.inr u), l1, l2, l3, l4, l5] st H = rn Ls xs d 140 116 [some (.inr u), l1, l2, l3, l4, l5] (.inr u :: st) H := rn_nx rfl rfl
theorem e_F_choosePlaceUnder_116 : rn Ls xs d 140 116 [l0, l1, l2, l3, l4, l5] (.inr (.inl (some a)) :: st) (S, I, R) = if h_is S a 0 5 then rn Ls xs d 140 119 [l0, l1, l2, l3, l4, l5] (.inl (I a 3) :: st) (S, I, R) else none := rn_bc rfl rfl
theorem e_F_choosePlaceUnder_119 : rn Ls xs d 140 119 [l0, l1, l2, l3, l4, l5] (.inl x :: .inr (.inl (some a)) :: st) (S, I, R) = if h_is S a 0 5 then rn Ls xs d 140 122 [l0, l1, l2, l3, l4, l5] st (S, va_up I a (upd (I a) 3 x), R) else none := rn_bc rfl rfl
theorem e_F_choosePlaceUnder_122 : rn Ls xs d 140 122 [l0, l1, l2, some (.inl x), l4, l5] st H = rn Ls xs d 140 125 [l0, l1, l2, some (.inl (x + 1)), l4, l5] st H := rn_nx rfl rfl
theorem e_F_choosePlaceUnder_125 : rn Ls xs d 140 125 [l0, l1, l2, l3, l4, l5] st H = rn Ls xs d 140 86 [l0, l1, l2, l3, l4, l5] st H := rn_nx rfl rfl
theorem e_F_choosePlaceUnder_128 : rn Ls xs d 140 128 [some (.inr u), l1, l2, l3, l4, l5] st H = rn Ls xs d 140 129 [some (.inr u), l1, l2, l3, l4, l5] (.inr u :: st) H := rn_nx rfl rfl
theorem e_F_choosePlaceUnder_129 : rn Ls xs d 140 129 [some (.inr u), l1, l2, l3, l4, l5] st H = rn Ls xs d 140 130 [some (.inr u), l1, l2, l3, l4, l5] (.inr u :: st) H := rn_nx rfl rfl
theorem e_F_choosePlaceUnder_130 : rn Ls xs d 140 130 [l0, l1, l2, l3, l4, l5] (.inr (.inl (some a)) :: st) (S, I, R) = if h_is S a 0 5 then rn Ls xs d 140 133 [l0, l1, l2, l3, l4, l5] (.inr (R a 2) :: st) (S, I, R) else none := rn_bc rfl rfl
theorem e_F_choosePlaceUnder_133 : rn Ls xs d 140 133 [some (.inr u), l1, l2, l3, l4, l5] st H = rn Ls xs d 140 134 [some (.inr u), l1, l2, l3, l4, l5] (.inr u :: st) H := rn_nx rfl rfl
theorem e_F_choosePlaceUnder_134 : rn Ls xs d 140 134 [l0, l1, l2, l3, l4, l5] (.inr (.inl (some a)) :: st) (S, I, R) = if h_is S a 0 5 then rn Ls xs d 140 137 [l0, l1, l2, l3, l4, l5] (.inl (I a 3) :: st) (S, I, R) else none := rn_bc rfl rfl
theorem e_F_choosePlaceUnder_137 : rn Ls xs d 140 137 [l0, l1, l2, l3, l4, l5] (.inl i :: .inr (.inl (some a)) :: st) (S, I, R) = if h_ia S a 0 i then rn Ls xs d 140 138 [l0, l1, l2, l3, l4, l5] (.inl (I a i.toNatClampNeg) :: st) (S, I, R) else none := rn_bc rfl rfl
theorem e_F_choosePlaceUnder_138 : rn Ls xs d 140 138 [l0, l1, l2, l3, l4, l5] (.inl x :: .inr (.inl (some a)) :: st) (S, I, R) = if h_is S a 0 5 then rn Ls xs d 140 141 [l0, l1, l2, l3, l4, l5] st (S, va_up I a (upd (I a) 4 x), R) else none := rn_bc rfl rfl
theorem e_F_choosePlaceUnder_141 : rn Ls xs d 140 141 [l0, l1, l2, l3, l4, l5] [] H = some (none, H) := rn_done rfl rfl
theorem e_F_nearestWay_0 : rn Ls xs d 141 0 [some (.inr u), l1, l2, l3, l4, l5] st H = rn Ls xs d 141 1 [some (.inr u), l1, l2, l3, l4, l5] (.inr u :: st) H := rn_nx rfl rfl
theorem e_F_nearestWay_1 : rn Ls xs d 141 1 [l0, l1, l2, l3, l4, l5] (.inr (.inl (some a)) :: st) (S, I, R) = if h_is S a 0 5 then rn Ls xs d 141 4 [l0, l1, l2, l3, l4, l5] (.inr (R a 0) :: st) (S, I, R) else none := rn_bc rfl rfl
theorem e_F_nearestWay_4 : rn Ls xs d 141 4 [l0, some (.inr u), l2, l3, l4, l5] st H = rn Ls xs d 141 5 [l0, some (.inr u), l2, l3, l4, l5] (.inr u :: st) H := rn_nx rfl rfl
theorem e_F_nearestWay_5 : rn Ls xs (d + 1) 141 5 [l0, l1, l2, l3, l4, l5] [v1, (.inr (.inl (some a)))] (S, I, R) = if h_is S a 3 11 then rb Ls xs (d + 1) 141 8 [l0, l1, l2, l3, l4, l5] [] (rn Ls xs d 172 0 [some (.inr (.inl (some a))), some v1, none] [] (S, I, R)) else none := rn_callO rfl rfl (Nat.le_of_ble_eq_true rfl) rfl rfl
theorem e_F_nearestWay_8 : rn Ls xs d 141 8 [some (.inr u), l1, l2, l3, l4, l5] st H = rn Ls xs d 141 9 [some (.inr u), l1, l2, l3, l4, l5] (.inr u :: st) H := rn_nx rfl rfl
theorem e_F_nearestWay_9 : rn Ls xs d 141 9 [l0, l1, some (.inl x), l3, l4, l5] st H = rn Ls xs d 141 10 [l0, l1, some (.inl x), l3, l4, l5] (.inl x :: st) H := rn_nx rfl rfl
theorem e_F_nearestWay_10 : rn Ls xs (d + 1) 141 10 [l0, l1, l2, l3, l4, l5] [v1, (.inr (.inl (some a)))] (S, I, R) = if h_is S a 0 5 then rb Ls xs (d + 1) 141 13 [l0, l1, l2, l3, l4, l5] [] (rn Ls xs d 187 0 [some (.inr (.inl (some a))), some v1, none, none, none, none] [] (S, I, R)) else none := rn_callO rfl rfl (Nat.le_of_ble_eq_true rfl) rfl rfl
theorem e_F_nearestWay_13 : rn Ls xs d 141 13 [l0, l1, l2, l3, l4, l5] (.inl x :: st) H = rn Ls xs d 141 15 [l0, l1, l2, l3, some (.inl x), l5] st H := rn_nx rfl rfl
theorem e_F_nearestWay_15 : rn Ls xs d 141 15 [l0, l1, l2, l3, l4, l5]  st H = rn Ls xs d 141 16 [l0, l1, l2, l3, l4, l5] (.inl 0 :: st) H := rn_nx rfl rfl
theorem e_F_nearestWay_16 : rn Ls xs d 141 16 [l0, l1, l2, l3, l4, l5] (.inl x :: st) H = rn Ls xs d 141 18 [l0, l1, l2, l3, l4, some (.inl x)] st H := rn_nx rfl rfl
theorem e_F_nearestWay_18 : rn Ls xs d 141 18 [l0, l1, l2, l3, l4, some (.inl x)] st H = rn Ls xs d 141 20 [l0, l1, l2, l3, l4, some (.inl x)] (.inl x :: st) H := rn_nx rfl rfl
theorem e_F_nearestWay_20 : rn Ls xs d 141 20 [l0, l1, l2, some (.inl x), l4, l5] st H = rn Ls xs d 141 21 [l0, l1, l2, some (.inl x), l4, l5] (.inl x :: st) H := rn_nx rfl rfl
theorem e_F_nearestWay_21 : rn Ls xs d 141 21 [l0, l1, l2, l3, l4, l5] (.inl y :: .inl x :: st) H = if y ≤ x then rn Ls xs d 141 50 [l0, l1, l2, l3, l4, l5] st H else rn Ls xs d 141 24 [l0, l1, l2, l3, l4, l5] st H := rn_cmp (p := fun x y => y ≤ x) rfl
theorem e_F_nearestWay_24 : rn Ls xs d 141 24 [some (.inr u), l1, l2, l3, l4, l5] st H = rn Ls xs d 141 25 [some (.inr u), l1, l2, l3, l4, l5] (.inr u :: st) H := rn_nx rfl rfl
theorem e_F_nearestWay_25 : rn Ls xs d 141 25 [l0, l1, l2, l3, l4, l5] (.inr (.inl (some a)) :: st) (S, I, R) = if h_is S a 0 5 then rn Ls xs d 141 28 [l0, l1, l2, l3, l4, l5] (.inr (R a 0) :: st) (S, I, R) else none := rn_bc rfl rfl
theorem e_F_nearestWay_28 : rn Ls xs d 141 28 [l0, l1, l2, l3, l4, l5]  st H = rn Ls xs d 141 29 [l0, l1, l2, l3, l4, l5] (.inl 1 :: st) H := rn_nx rfl rfl
theorem e_F_nearestWay_29 : rn Ls xs (d + 1) 141 29 [l0, l1, l2, l3, l4, l5] [v1, (.inr (.inl (some a)))] (S, I, R) = if h_is S a 3 11 then rb Ls xs (d + 1) 141 32 [l0, l1, l2, l3, l4, l5] [] (rn Ls xs d 119 0 [some (.inr (.inl (some a))), some v1, none] [] (S, I, R)) else none := rn_callO rfl rfl (Nat.le_of_ble_eq_true rfl) rfl rfl
theorem e_F_nearestWay_32 : rn Ls xs d 141 32 [l0, l1, l2, l3, some (.inl x), l5] st H = rn Ls xs d 141 34 [l0, l1, l2, l3, some (.inl x), l5] (.inl x :: st) H := rn_nx rfl rfl
theorem e_F_nearestWay_34 : rn Ls xs d 141 34 [some (.inr u), l1, l2, l3, l4, l5] st H = rn Ls xs d 141 35 [some (.inr u), l1, l2, l3, l4, l5] (.inr u :: st) H := rn_nx rfl rfl
theorem e_F_nearestWay_35 : rn Ls xs d 141 35 [l0, l1, some (.inl x), l3, l4, l5] st H = rn Ls xs d 141 36 [l0, l1, some (.inl x), l3, l4, l5] (.inl x :: st) H := rn_nx rfl rfl
theorem e_F_nearestWay_36 : rn Ls xs (d + 1) 141 36 [l0, l1, l2, l3, l4, l5] [v1, (.inr (.inl (some a))), v2] (S, I, R) = if h_is S a 0 5 then rb Ls xs (d + 1) 141 39 [l0, l1, l2, l3, l4, l5] [v2] (rn Ls xs d 187 0 [some (.inr (.inl (some a))), some v1, none, none, none, none] [] (S, I, R)) else none := rn_callO rfl rfl (Nat.le_of_ble_eq_true rfl) rfl rfl
theorem e_F_nearestWay_39 : rn Ls xs (d + 1) 141 39 [l0, l1, l2, l3, l4, l5] [v1, v0] H = rb Ls xs (d + 1) 141 42 [l0, l1, l2, l3, l4, l5] [] (rn Ls xs d 116 0 [some v0, some v1] [] H) := rn_call rfl (Nat.le_of_ble_eq_true rfl) (Nat.le_of_ble_eq_true rfl) rfl rfl
theorem e_F_nearestWay_42 : rn Ls xs d 141 42 [l0, l1, l2, l3, l4, l5] (.inl x :: st) H = rn Ls xs d 141 44 [l0, l1, l2, l3, some (.inl x), l5] st H := rn_nx rfl rfl
theorem e_F_nearestWay_44 : rn Ls xs d 141 44 [l0, l1, l2, l3, l4, some (.inl x)] st H = rn Ls xs d 141 47 [l0, l1, l2, l3, l4, some (.inl (x + 1))] st H := rn_nx rfl rfl
theorem e_F_nearestWay_47 : rn Ls xs d 141 47 [l0, l1, l2, l3, l4, l5] st H = rn Ls xs d 141 18 [l0, l1, l2, l3, l4, l5] st H := rn_nx rfl rfl
theorem e_F_nearestWay_50 : rn Ls xs d 141 50 [l0, l1, l2, l3, some (.inl x), l5] st H = rn Ls xs d 141 52 [l0, l1, l2, l3, some (.inl x), l5] (.inl x :: st) H := rn_nx rfl rfl
theorem e_F_nearestWay_52 : rn Ls xs d 141 52 [l0, l1, l2, l3, l4, l5]  st H = rn Ls xs d 141 54 [l0, l1, l2, l3, l4, l5] (.inl 30 :: st) H := rn_nx rfl rfl
theorem e_F_nearestWay_54 : rn Ls xs d 141 54 [l0, l1, l2, l3, l4, l5] (.inl y :: .inl x :: st) H = if y ≤ x then rn Ls xs d 141 62 [l0, l1, l2, l3, l4, l5] st H else rn Ls xs d 141 57 [l0, l1, l2, l3, l4, l5] st H := rn_cmp (p := fun x y => y ≤ x) rfl
theorem e_F_nearestWay_57 : rn Ls xs d 141 57 [l0, l1, l2, l3, some (.inl x), l5] st H = rn Ls xs d 141 59 [l0, l1, l2, l3, some (.inl x), l5] (.inl x :: st) H := rn_nx rfl rfl
theorem e_F_nearestWay_59 : rn Ls xs d 141 59 [l0, l1, l2, l3, l4, l5] st H = rn Ls xs d 141 64 [l0, l1, l2, l3, l4, l5] st H := rn_nx rfl rfl
theorem e_F_nearestWay_62 : rn Ls xs d 141 62 [l0, l1, l2, l3, l4, l5]  st H = rn Ls xs d 141 64 [l0, l1, l2, l3, l4, l5] (.inl (-1000000005) :: st) H := rn_nx rfl rfl
theorem e_F_nearestWay_64 : rn Ls xs d 141 64 [l0, l1, l2, l3, l4, l5] [.inl x] H = some (some (.inl x), H) := rn_done rfl rfl
theorem e_M_nearer_0 : rn Ls xs d 142 0 [l0, l1, some (.inl x), l3, l4, l5] st H = rn Ls xs d 142 1 [l0, l1, some (.inl x), l3, l4, l5] (.inl x :: st) H := rn_nx rfl rfl
theorem e_M_nearer_1 : rn Ls xs d 142 1 [l0, l1, l2, l3, l4, l5] (.inl x :: st) H = rn Ls xs d 142 2 [l0, l1, l2, some (.inl x), l4, l5] st H := rn_nx rfl rfl
theorem e_M_nearer_2 : rn Ls xs d 142 2 [l0, l1, l2, l3, l4, l5]  st H = rn Ls xs d 142 3 [l0, l1, l2, l3, l4, l5] (.inl 0 :: st) H := rn_nx rfl rfl
theorem e_M_nearer_3 : rn Ls xs d 142 3 [l0, l1, l2, l3, l4, l5] (.inl x :: st) H = rn Ls xs d 142 5 [l0, l1, l2, l3, some (.inl x), l5] st H := rn_nx rfl rfl
theorem e_M_nearer_5 : rn Ls xs d 142 5 [l0, l1, l2, l3, some (.inl x), l5] st H = rn Ls xs d 142 7 [l0, l1, l2, l3, some (.inl x), l5] (.inl x :: st) H := rn_nx rfl rfl
theorem e_M_nearer_7 : rn Ls xs d 142 7 [some (.inr u), l1, l2, l3, l4, l5] st H = rn Ls xs d 142 8 [some (.inr u), l1, l2, l3, l4, l5] (.inr u :: st) H := rn_nx rfl rfl
theorem e_M_nearer_8 : rn Ls xs d 142 8 [l0, l1, l2, l3, l4, l5] (.inr (.inl (some a)) :: st) (S, I, R) = if h_is S a 9 36 then rn Ls xs d 142 11 [l0, l1, l2, l3, l4, l5] (.inr (R a 0) :: st) (S, I, R) else none := rn_bc rfl rfl
theorem e_M_nearer_11 : rn Ls xs d 142 11 [l0, l1, l2, l3, l4, l5]  st H = rn Ls xs d 142 12 [l0, l1, l2, l3, l4, l5] (.inl 1 :: st) H := rn_nx rfl rfl
theorem e_M_nearer_12 : rn Ls xs d 142 12 [l0, l1, l2, l3, l4, l5] (.inl i :: .inr (.inl (some a)) :: st) (S, I, R) = if h_ia S a 0 i then rn Ls xs d 142 13 [l0, l1, l2, l3, l4, l5] (.inl (I a i.toNatClampNeg) :: st) (S, I, R) else none := rn_bc rfl rfl
theorem e_M_nearer_13 : rn Ls xs d 142 13 [l0, l1, l2, l3, l4, l5] (.inl y :: .inl x :: st) H = if y ≤ x then rn Ls xs d 142 98 [l0, l1, l2, l3, l4, l5] st H else rn Ls xs d 142 16 [l0, l1, l2, l3, l4, l5] st H := rn_cmp (p := fun x y => y ≤ x) rfl
theorem e_M_nearer_16 : rn Ls xs d 142 16 [l0, l1, l2, l3, some (.inl x), l5] st H = rn Ls xs d 142 18 [l0, l1, l2, l3, some (.inl x), l5] (.inl x :: st) H := rn_nx rfl rfl
theorem e_M_nearer_18 : rn Ls xs d 142 18 [l0, some (.inl x), l2, l3, l4, l5] st H = rn Ls xs d 142 19 [l0, some (.inl x), l2, l3, l4, l5] (.inl x :: st) H := rn_nx rfl rfl
theorem e_M_nearer_19 : rn Ls xs d 142 19 [l0, l1, l2, l3, l4, l5] (.inl y :: .inl x :: st) H = if x = y then rn Ls xs d 142 92 [l0, l1, l2, l3, l4, l5] st H else rn Ls xs d 142 22 [l0, l1, l2, l3, l4, l5] st H := rn_cmp (p := fun x y => x = y) rfl
theorem e_M_nearer_22 : rn Ls xs d 142 22 [some (.inr u), l1, l2, l3, l4, l5] st H = rn Ls xs d 142 23 [some (.inr u), l1, l2, l3, l4, l5] (.inr u :: st) H := rn_nx rfl rfl
theorem e_M_nearer_23 : rn Ls xs d 142 23 [l0, some (.inl x), l2, l3, l4, l5] st H = rn Ls xs d 142 24 [l0, some (.inl x), l2, l3, l4, l5] (.inl x :: st) H := rn_nx rfl rfl
theorem e_M_nearer_24 : rn Ls xs (d + 1) 142 24 [l0, l1, l2, l3, l4, l5] [v1, (.inr (.inl (some a)))] (S, I, R) = if h_is S a 9 36 then rb Ls xs (d + 1) 142 27 [l0, l1, l2, l3, l4, l5] [] (rn Ls xs d 113 0 [some (.inr (.inl (some a))), some v1] [] (S, I, R)) else none := rn_callO rfl rfl (Nat.le_of_ble_eq_true rfl) rfl rfl
theorem e_M_nearer_27 : rn Ls xs d 142 27 [l0, l1, l2, l3, l4, l5] (.inl x :: st) H = if x = 0 then rn Ls xs d 142 92 [l0, l1, l2, l3, l4, l5] st H else rn Ls xs d 142 30 [l0, l1, l2, l3, l4, l5] st H := rn_if (p := fun x => x = 0) rfl
theorem e_M_nearer_30 : rn Ls xs d 142 30 [some (.inr u), l1, l2, l3, l4, l5] st H = rn Ls xs d 142 31 [some (.inr u), l1, l2, l3, l4, l5] (.inr u :: st) H := rn_nx rfl rfl
theorem e_M_nearer_31 : rn Ls xs d 142 31 [l0, l1, l2, l3, some (.inl x), l5] st H = rn Ls xs d 142 33 [l0, l1, l2, l3, some (.inl x), l5] (.inl x :: st) H := rn_nx rfl rfl
theorem e_M_nearer_33 : rn Ls xs (d + 1) 142 33 [l0, l1, l2, l3, l4, l5] [v1, (.inr (.inl (some a)))] (S, I, R) = if h_is S a 9 36 then rb Ls xs (d + 1) 142 36 [l0, l1, l2, l3, l4, l5] [] (rn Ls xs d 113 0 [some (.inr (.inl (some a))), some v1] [] (S, I, R)) else none := rn_callO rfl rfl (Nat.le_of_ble_eq_true rfl) rfl rfl
theorem e_M_nearer_36 : rn Ls xs d 142 36 [l0, l1, l2, l3, l4, l5] (.inl x :: st) H = if x = 0 then rn Ls xs d 142 92 [l0, l1, l2, l3, l4, l5] st H else rn Ls xs d 142 39 [l0, l1, l2, l3, l4, l5] st H := rn_if (p := fun x => x = 0) rfl
theorem e_M_nearer_39 : rn Ls xs d 142 39 [some (.inr u), l1, l2, l3, l4, l5] st H = rn Ls xs d 142 40 [some (.inr u), l1, l2, l3, l4, l5] (.inr u :: st) H := rn_nx rfl rfl
theorem e_M_nearer_40 : rn Ls xs d 142 40 [l0, l1, l2, l3, some (.inl x), l5] st H = rn Ls xs d 142 42 [l0, l1, l2, l3, some (.inl x), l5] (.inl x :: st) H := rn_nx rfl rfl
theorem e_M_nearer_42 : rn Ls xs d 142 42 [l0, l1, l2, l3, l4, l5]  st H = rn Ls xs d 142 43 [l0, l1, l2, l3, l4, l5] (.inl 1 :: st) H := rn_nx rfl rfl
theorem e_M_nearer_43 : rn Ls xs (d + 1) 142 43 [l0, l1, l2, l3, l4, l5] [v2, v1, (.inr (.inl (some a)))] (S, I, R) = if h_is S a 9 36 then rb Ls xs (d + 1) 142 46 [l0, l1, l2, l3, l4, l5] [] (rn Ls xs d 105 0 [some (.inr (.inl (some a))), some v1, some v2] [] (S, I, R)) else none := rn_callO rfl rfl (Nat.le_of_ble_eq_true rfl) rfl rfl
theorem e_M_nearer_46 : rn Ls xs d 142 46 [some (.inr u), l1, l2, l3, l4, l5] st H = rn Ls xs d 142 47 [some (.inr u), l1, l2, l3, l4, l5] (.inr u :: st) H := rn_nx rfl rfl
theorem e_M_nearer_47 : rn Ls xs d 142 47 [l0, some (.inl x), l2, l3, l4, l5] st H = rn Ls xs d 142 48 [l0, some (.inl x), l2, l3, l4, l5] (.inl x :: st) H := rn_nx rfl rfl
theorem e_M_nearer_48 : rn Ls xs d 142 48 [l0, l1, l2, l3, l4, l5]  st H = rn Ls xs d 142 49 [l0, l1, l2, l3, l4, l5] (.inl 1 :: st) H := rn_nx rfl rfl
theorem e_M_nearer_49 : rn Ls xs (d + 1) 142 49 [l0, l1, l2, l3, l4, l5] [v2, v1, (.inr (.inl (some a))), v3] (S, I, R) = if h_is S a 9 36 then rb Ls xs (d + 1) 142 52 [l0, l1, l2, l3, l4, l5] [v3] (rn Ls xs d 105 0 [some (.inr (.inl (some a))), some v1, some v2] [] (S, I, R)) else none := rn_callO rfl rfl (Nat.le_of_ble_eq_true rfl) rfl rfl
theorem e_M_nearer_52 : rn Ls xs d 142 52 [l0, l1, l2, l3, l4, l5] (.inl y :: .inl x :: st) H = if x ≠ y then rn Ls xs d 142 92 [l0, l1, l2, l3, l4, l5] st H else rn Ls xs d 142 55 [l0, l1, l2, l3, l4, l5] st H := rn_cmp (p := fun x y => x ≠ y) rfl
theorem e_M_nearer_55 : rn Ls xs d 142 55 [some (.inr u), l1, l2, l3, l4, l5] st H = rn Ls xs d 142 56 [some (.inr u), l1, l2, l3, l4, l5] (.inr u :: st) H := rn_nx rfl rfl
theorem e_M_nearer_56 : rn Ls xs d 142 56 [l0, l1, l2, l3, some (.inl x), l5] st H = rn Ls xs d 142 58 [l0, l1, l2, l3, some (.inl x), l5] (.inl x :: st) H := rn_nx rfl rfl
theorem e_M_nearer_58 : rn Ls xs d 142 58 [l0, l1, l2, l3, l4, l5]  st H = rn Ls xs d 142 59 [l0, l1, l2, l3, l4, l5] (.inl 2 :: st) H := rn_nx rfl rfl
theorem e_M_nearer_59 : rn Ls xs (d + 1) 142 59 [l0, l1, l2, l3, l4, l5] [v2, v1, (.inr (.inl (some a)))] (S, I, R) = if h_is S a 9 36 then rb Ls xs (d + 1) 142 62 [l0, l1, l2, l3, l4, l5] [] (rn Ls xs d 105 0 [some (.inr (.inl (some a))), some v1, some v2] [] (S, I, R)) else none := rn_callO rfl rfl (Nat.le_of_ble_eq_true rfl) rfl rfl
theorem e_M_nearer_62 : rn Ls xs d 142 62 [some (.inr u), l1, l2, l3, l4, l5] st H = rn Ls xs d 142 63 [some (.inr u), l1, l2, l3, l4, l5] (.inr u :: st) H := rn_nx rfl rfl
theorem e_M_nearer_63 : rn Ls xs d 142 63 [l0, some (.inl x), l2, l3, l4, l5] st H = rn Ls xs d 142 64 [l0, some (.inl x), l2, l3, l4, l5] (.inl x :: st) H := rn_nx rfl rfl
theorem e_M_nearer_64 : rn Ls xs d 142 64 [l0, l1, l2, l3, l4, l5]  st H = rn Ls xs d 142 65 [l0, l1, l2, l3, l4, l5] (.inl 2 :: st) H := rn_nx rfl rfl
theorem e_M_nearer_65 : rn Ls xs (d + 1) 142 65 [l0, l1, l2, l3, l4, l5] [v2, v1, (.inr (.inl (some a))), v3] (S, I, R) = if h_is S a 9 36 then rb Ls xs (d + 1) 142 68 [l0, l1, l2, l3, l4, l5] [v3] (rn Ls xs d 105 0 [some (.inr (.inl (some a))), some v1, some v2] [] (S, I, R)) else none := rn_callO rfl rfl (Nat.le_of_ble_eq_true rfl) rfl rfl
theorem e_M_nearer_68 : rn Ls xs (d + 1) 142 68 [l0, l1, l2, l3, l4, l5] [v1, v0] H = rb Ls xs (d + 1) 142 71 [l0, l1, l2, l3, l4, l5] [] (rn Ls xs d 148 0 [some v0, some v1, none] [] H) := rn_call rfl (Nat.le_of_ble_eq_true rfl) (Nat.le_of_ble_eq_true rfl) rfl rfl
theorem e_M_nearer_71 : rn Ls xs d 142 71 [l0, l1, l2, l3, l4, l5] (.inl x :: st) H = rn Ls xs d 142 73 [l0, l1, l2, l3, l4, some (.inl x)] st H := rn_nx rfl rfl
theorem e_M_nearer_73 : rn Ls xs d 142 73 [l0, l1, l2, some (.inl x), l4, l5] st H = rn Ls xs d 142 74 [l0, l1, l2, some (.inl x), l4, l5] (.inl x :: st) H := rn_nx rfl rfl
theorem e_M_nearer_74 : rn Ls xs d 142 74 [l0, l1, l2, l3, l4, l5]  st H = rn Ls xs d 142 76 [l0, l1, l2, l3, l4, l5] (.inl (-1000000005) :: st) H := rn_nx rfl rfl
theorem e_M_nearer_76 : rn Ls xs d 142 76 [l0, l1, l2, l3, l4, l5] (.inl y :: .inl x :: st) H = if x = y then rn Ls xs d 142 85 [l0, l1, l2, l3, l4, l5] st H else rn Ls xs d 142 79 [l0, l1, l2, l3, l4, l5] st H := rn_cmp (p := fun x y => x = y) rfl
theorem e_M_nearer_79 : rn Ls xs d 142 79 [l0, l1, l2, l3, l4, some (.inl x)] st H = rn Ls xs d 142 81 [l0, l1, l2, l3, l4, some (.inl x)] (.inl x :: st) H := rn_nx rfl rfl
theorem e_M_nearer_81 : rn Ls xs d 142 81 [l0, l1, l2, some (.inl x), l4, l5] st H = rn Ls xs d 142 82 [l0, l1, l2, some (.inl x), l4, l5] (.inl x :: st) H := rn_nx rfl rfl
theorem e_M_nearer_82 : rn Ls xs d 142 82 [l0, l1, l2, l3, l4, l5] (.inl y :: .inl x :: st) H = if y ≤ x then rn Ls xs d 142 90 [l0, l1, l2, l3, l4, l5] st H else rn Ls xs d 142 85 [l0, l1, l2, l3, l4, l5] st H := rn_cmp (p := fun x y => y ≤ x) rfl
theorem e_M_nearer_85 : rn Ls xs d 142 85 [l0, l1, l2, l3, l4, some (.inl x)] st H = rn Ls xs d 142 87 [l0, l1, l2, l3, l4, some (.inl x)] (.inl x :: st) H := rn_nx rfl rfl
theorem e_M_nearer_87 : rn Ls xs d 142 87 [l0, l1, l2, l3, l4, l5] st H = rn Ls xs d 142 91 [l0, l1, l2, l3, l4, l5] st H := rn_nx rfl rfl
theorem e_M_nearer_90 : rn Ls xs d 142 90 [l0, l1, l2, some (.inl x), l4, l5] st H = rn Ls xs d 142 91 [l0, l1, l2, some (.inl x), l4, l5] (.inl x :: st) H := rn_nx rfl rfl
theorem e_M_nearer_91 : rn Ls xs d 142 91 [l0, l1, l2, l3, l4, l5] (.inl x :: st) H = rn Ls xs d 142 92 [l0, l1, l2, some (.inl x), l4, l5] st H := rn_nx rfl rfl
theorem e_M_nearer_92 : rn Ls xs d 142 92 [l0, l1, l2, l3, some (.inl x), l5] st H = rn Ls xs d 142 95 [l0, l1, l2, l3, some (.inl (x + 1)), l5] st H := rn_nx rfl rfl
theorem e_M_nearer_95 : rn Ls xs d 142 95 [l0, l1, l2, l3, l4, l5] st H = rn Ls xs d 142 5 [l0, l1, l2, l3, l4, l5] st H := rn_nx rfl rfl
theorem e_M_nearer_98 : rn Ls xs d 142 98 [l0, l1, l2, some (.inl x), l4, l5] st H = rn Ls xs d 142 99 [l0, l1, l2, some (.inl x), l4, l5] (.inl x :: st) H := rn_nx rfl rfl
theorem e_M_nearer_99 : rn Ls xs d 142 99 [l0, l1, l2, l3, l4, l5] [.inl x] H = some (some (.inl x), H) := rn_done rfl rfl
theorem e_W_isSheet_0 : rn Ls xs d 143 0 [some (.inl x)] st H = rn Ls xs d 143 1 [some (.inl x)] (.inl x :: st) H := rn_nx rfl rfl
theorem e_W_isSheet_1 : rn Ls xs d 143 1 [l0]  st H = rn Ls xs d 143 2 [l0] (.inl 0 :: st) H := rn_nx rfl rfl
theorem e_W_isSheet_2 : rn Ls xs d 143 2 [l0]  st H = rn Ls xs d 143 3 [l0] (.inl 3 :: st) H := rn_nx rfl rfl
theorem e_W_isSheet_3 : rn Ls xs (d + 1) 143 3 [l0] [v2, v1, v0] H = rb Ls xs (d + 1) 143 6 [l0] [] (rn Ls xs d 94 0 [some v0, some v1, some v2] [] H) := rn_call rfl (Nat.le_of_ble_eq_true rfl) (Nat.le_of_ble_eq_true rfl) rfl rfl
theorem e_W_isSheet_6 : rn Ls xs d 143 6 [l0] [.inl x] H = if h_bo x then some (some (.inl x), H) else none := rn_zret rfl
theorem e_H_isMissing_0 : rn Ls xs d 144 0 [some (.inr u)] st H = rn Ls xs d 144 1 [some (.inr u)] (.inr u :: st) H := rn_nx rfl rfl
theorem e_H_isMissing_1 : rn Ls xs d 144 1 [l0] (.inr (.inl (some a)) :: st) (S, I, R) = if h_is S a 2 3 then rn Ls xs d 144 4 [l0] (.inl (I a 1) :: st) (S, I, R) else none := rn_bc rfl rfl
theorem e_H_isMissing_4 : rn Ls xs d 144 4 [l0]  st H = rn Ls xs d 144 5 [l0] (.inl (-1) :: st) H := rn_nx rfl rfl
theorem e_H_isMissing_5 : rn Ls xs d 144 5 [l0] (.inl y :: .inl x :: st) H = if x ≠ y then rn Ls xs d 144 12 [l0] st H else rn Ls xs d 144 8 [l0] st H := rn_cmp (p := fun x y => x ≠ y) rfl
theorem e_H_isMissing_8 : rn Ls xs d 144 8 [l0]  st H = rn Ls xs d 144 9 [l0] (.inl 1 :: st) H := rn_nx rfl rfl
theorem e_H_isMissing_9 : rn Ls xs d 144 9 [l0] st H = rn Ls xs d 144 13 [l0] st H := rn_nx rfl rfl
theorem e_H_isMissing_12 : rn Ls xs d 144 12 [l0]  st H = rn Ls xs d 144 13 [l0] (.inl 0 :: st) H := rn_nx rfl rfl
theorem e_H_isMissing_13 : rn Ls xs d 144 13 [l0] [.inl x] H = if h_bo x then some (some (.inl x), H) else none := rn_zret rfl
theorem e_F_chooseSeen_0 : rn Ls xs d 145 0 [some (.inr u), l1, l2, l3, l4] st H = rn Ls xs d 145 1 [some (.inr u), l1, l2, l3, l4] (.inr u :: st) H := rn_nx rfl rfl
theorem e_F_chooseSeen_1 : rn Ls xs d 145 1 [l0, l1, l2, l3, l4] (.inr (.inl (some a)) :: st) (S, I, R) = if h_is S a 0 5 then rn Ls xs d 145 4 [l0, l1, l2, l3, l4] (.inr (R a 0) :: st) (S, I, R) else none := rn_bc rfl rfl
theorem e_F_chooseSeen_4 : rn Ls xs d 145 4 [l0, some (.inr u), l2, l3, l4] st H = rn Ls xs d 145 5 [l0, some (.inr u), l2, l3, l4] (.inr u :: st) H := rn_nx rfl rfl
theorem e_F_chooseSeen_5 : rn Ls xs (d + 1) 145 5 [l0, l1, l2, l3, l4] [v1, (.inr (.inl (some a)))] (S, I, R) = if h_is S a 3 11 then rb Ls xs (d + 1) 145 8 [l0, l1, l2, l3, l4] [] (rn Ls xs d 172 0 [some (.inr (.inl (some a))), some v1, none] [] (S, I, R)) else none := rn_callO rfl rfl (Nat.le_of_ble_eq_true rfl) rfl rfl
theorem e_F_chooseSeen_8 : rn Ls xs d 145 8 [some (.inr u), l1, l2, l3, l4] st H = rn Ls xs d 145 9 [some (.inr u), l1, l2, l3, l4] (.inr u :: st) H := rn_nx rfl rfl
theorem e_F_chooseSeen_9 : rn Ls xs d 145 9 [l0, l1, l2, l3, l4] (.inr (.inl (some a)) :: st) (S, I, R) = if h_is S a 0 5 then rn Ls xs d 145 12 [l0, l1, l2, l3, l4] (.inr (R a 2) :: st) (S, I, R) else none := rn_bc rfl rfl
theorem e_F_chooseSeen_12 : rn Ls xs d 145 12 [l0, l1, l2, l3, l4]  st H = rn Ls xs d 145 13 [l0, l1, l2, l3, l4] (.inl 0 :: st) H := rn_nx rfl rfl
theorem e_F_chooseSeen_13 : rn Ls xs (d + 1) 145 13 [l0, l1, l2, l3, l4] [v1, v0] H = rb Ls xs (d + 1) 145 16 [l0, l1, l2, l3, l4] [] (rn Ls xs d 182 0 [some v0, some v1, none, none] [] H) := rn_call rfl (Nat.le_of_ble_eq_true rfl) (Nat.le_of_ble_eq_true rfl) rfl rfl
theorem e_F_chooseSeen_16 : rn Ls xs d 145 16 [l0, l1, l2, l3, l4]  st H = rn Ls xs d 145 17 [l0, l1, l2, l3, l4] (.inl 0 :: st) H := rn_nx rfl rfl
theorem e_F_chooseSeen_17 : rn Ls xs d 145 17 [l0, l1, l2, l3, l4] (.inl x :: st) H = rn Ls xs d 145 18 [l0, l1, l2, some (.inl x), l4] st H := rn_nx rfl rfl
theorem e_F_chooseSeen_18 : rn Ls xs d 145 18 [l0, l1, l2, some (.inl x), l4] st H = rn Ls xs d 145 19 [l0, l1, l2, some (.inl x), l4] (.inl x :: st) H := rn_nx rfl rfl
theorem e_F_chooseSeen_19 : rn Ls xs d 145 19 [l0, l1, some (.inr u), l3, l4] st H = rn Ls xs d 145 20 [l0, l1, some (.inr u), l3, l4] (.inr u :: st) H := rn_nx rfl rfl
theorem e_F_chooseSeen_20 : rn Ls xs d 145 20 [l0, l1, l2, l3, l4] (.inr (.inl (some a)) :: st) (S, I, R) = if h_is S a 2 3 then rn Ls xs d 145 23 [l0, l1, l2, l3, l4] (.inl (I a 2) :: st) (S, I, R) else none := rn_bc rfl rfl
theorem e_F_chooseSeen_23 : rn Ls xs d 145 23 [l0, l1, l2, l3, l4] (.inl y :: .inl x :: st) H = if y ≤ x then rn Ls xs d 145 107 [l0, l1, l2, l3, l4] st H else rn Ls xs d 145 26 [l0, l1, l2, l3, l4] st H := rn_cmp (p := fun x y => y ≤ x) rfl
theorem e_F_chooseSeen_26 : rn Ls xs d 145 26 [l0, l1, l2, some (.inl x), l4] st H = rn Ls xs d 145 27 [l0, l1, l2, some (.inl x), l4] (.inl x :: st) H := rn_nx rfl rfl
theorem e_F_chooseSeen_27 : rn Ls xs d 145 27 [l0, l1, l2, l3, l4] (.inl x :: st) H = if x ≤ 0 then rn Ls xs d 145 38 [l0, l1, l2, l3, l4] st H else rn Ls xs d 145 30 [l0, l1, l2, l3, l4] st H := rn_if (p := fun x => x ≤ 0) rfl
theorem e_F_chooseSeen_30 : rn Ls xs d 145 30 [some (.inr u), l1, l2, l3, l4] st H = rn Ls xs d 145 31 [some (.inr u), l1, l2, l3, l4] (.inr u :: st) H := rn_nx rfl rfl
theorem e_F_chooseSeen_31 : rn Ls xs d 145 31 [l0, l1, l2, l3, l4] (.inr (.inl (some a)) :: st) (S, I, R) = if h_is S a 0 5 then rn Ls xs d 145 34 [l0, l1, l2, l3, l4] (.inr (R a 0) :: st) (S, I, R) else none := rn_bc rfl rfl
theorem e_F_chooseSeen_34 : rn Ls xs d 145 34 [l0, l1, l2, l3, l4]  st H = rn Ls xs d 145 35 [l0, l1, l2, l3, l4] (.inl 1 :: st) H := rn_nx rfl rfl
theorem e_F_chooseSeen_35 : rn Ls xs (d + 1) 145 35 [l0, l1, l2, l3, l4] [v1, (.inr (.inl (some a)))] (S, I, R) = if h_is S a 3 11 then rb Ls xs (d + 1) 145 38 [l0, l1, l2, l3, l4] [] (rn Ls xs d 119 0 [some (.inr (.inl (some a))), some v1, none] [] (S, I, R)) else none := rn_callO rfl rfl (Nat.le_of_ble_eq_true rfl) rfl rfl
theorem e_F_chooseSeen_38 : rn Ls xs d 145 38 [l0, l1, l2, l3, l4]  st H = rn Ls xs d 145 39 [l0, l1, l2, l3, l4] (.inl 0 :: st) H := rn_nx rfl rfl
theorem e_F_chooseSeen_39 : rn Ls xs d 145 39 [l0, l1, l2, l3, l4] (.inl x :: st) H = rn Ls xs d 145 41 [l0, l1, l2, l3, some (.inl x)] st H := rn_nx rfl rfl
theorem e_F_chooseSeen_41 : rn Ls xs d 145 41 [l0, l1, l2, l3, some (.inl x)] st H = rn Ls xs d 145 43 [l0, l1, l2, l3, some (.inl x)] (.inl x :: st) H := rn_nx rfl rfl
theorem e_F_chooseSeen_43 : rn Ls xs d 145 43 [l0, some (.inr u), l2, l3, l4] st H = rn Ls xs d 145 44 [l0, some (.inr u), l2, l3, l4] (.inr u :: st) H := rn_nx rfl rfl
theorem e_F_chooseSeen_44 : rn Ls xs d 145 44 [l0, l1, l2, l3, l4] (.inr (.inl (some a)) :: st) (S, I, R) = if h_is S a 3 11 then rn Ls xs d 145 47 [l0, l1, l2, l3, l4] (.inl (I a 3) :: st) (S, I, R) else none := rn_bc rfl rfl
theorem e_F_chooseSeen_47 : rn Ls xs d 145 47 [l0, l1, l2, l3, l4] (.inl y :: .inl x :: st) H = if y ≤ x then rn Ls xs d 145 101 [l0, l1, l2, l3, l4] st H else rn Ls xs d 145 50 [l0, l1, l2, l3, l4] st H := rn_cmp (p := fun x y => y ≤ x) rfl
theorem e_F_chooseSeen_50 : rn Ls xs d 145 50 [l0, l1, some (.inr u), l3, l4] st H = rn Ls xs d 145 51 [l0, l1, some (.inr u), l3, l4] (.inr u :: st) H := rn_nx rfl rfl
theorem e_F_chooseSeen_51 : rn Ls xs d 145 51 [l0, l1, l2, some (.inl x), l4] st H = rn Ls xs d 145 52 [l0, l1, l2, some (.inl x), l4] (.inl x :: st) H := rn_nx rfl rfl
theorem e_F_chooseSeen_52 : rn Ls xs (d + 1) 145 52 [l0, l1, l2, l3, l4] [v1, (.inr (.inl (some a)))] (S, I, R) = if h_is S a 2 3 then rb Ls xs (d + 1) 145 55 [l0, l1, l2, l3, l4] [] (rn Ls xs d 162 0 [some (.inr (.inl (some a))), some v1] [] (S, I, R)) else none := rn_callO rfl rfl (Nat.le_of_ble_eq_true rfl) rfl rfl
theorem e_F_chooseSeen_55 : rn Ls xs d 145 55 [l0, l1, l2, l3, l4] (.inl x :: st) H = if x = 0 then rn Ls xs d 145 101 [l0, l1, l2, l3, l4] st H else rn Ls xs d 145 58 [l0, l1, l2, l3, l4] st H := rn_if (p := fun x => x = 0) rfl
theorem e_F_chooseSeen_58 : rn Ls xs d 145 58 [some (.inr u), l1, l2, l3, l4] st H = rn Ls xs d 145 59 [some (.inr u), l1, l2, l3, l4] (.inr u :: st) H := rn_nx rfl rfl
theorem e_F_chooseSeen_59 : rn Ls xs d 145 59 [l0, l1, l2, l3, l4] (.inr (.inl (some a)) :: st) (S, I, R) = if h_is S a 0 5 then rn Ls xs d 145 62 [l0, l1, l2, l3, l4] (.inr (R a 2) :: st) (S, I, R) else none := rn_bc rfl rfl
theorem e_F_chooseSeen_62 : rn Ls xs d 145 62 [l0, l1, l2, l3, some (.inl x)] st H = rn Ls xs d 145 64 [l0, l1, l2, l3, some (.inl x)] (.inl x :: st) H := rn_nx rfl rfl
theorem e_F_chooseSeen_64 : rn Ls xs d 145 64 [l0, l1, l2, l3, l4] (v :: w :: st) H = rn Ls xs d 145 65 [l0, l1, l2, l3, l4] (v :: w :: v :: w :: st) H := rn_nx rfl rfl
theorem e_F_chooseSeen_65 : rn Ls xs d 145 65 [l0, l1, l2, l3, l4] (.inl i :: .inr (.inl (some a)) :: st) (S, I, R) = if h_ia S a 0 i then rn Ls xs d 145 66 [l0, l1, l2, l3, l4] (.inl (I a i.toNatClampNeg) :: st) (S, I, R) else none := rn_bc rfl rfl
theorem e_F_chooseSeen_66 : rn Ls xs d 145 66 [some (.inr u), l1, l2, l3, l4] st H = rn Ls xs d 145 67 [some (.inr u), l1, l2, l3, l4] (.inr u :: st) H := rn_nx rfl rfl
theorem e_F_chooseSeen_67 : rn Ls xs d 145 67 [l0, l1, l2, l3, l4] (.inr (.inl (some a)) :: st) (S, I, R) = if h_is S a 0 5 then rn Ls xs d 145 70 [l0, l1, l2, l3, l4] (.inr (R a 0) :: st) (S, I, R) else none := rn_bc rfl rfl
theorem e_F_chooseSeen_70 : rn Ls xs d 145 70 [l0, l1, l2, l3, l4] (.inr (.inl (some a)) :: st) (S, I, R) = if h_is S a 3 11 then rn Ls xs d 145 73 [l0, l1, l2, l3, l4] (.inr (R a 0) :: st) (S, I, R) else none := rn_bc rfl rfl
theorem e_F_chooseSeen_73 : rn Ls xs d 145 73 [l0, l1, l2, l3, some (.inl x)] st H = rn Ls xs d 145 75 [l0, l1, l2, l3, some (.inl x)] (.inl x :: st) H := rn_nx rfl rfl
theorem e_F_chooseSeen_75 : rn Ls xs d 145 75 [l0, l1, l2, l3, l4] (.inl i :: .inr (.inl (some a)) :: st) (S, I, R) = if h_ia S a 4 i then (match R a i.toNatClampNeg with | .inl o => rn Ls xs d 145 76 [l0, l1, l2, l3, l4] (.inr (.inl o) :: st) (S, I, R) | .inr _ => none) else none := rn_aald rfl
theorem e_F_chooseSeen_76 : rn Ls xs d 145 76 [l0, l1, l2, l3, l4] (.inr (.inl (some a)) :: st) (S, I, R) = if h_is S a 7 6 then rn Ls xs d 145 79 [l0, l1, l2, l3, l4] (.inl (I a 2) :: st) (S, I, R) else none := rn_bc rfl rfl
theorem e_F_chooseSeen_79 : rn Ls xs d 145 79 [l0, l1, some (.inr u), l3, l4] st H = rn Ls xs d 145 80 [l0, l1, some (.inr u), l3, l4] (.inr u :: st) H := rn_nx rfl rfl
theorem e_F_chooseSeen_80 : rn Ls xs d 145 80 [l0, l1, l2, l3, l4] (.inr (.inl (some a)) :: st) (S, I, R) = if h_is S a 2 3 then rn Ls xs d 145 83 [l0, l1, l2, l3, l4] (.inr (R a 0) :: st) (S, I, R) else none := rn_bc rfl rfl
theorem e_F_chooseSeen_83 : rn Ls xs d 145 83 [l0, l1, l2, some (.inl x), l4] st H = rn Ls xs d 145 84 [l0, l1, l2, some (.inl x), l4] (.inl x :: st) H := rn_nx rfl rfl
theorem e_F_chooseSeen_84 : rn Ls xs d 145 84 [l0, l1, l2, l3, l4] (.inl i :: .inr (.inl (some a)) :: st) (S, I, R) = if h_ia S a 0 i then rn Ls xs d 145 85 [l0, l1, l2, l3, l4] (.inl (I a i.toNatClampNeg) :: st) (S, I, R) else none := rn_bc rfl rfl
theorem e_F_chooseSeen_85 : rn Ls xs d 145 85 [l0, l1, l2, l3, l4]  st H = rn Ls xs d 145 87 [l0, l1, l2, l3, l4] (.inl 30 :: st) H := rn_nx rfl rfl
theorem e_F_chooseSeen_87 : rn Ls xs (d + 1) 145 87 [l0, l1, l2, l3, l4] [v1, v0, v2, v3, v4, v5] H = rb Ls xs (d + 1) 145 90 [l0, l1, l2, l3, l4] [v2, v3, v4, v5] (rn Ls xs d 188 0 [some v0, some v1, none] [] H) := rn_call rfl (Nat.le_of_ble_eq_true rfl) (Nat.le_of_ble_eq_true rfl) rfl rfl
theorem e_F_chooseSeen_90 : rn Ls xs (d + 1) 145 90 [l0, l1, l2, l3, l4] [v1, v0, v2, v3, v4] H = rb Ls xs (d + 1) 145 93 [l0, l1, l2, l3, l4] [v2, v3, v4] (rn Ls xs d 189 0 [some v0, some v1, none] [] H) := rn_call rfl (Nat.le_of_ble_eq_true rfl) (Nat.le_of_ble_eq_true rfl) rfl rfl
theorem e_F_chooseSeen_93 : rn Ls xs d 145 93 [l0, l1, l2, l3, l4] (.inl y :: .inl x :: st) H = rn Ls xs d 145 94 [l0, l1, l2, l3, l4] (.inl (x + y) :: st) H := rn_nx rfl rfl
theorem e_F_chooseSeen_94 : rn Ls xs d 145 94 [l0, l1, l2, l3, l4] (.inl x :: .inl i :: .inr (.inl (some a)) :: st) (S, I, R) = if h_ia S a 0 i then rn Ls xs d 145 95 [l0, l1, l2, l3, l4] st (S, va_up I a (upd (I a) i.toNatClampNeg x), R) else none := rn_bc rfl rfl
theorem e_F_chooseSeen_95 : rn Ls xs d 145 95 [l0, l1, l2, l3, some (.inl x)] st H = rn Ls xs d 145 98 [l0, l1, l2, l3, some (.inl (x + 1))] st H := rn_nx rfl rfl
theorem e_F_chooseSeen_98 : rn Ls xs d 145 98 [l0, l1, l2, l3, l4] st H = rn Ls xs d 145 41 [l0, l1, l2, l3, l4] st H := rn_nx rfl rfl
theorem e_F_chooseSeen_101 : rn Ls xs d 145 101 [l0, l1, l2, some (.inl x), l4] st H = rn Ls xs d 145 104 [l0, l1, l2, some (.inl (x + 1)), l4] st H := rn_nx rfl rfl
theorem e_F_chooseSeen_104 : rn Ls xs d 145 104 [l0, l1, l2, l3, l4] st H = rn Ls xs d 145 18 [l0, l1, l2, l3, l4] st H := rn_nx rfl rfl
theorem e_F_chooseSeen_107 : rn Ls xs d 145 107 [some (.inr u), l1, l2, l3, l4] st H = rn Ls xs d 145 108 [some (.inr u), l1, l2, l3, l4] (.inr u :: st) H := rn_nx rfl rfl
theorem e_F_chooseSeen_108 : rn Ls xs (d + 1) 145 108 [l0, l1, l2, l3, l4] [(.inr (.inl (some a)))] (S, I, R) = if h_is S a 0 5 then rb Ls xs (d + 1) 145 111 [l0, l1, l2, l3, l4] [] (rn Ls xs d 184 0 [some (.inr (.inl (some a)))] [] (S, I, R)) else none := rn_callO rfl rfl (Nat.le_of_ble_eq_true rfl) rfl rfl
theorem e_F_chooseSeen_111 : rn Ls xs d 145 111 [l0, l1, l2, l3, l4]  st H = rn Ls xs d 145 112 [l0, l1, l2, l3, l4] (.inl 0 :: st) H := rn_nx rfl rfl
theorem e_F_chooseSeen_112 : rn Ls xs d 145 112 [l0, l1, l2, l3, l4] (.inl x :: st) H = rn Ls xs d 145 113 [l0, l1, l2, some (.inl x), l4] st H := rn_nx rfl rfl
theorem e_F_chooseSeen_113 : rn Ls xs d 145 113 [l0, l1, l2, some (.inl x), l4] st H = rn Ls xs d 145 114 [l0, l1, l2, some (.inl x), l4] (.inl x :: st) H := rn_nx rfl rfl
theorem e_F_chooseSeen_114 : rn Ls xs d 145 114 [l0, some (.inr u), l2, l3, l4] st H = rn Ls xs d 145 115 [l0, some (.inr u), l2, l3, l4] (.inr u :: st) H := rn_nx rfl rfl
theorem e_F_chooseSeen_115 : rn Ls xs d 145 115 [l0, l1, l2, l3, l4] (.inr (.inl (some a)) :: st) (S, I, R) = if h_is S a 3 11 then rn Ls xs d 145 118 [l0, l1, l2, l3, l4] (.inl (I a 3) :: st) (S, I, R) else none := rn_bc rfl rfl
theorem e_F_chooseSeen_118 : rn Ls xs d 145 118 [l0, l1, l2, l3, l4] (.inl y :: .inl x :: st) H = if y ≤ x then rn Ls xs d 145 138 [l0, l1, l2, l3, l4] st H else rn Ls xs d 145 121 [l0, l1, l2, l3, l4] st H := rn_cmp (p := fun x y => y ≤ x) rfl
theorem e_F_chooseSeen_121 : rn Ls xs d 145 121 [some (.inr u), l1, l2, l3, l4] st H = rn Ls xs d 145 122 [some (.inr u), l1, l2, l3, l4] (.inr u :: st) H := rn_nx rfl rfl
theorem e_F_chooseSeen_122 : rn Ls xs d 145 122 [l0, l1, l2, some (.inl x), l4] st H = rn Ls xs d 145 123 [l0, l1, l2, some (.inl x), l4] (.inl x :: st) H := rn_nx rfl rfl
theorem e_F_chooseSeen_123 : rn Ls xs d 145 123 [some (.inr u), l1, l2, l3, l4] st H = rn Ls xs d 145 124 [some (.inr u), l1, l2, l3, l4] (.inr u :: st) H := rn_nx rfl rfl
theorem e_F_chooseSeen_124 : rn Ls xs d 145 124 [l0, l1, l2, l3, l4] (.inr (.inl (some a)) :: st) (S, I, R) = if h_is S a 0 5 then rn Ls xs d 145 127 [l0, l1, l2, l3, l4] (.inr (R a 2) :: st) (S, I, R) else none := rn_bc rfl rfl
theorem e_F_chooseSeen_127 : rn Ls xs d 145 127 [l0, l1, l2, some (.inl x), l4] st H = rn Ls xs d 145 128 [l0, l1, l2, some (.inl x), l4] (.inl x :: st) H := rn_nx rfl rfl
theorem e_F_chooseSeen_128 : rn Ls xs d 145 128 [l0, l1, l2, l3, l4] (.inl i :: .inr (.inl (some a)) :: st) (S, I, R) = if h_ia S a 0 i then rn Ls xs d 145 129 [l0, l1, l2, l3, l4] (.inl (I a i.toNatClampNeg) :: st) (S, I, R) else none := rn_bc rfl rfl
theorem e_F_chooseSeen_129 : rn Ls xs (d + 1) 145 129 [l0, l1, l2, l3, l4] [v2, v1, (.inr (.inl (some a)))] (S, I, R) = if h_is S a 0 5 then rb Ls xs (d + 1) 145 132 [l0, l1, l2, l3, l4] [] (rn Ls xs d 185 0 [some (.inr (.inl (some a))), some v1, some v2] [] (S, I, R)) else none := rn_callO rfl rfl (Nat.le_of_ble_eq_true rfl) rfl rfl
theorem e_F_chooseSeen_132 : rn Ls xs d 145 132 [l0, l1, l2, some (.inl x), l4] st H = rn Ls xs d 145 135 [l0, l1, l2, some (.inl (x + 1)), l4] st H := rn_nx rfl rfl
theorem e_F_chooseSeen_135 : rn Ls xs d 145 135 [l0, l1, l2, l3, l4] st H = rn Ls xs d 145 113 [l0, l1, l2, l3, l4] st H := rn_nx rfl rfl
theorem e_F_chooseSeen_138 : rn Ls xs d 145 138 [l0, l1, l2, l3, l4] [] H = some (none, H) := rn_done rfl rfl
theorem e_M_isSheet_0 : rn Ls xs d 146 0 [some (.inl x)] st H = rn Ls xs d 146 1 [some (.inl x)] (.inl x :: st) H := rn_nx rfl rfl
theorem e_M_isSheet_1 : rn Ls xs d 146 1 [l0]  st H = rn Ls xs d 146 2 [l0] (.inl 0 :: st) H := rn_nx rfl rfl
theorem e_M_isSheet_2 : rn Ls xs d 146 2 [l0]  st H = rn Ls xs d 146 3 [l0] (.inl 3 :: st) H := rn_nx rfl rfl
theorem e_M_isSheet_3 : rn Ls xs (d + 1) 146 3 [l0] [v2, v1, v0] H = rb Ls xs (d + 1) 146 6 [l0] [] (rn Ls xs d 97 0 [some v0, some v1, some v2] [] H) := rn_call rfl (Nat.le_of_ble_eq_true rfl) (Nat.le_of_ble_eq_true rfl) rfl rfl
theorem e_M_isSheet_6 : rn Ls xs d 146 6 [l0] [.inl x] H = if h_bo x then some (some (.inl x), H) else none := rn_zret rfl
theorem e_M_round_0 : rn Ls xs d 147 0 [some (.inl x), l1] st H = rn Ls xs d 147 1 [some (.inl x), l1] (.inl x :: st) H := rn_nx rfl rfl
theorem e_M_round_1 : rn Ls xs d 147 1 [l0, l1]  st H = rn Ls xs d 147 3 [l0, l1] (.inl 30 :: st) H := rn_nx rfl rfl
theorem e_M_round_3 : rn Ls xs d 147 3 [l0, l1] (.inl y :: .inl x :: st) H = if y = 0 then none else rn Ls xs d 147 4 [l0, l1] (.inl (x - x / y * y) :: st) H := rn_div (f := fun x y => x - x / y * y) rfl
theorem e_M_round_4 : rn Ls xs d 147 4 [l0, l1] (.inl x :: st) H = rn Ls xs d 147 5 [l0, some (.inl x)] st H := rn_nx rfl rfl
theorem e_M_round_5 : rn Ls xs d 147 5 [l0, some (.inl x)] st H = rn Ls xs d 147 6 [l0, some (.inl x)] (.inl x :: st) H := rn_nx rfl rfl
theorem e_M_round_6 : rn Ls xs d 147 6 [l0, l1] (.inl x :: st) H = if 0 ≤ x then rn Ls xs d 147 16 [l0, l1] st H else rn Ls xs d 147 9 [l0, l1] st H := rn_if (p := fun x => 0 ≤ x) rfl
theorem e_M_round_9 : rn Ls xs d 147 9 [l0, some (.inl x)] st H = rn Ls xs d 147 10 [l0, some (.inl x)] (.inl x :: st) H := rn_nx rfl rfl
theorem e_M_round_10 : rn Ls xs d 147 10 [l0, l1]  st H = rn Ls xs d 147 12 [l0, l1] (.inl 30 :: st) H := rn_nx rfl rfl
theorem e_M_round_12 : rn Ls xs d 147 12 [l0, l1] (.inl y :: .inl x :: st) H = rn Ls xs d 147 13 [l0, l1] (.inl (x + y) :: st) H := rn_nx rfl rfl
theorem e_M_round_13 : rn Ls xs d 147 13 [l0, l1] st H = rn Ls xs d 147 17 [l0, l1] st H := rn_nx rfl rfl
theorem e_M_round_16 : rn Ls xs d 147 16 [l0, some (.inl x)] st H = rn Ls xs d 147 17 [l0, some (.inl x)] (.inl x :: st) H := rn_nx rfl rfl
theorem e_M_round_17 : rn Ls xs d 147 17 [l0, l1] [.inl x] H = some (some (.inl x), H) := rn_done rfl rfl
theorem e_M_apart_0 : rn Ls xs d 148 0 [some (.inl x), l1, l2] st H = rn Ls xs d 148 1 [some (.inl x), l1, l2] (.inl x :: st) H := rn_nx rfl rfl
theorem e_M_apart_1 : rn Ls xs d 148 1 [l0, some (.inl x), l2] st H = rn Ls xs d 148 2 [l0, some (.inl x), l2] (.inl x :: st) H := rn_nx rfl rfl
theorem e_M_apart_2 : rn Ls xs d 148 2 [l0, l1, l2] (.inl y :: .inl x :: st) H = rn Ls xs d 148 3 [l0, l1, l2] (.inl (x - y) :: st) H := rn_nx rfl rfl
theorem e_M_apart_3 : rn Ls xs (d + 1) 148 3 [l0, l1, l2] [v0] H = rb Ls xs (d + 1) 148 6 [l0, l1, l2] [] (rn Ls xs d 147 0 [some v0, none] [] H) := rn_call rfl (Nat.le_of_ble_eq_true rfl) (Nat.le_of_ble_eq_true rfl) rfl rfl
theorem e_M_apart_6 : rn Ls xs d 148 6 [l0, l1, l2] (.inl x :: st) H = rn Ls xs d 148 7 [l0, l1, some (.inl x)] st H := rn_nx rfl rfl
theorem e_M_apart_7 : rn Ls xs d 148 7 [l0, l1, some (.inl x)] st H = rn Ls xs d 148 8 [l0, l1, some (.inl x)] (.inl x :: st) H := rn_nx rfl rfl
theorem e_M_apart_8 : rn Ls xs d 148 8 [l0, l1, l2]  st H = rn Ls xs d 148 10 [l0, l1, l2] (.inl 30 :: st) H := rn_nx rfl rfl
theorem e_M_apart_10 : rn Ls xs d 148 10 [l0, l1, some (.inl x)] st H = rn Ls xs d 148 11 [l0, l1, some (.inl x)] (.inl x :: st) H := rn_nx rfl rfl
theorem e_M_apart_11 : rn Ls xs d 148 11 [l0, l1, l2] (.inl y :: .inl x :: st) H = rn Ls xs d 148 12 [l0, l1, l2] (.inl (x - y) :: st) H := rn_nx rfl rfl
theorem e_M_apart_12 : rn Ls xs d 148 12 [l0, l1, l2] (.inl y :: .inl x :: st) H = if x ≤ y then rn Ls xs d 148 22 [l0, l1, l2] st H else rn Ls xs d 148 15 [l0, l1, l2] st H := rn_cmp (p := fun x y => x ≤ y) rfl
theorem e_M_apart_15 : rn Ls xs d 148 15 [l0, l1, l2]  st H = rn Ls xs d 148 17 [l0, l1, l2] (.inl 30 :: st) H := rn_nx rfl rfl
theorem e_M_apart_17 : rn Ls xs d 148 17 [l0, l1, some (.inl x)] st H = rn Ls xs d 148 18 [l0, l1, some (.inl x)] (.inl x :: st) H := rn_nx rfl rfl
theorem e_M_apart_18 : rn Ls xs d 148 18 [l0, l1, l2] (.inl y :: .inl x :: st) H = rn Ls xs d 148 19 [l0, l1, l2] (.inl (x - y) :: st) H := rn_nx rfl rfl
theorem e_M_apart_19 : rn Ls xs d 148 19 [l0, l1, l2] st H = rn Ls xs d 148 23 [l0, l1, l2] st H := rn_nx rfl rfl
theorem e_M_apart_22 : rn Ls xs d 148 22 [l0, l1, some (.inl x)] st H = rn Ls xs d 148 23 [l0, l1, some (.inl x)] (.inl x :: st) H := rn_nx rfl rfl
theorem e_M_apart_23 : rn Ls xs d 148 23 [l0, l1, l2] [.inl x] H = some (some (.inl x), H) := rn_done rfl rfl
theorem e_S_textFor_0 : rn Ls xs d 149 0 [some (.inr u), l1, l2] st H = rn Ls xs d 149 1 [some (.inr u), l1, l2] (.inr u :: st) H := rn_nx rfl rfl
theorem e_S_textFor_1 : rn Ls xs d 149 1 [l0, l1, l2] (.inr (.inl (some a)) :: st) (S, I, R) = if h_is S a 3 11 then rn Ls xs d 149 4 [l0, l1, l2] (.inl (I a 4) :: st) (S, I, R) else none := rn_bc rfl rfl
theorem e_S_textFor_4 : rn Ls xs d 149 4 [l0, l1, l2]  st H = rn Ls xs d 149 5 [l0, l1, l2] (.inl 1 :: st) H := rn_nx rfl rfl
theorem e_S_textFor_5 : rn Ls xs d 149 5 [l0, l1, l2] (.inl y :: .inl x :: st) H = rn Ls xs d 149 6 [l0, l1, l2] (.inl (x - y) :: st) H := rn_nx rfl rfl
theorem e_S_textFor_6 : rn Ls xs d 149 6 [l0, l1, l2] (.inl x :: st) H = rn Ls xs d 149 7 [l0, l1, some (.inl x)] st H := rn_nx rfl rfl
theorem e_S_textFor_7 : rn Ls xs d 149 7 [l0, l1, some (.inl x)] st H = rn Ls xs d 149 8 [l0, l1, some (.inl x)] (.inl x :: st) H := rn_nx rfl rfl
theorem e_S_textFor_8 : rn Ls xs d 149 8 [l0, l1, l2] (.inl x :: st) H = if x < 0 then rn Ls xs d 149 32 [l0, l1, l2] st H else rn Ls xs d 149 11 [l0, l1, l2] st H := rn_if (p := fun x => x < 0) rfl
theorem e_S_textFor_11 : rn Ls xs d 149 11 [some (.inr u), l1, l2] st H = rn Ls xs d 149 12 [some (.inr u), l1, l2] (.inr u :: st) H := rn_nx rfl rfl
theorem e_S_textFor_12 : rn Ls xs d 149 12 [l0, l1, l2] (.inr (.inl (some a)) :: st) (S, I, R) = if h_is S a 3 11 then rn Ls xs d 149 15 [l0, l1, l2] (.inr (R a 1) :: st) (S, I, R) else none := rn_bc rfl rfl
theorem e_S_textFor_15 : rn Ls xs d 149 15 [l0, l1, some (.inl x)] st H = rn Ls xs d 149 16 [l0, l1, some (.inl x)] (.inl x :: st) H := rn_nx rfl rfl
theorem e_S_textFor_16 : rn Ls xs d 149 16 [l0, l1, l2] (.inl i :: .inr (.inl (some a)) :: st) (S, I, R) = if h_ia S a 5 i then (match R a i.toNatClampNeg with | .inl o => rn Ls xs d 149 17 [l0, l1, l2] (.inr (.inl o) :: st) (S, I, R) | .inr _ => none) else none := rn_aald rfl
theorem e_S_textFor_17 : rn Ls xs d 149 17 [l0, l1, l2] (.inr (.inl (some a)) :: st) (S, I, R) = if h_is S a 6 3 then rn Ls xs d 149 20 [l0, l1, l2] (.inl (I a 0) :: st) (S, I, R) else none := rn_bc rfl rfl
theorem e_S_textFor_20 : rn Ls xs d 149 20 [l0, some (.inl x), l2] st H = rn Ls xs d 149 21 [l0, some (.inl x), l2] (.inl x :: st) H := rn_nx rfl rfl
theorem e_S_textFor_21 : rn Ls xs d 149 21 [l0, l1, l2] (.inl y :: .inl x :: st) H = if x ≠ y then rn Ls xs d 149 26 [l0, l1, l2] st H else rn Ls xs d 149 24 [l0, l1, l2] st H := rn_cmp (p := fun x y => x ≠ y) rfl
theorem e_S_textFor_24 : rn Ls xs d 149 24 [l0, l1, some (.inl x)] st H = rn Ls xs d 149 25 [l0, l1, some (.inl x)] (.inl x :: st) H := rn_nx rfl rfl
theorem e_S_textFor_25 : rn Ls xs d 149 25 [l0, l1, l2] [.inl x] H = some (some (.inl x), H) := rn_done rfl rfl
theorem e_S_textFor_26 : rn Ls xs d 149 26 [l0, l1, some (.inl x)] st H = rn Ls xs d 149 29 [l0, l1, some (.inl (x + (-1)))] st H := rn_nx rfl rfl
theorem e_S_textFor_29 : rn Ls xs d 149 29 [l0, l1, l2] st H = rn Ls xs d 149 7 [l0, l1, l2] st H := rn_nx rfl rfl
theorem e_S_textFor_32 : rn Ls xs d 149 32 [l0, l1, l2]  st H = rn Ls xs d 149 33 [l0, l1, l2] (.inl (-1) :: st) H := rn_nx rfl rfl
theorem e_S_textFor_33 : rn Ls xs d 149 33 [l0, l1, l2] [.inl x] H = some (some (.inl x), H) := rn_done rfl rfl
theorem e_X_valueOf_0 : rn Ls xs d 150 0 [l0, l1, l2, l3, l4, l5, l6, l7]  st H = rn Ls xs d 150 1 [l0, l1, l2, l3, l4, l5, l6, l7] (.inl 0 :: st) H := rn_nx rfl rfl
theorem e_X_valueOf_1 : rn Ls xs d 150 1 [l0, l1, l2, l3, l4, l5, l6, l7] (.inl x :: st) H = rn Ls xs d 150 3 [l0, l1, l2, l3, l4, some (.inl x), l6, l7] st H := rn_nx rfl rfl
theorem e_X_valueOf_3 : rn Ls xs d 150 3 [l0, l1, l2, l3, l4, l5, l6, l7]  st H = rn Ls xs d 150 4 [l0, l1, l2, l3, l4, l5, l6, l7] (.inl 0 :: st) H := rn_nx rfl rfl
theorem e_X_valueOf_4 : rn Ls xs d 150 4 [l0, l1, l2, l3, l4, l5, l6, l7] (.inl x :: st) H = rn Ls xs d 150 6 [l0, l1, l2, l3, l4, l5, some (.inl x), l7] st H := rn_nx rfl rfl
theorem e_X_valueOf_6 : rn Ls xs d 150 6 [l0, l1, l2, l3, l4, l5, some (.inl x), l7] st H = rn Ls xs d 150 8 [l0, l1, l2, l3, l4, l5, some (.inl x), l7] (.inl x :: st) H := rn_nx rfl rfl
theorem e_X_valueOf_8 : rn Ls xs d 150 8 [some (.inr u), l1, l2, l3, l4, l5, l6, l7] st H = rn Ls xs d 150 9 [some (.inr u), l1, l2, l3, l4, l5, l6, l7] (.inr u :: st) H := rn_nx rfl rfl
theorem e_X_valueOf_9 : rn Ls xs d 150 9 [l0, l1, l2, l3, l4, l5, l6, l7] (.inr (.inl (some a)) :: st) (S, I, R) = if h_is S a 6 3 then rn Ls xs d 150 12 [l0, l1, l2, l3, l4, l5, l6, l7] (.inr (R a 2) :: st) (S, I, R) else none := rn_bc rfl rfl
theorem e_X_valueOf_12 : rn Ls xs d 150 12 [l0, l1, l2, l3, l4, l5, l6, l7] (.inr (.inl (some a)) :: st) (S, I, R) = if h_is S a (100 + 0) (S.1 a).2 then rn Ls xs d 150 13 [l0, l1, l2, l3, l4, l5, l6, l7] (.inl (Int32.ofNat (S.1 a).2) :: st) (S, I, R) else none := rn_bc rfl rfl
theorem e_X_valueOf_13 : rn Ls xs d 150 13 [l0, l1, l2, l3, l4, l5, l6, l7] (.inl y :: .inl x :: st) H = if y ≤ x then rn Ls xs d 150 137 [l0, l1, l2, l3, l4, l5, l6, l7] st H else rn Ls xs d 150 16 [l0, l1, l2, l3, l4, l5, l6, l7] st H := rn_cmp (p := fun x y => y ≤ x) rfl
theorem e_X_valueOf_16 : rn Ls xs d 150 16 [l0, l1, l2, l3, l4, some (.inl x), l6, l7] st H = rn Ls xs d 150 18 [l0, l1, l2, l3, l4, some (.inl x), l6, l7] (.inl x :: st) H := rn_nx rfl rfl
theorem e_X_valueOf_18 : rn Ls xs d 150 18 [l0, l1, l2, l3, some (.inr u), l5, l6, l7] st H = rn Ls xs d 150 20 [l0, l1, l2, l3, some (.inr u), l5, l6, l7] (.inr u :: st) H := rn_nx rfl rfl
theorem e_X_valueOf_20 : rn Ls xs d 150 20 [l0, l1, l2, l3, l4, l5, l6, l7] (.inr (.inl (some a)) :: st) (S, I, R) = if h_is S a (100 + 0) (S.1 a).2 then rn Ls xs d 150 21 [l0, l1, l2, l3, l4, l5, l6, l7] (.inl (Int32.ofNat (S.1 a).2) :: st) (S, I, R) else none := rn_bc rfl rfl
theorem e_X_valueOf_21 : rn Ls xs d 150 21 [l0, l1, l2, l3, l4, l5, l6, l7] (.inl y :: .inl x :: st) H = if y ≤ x then rn Ls xs d 150 137 [l0, l1, l2, l3, l4, l5, l6, l7] st H else rn Ls xs d 150 24 [l0, l1, l2, l3, l4, l5, l6, l7] st H := rn_cmp (p := fun x y => y ≤ x) rfl
theorem e_X_valueOf_24 : rn Ls xs d 150 24 [some (.inr u), l1, l2, l3, l4, l5, l6, l7] st H = rn Ls xs d 150 25 [some (.inr u), l1, l2, l3, l4, l5, l6, l7] (.inr u :: st) H := rn_nx rfl rfl
theorem e_X_valueOf_25 : rn Ls xs d 150 25 [l0, l1, l2, l3, l4, l5, l6, l7] (.inr (.inl (some a)) :: st) (S, I, R) = if h_is S a 6 3 then rn Ls xs d 150 28 [l0, l1, l2, l3, l4, l5, l6, l7] (.inr (R a 2) :: st) (S, I, R) else none := rn_bc rfl rfl
theorem e_X_valueOf_28 : rn Ls xs d 150 28 [l0, l1, l2, l3, l4, l5, some (.inl x), l7] st H = rn Ls xs d 150 30 [l0, l1, l2, l3, l4, l5, some (.inl x), l7] (.inl x :: st) H := rn_nx rfl rfl
theorem e_X_valueOf_30 : rn Ls xs d 150 30 [l0, l1, l2, l3, l4, l5, l6, l7] (.inl i :: .inr (.inl (some a)) :: st) (S, I, R) = if h_ia S a 0 i then rn Ls xs d 150 31 [l0, l1, l2, l3, l4, l5, l6, l7] (.inl (I a i.toNatClampNeg) :: st) (S, I, R) else none := rn_bc rfl rfl
theorem e_X_valueOf_31 : rn Ls xs d 150 31 [l0, l1, l2, l3, l4, l5, l6, l7] (.inl x :: st) H = rn Ls xs d 150 33 [l0, l1, l2, l3, l4, l5, l6, some (.inl x)] st H := rn_nx rfl rfl
theorem e_X_valueOf_33 : rn Ls xs d 150 33 [l0, l1, l2, l3, l4, l5, l6, some (.inl x)] st H = rn Ls xs d 150 35 [l0, l1, l2, l3, l4, l5, l6, some (.inl x)] (.inl x :: st) H := rn_nx rfl rfl
theorem e_X_valueOf_35 : rn Ls xs d 150 35 [l0, l1, l2, l3, l4, l5, l6, l7]  st H = rn Ls xs d 150 37 [l0, l1, l2, l3, l4, l5, l6, l7] (.inl (-3) :: st) H := rn_nx rfl rfl
theorem e_X_valueOf_37 : rn Ls xs d 150 37 [l0, l1, l2, l3, l4, l5, l6, l7] (.inl y :: .inl x :: st) H = if x < y then rn Ls xs d 150 59 [l0, l1, l2, l3, l4, l5, l6, l7] st H else rn Ls xs d 150 40 [l0, l1, l2, l3, l4, l5, l6, l7] st H := rn_cmp (p := fun x y => x < y) rfl
theorem e_X_valueOf_40 : rn Ls xs d 150 40 [l0, l1, l2, l3, some (.inr u), l5, l6, l7] st H = rn Ls xs d 150 42 [l0, l1, l2, l3, some (.inr u), l5, l6, l7] (.inr u :: st) H := rn_nx rfl rfl
theorem e_X_valueOf_42 : rn Ls xs d 150 42 [l0, l1, l2, l3, l4, some (.inl x), l6, l7] st H = rn Ls xs d 150 44 [l0, l1, l2, l3, l4, some (.inl x), l6, l7] (.inl x :: st) H := rn_nx rfl rfl
theorem e_X_valueOf_44 : rn Ls xs d 150 44 [l0, l1, l2, l3, l4, l5, l6, some (.inl x)] st H = rn Ls xs d 150 46 [l0, l1, l2, l3, l4, l5, l6, some (.inl x)] (.inl x :: st) H := rn_nx rfl rfl
theorem e_X_valueOf_46 : rn Ls xs d 150 46 [l0, some (.inl x), l2, l3, l4, l5, l6, l7] st H = rn Ls xs d 150 47 [l0, some (.inl x), l2, l3, l4, l5, l6, l7] (.inl x :: st) H := rn_nx rfl rfl
theorem e_X_valueOf_47 : rn Ls xs d 150 47 [l0, l1, some (.inl x), l3, l4, l5, l6, l7] st H = rn Ls xs d 150 48 [l0, l1, some (.inl x), l3, l4, l5, l6, l7] (.inl x :: st) H := rn_nx rfl rfl
theorem e_X_valueOf_48 : rn Ls xs d 150 48 [l0, l1, l2, some (.inl x), l4, l5, l6, l7] st H = rn Ls xs d 150 49 [l0, l1, l2, some (.inl x), l4, l5, l6, l7] (.inl x :: st) H := rn_nx rfl rfl
theorem e_X_valueOf_49 : rn Ls xs (d + 1) 150 49 [l0, l1, l2, l3, l4, l5, l6, l7] [v3, v2, v1, v0, v4, v5] H = rb Ls xs (d + 1) 150 52 [l0, l1, l2, l3, l4, l5, l6, l7] [v4, v5] (rn Ls xs d 190 0 [some v0, some v1, some v2, some v3] [] H) := rn_call rfl (Nat.le_of_ble_eq_true rfl) (Nat.le_of_ble_eq_true rfl) rfl rfl
theorem e_X_valueOf_52 : rn Ls xs d 150 52 [l0, l1, l2, l3, l4, l5, l6, l7] (.inl x :: .inl i :: .inr (.inl (some a)) :: st) (S, I, R) = if h_ia S a 0 i then rn Ls xs d 150 53 [l0, l1, l2, l3, l4, l5, l6, l7] st (S, va_up I a (upd (I a) i.toNatClampNeg x), R) else none := rn_bc rfl rfl
theorem e_X_valueOf_53 : rn Ls xs d 150 53 [l0, l1, l2, l3, l4, some (.inl x), l6, l7] st H = rn Ls xs d 150 56 [l0, l1, l2, l3, l4, some (.inl (x + 1)), l6, l7] st H := rn_nx rfl rfl
theorem e_X_valueOf_56 : rn Ls xs d 150 56 [l0, l1, l2, l3, l4, l5, l6, l7] st H = rn Ls xs d 150 131 [l0, l1, l2, l3, l4, l5, l6, l7] st H := rn_nx rfl rfl
theorem e_X_valueOf_59 : rn Ls xs d 150 59 [l0, l1, l2, l3, l4, l5, l6, some (.inl x)] st H = rn Ls xs d 150 61 [l0, l1, l2, l3, l4, l5, l6, some (.inl x)] (.inl x :: st) H := rn_nx rfl rfl
theorem e_X_valueOf_61 : rn Ls xs d 150 61 [l0, l1, l2, l3, l4, l5, l6, l7]  st H = rn Ls xs d 150 63 [l0, l1, l2, l3, l4, l5, l6, l7] (.inl (-33) :: st) H := rn_nx rfl rfl
theorem e_X_valueOf_63 : rn Ls xs d 150 63 [l0, l1, l2, l3, l4, l5, l6, l7] (.inl y :: .inl x :: st) H = if x ≠ y then rn Ls xs d 150 97 [l0, l1, l2, l3, l4, l5, l6, l7] st H else rn Ls xs d 150 66 [l0, l1, l2, l3, l4, l5, l6, l7] st H := rn_cmp (p := fun x y => x ≠ y) rfl
theorem e_X_valueOf_66 : rn Ls xs d 150 66 [l0, l1, l2, l3, l4, some (.inl x), l6, l7] st H = rn Ls xs d 150 68 [l0, l1, l2, l3, l4, some (.inl x), l6, l7] (.inl x :: st) H := rn_nx rfl rfl
theorem e_X_valueOf_68 : rn Ls xs d 150 68 [l0, l1, l2, l3, l4, l5, l6, l7]  st H = rn Ls xs d 150 69 [l0, l1, l2, l3, l4, l5, l6, l7] (.inl 1 :: st) H := rn_nx rfl rfl
theorem e_X_valueOf_69 : rn Ls xs d 150 69 [l0, l1, l2, l3, l4, l5, l6, l7] (.inl y :: .inl x :: st) H = if x < y then rn Ls xs d 150 131 [l0, l1, l2, l3, l4, l5, l6, l7] st H else rn Ls xs d 150 72 [l0, l1, l2, l3, l4, l5, l6, l7] st H := rn_cmp (p := fun x y => x < y) rfl
theorem e_X_valueOf_72 : rn Ls xs d 150 72 [l0, l1, l2, l3, some (.inr u), l5, l6, l7] st H = rn Ls xs d 150 74 [l0, l1, l2, l3, some (.inr u), l5, l6, l7] (.inr u :: st) H := rn_nx rfl rfl
theorem e_X_valueOf_74 : rn Ls xs d 150 74 [l0, l1, l2, l3, l4, some (.inl x), l6, l7] st H = rn Ls xs d 150 76 [l0, l1, l2, l3, l4, some (.inl x), l6, l7] (.inl x :: st) H := rn_nx rfl rfl
theorem e_X_valueOf_76 : rn Ls xs d 150 76 [l0, l1, l2, l3, l4, l5, l6, l7]  st H = rn Ls xs d 150 77 [l0, l1, l2, l3, l4, l5, l6, l7] (.inl 1 :: st) H := rn_nx rfl rfl
theorem e_X_valueOf_77 : rn Ls xs d 150 77 [l0, l1, l2, l3, l4, l5, l6, l7] (.inl y :: .inl x :: st) H = rn Ls xs d 150 78 [l0, l1, l2, l3, l4, l5, l6, l7] (.inl (x - y) :: st) H := rn_nx rfl rfl
theorem e_X_valueOf_78 : rn Ls xs d 150 78 [l0, l1, l2, l3, some (.inr u), l5, l6, l7] st H = rn Ls xs d 150 80 [l0, l1, l2, l3, some (.inr u), l5, l6, l7] (.inr u :: st) H := rn_nx rfl rfl
theorem e_X_valueOf_80 : rn Ls xs d 150 80 [l0, l1, l2, l3, l4, some (.inl x), l6, l7] st H = rn Ls xs d 150 82 [l0, l1, l2, l3, l4, some (.inl x), l6, l7] (.inl x :: st) H := rn_nx rfl rfl
theorem e_X_valueOf_82 : rn Ls xs d 150 82 [l0, l1, l2, l3, l4, l5, l6, l7]  st H = rn Ls xs d 150 83 [l0, l1, l2, l3, l4, l5, l6, l7] (.inl 1 :: st) H := rn_nx rfl rfl
theorem e_X_valueOf_83 : rn Ls xs d 150 83 [l0, l1, l2, l3, l4, l5, l6, l7] (.inl y :: .inl x :: st) H = rn Ls xs d 150 84 [l0, l1, l2, l3, l4, l5, l6, l7] (.inl (x - y) :: st) H := rn_nx rfl rfl
theorem e_X_valueOf_84 : rn Ls xs d 150 84 [l0, l1, l2, l3, l4, l5, l6, l7] (.inl i :: .inr (.inl (some a)) :: st) (S, I, R) = if h_ia S a 0 i then rn Ls xs d 150 85 [l0, l1, l2, l3, l4, l5, l6, l7] (.inl (I a i.toNatClampNeg) :: st) (S, I, R) else none := rn_bc rfl rfl
theorem e_X_valueOf_85 : rn Ls xs d 150 85 [l0, l1, l2, l3, l4, l5, l6, l7] (.inl x :: st) H = if x ≠ 0 then rn Ls xs d 150 92 [l0, l1, l2, l3, l4, l5, l6, l7] st H else rn Ls xs d 150 88 [l0, l1, l2, l3, l4, l5, l6, l7] st H := rn_if (p := fun x => x ≠ 0) rfl
theorem e_X_valueOf_88 : rn Ls xs d 150 88 [l0, l1, l2, l3, l4, l5, l6, l7]  st H = rn Ls xs d 150 89 [l0, l1, l2, l3, l4, l5, l6, l7] (.inl 1 :: st) H := rn_nx rfl rfl
theorem e_X_valueOf_89 : rn Ls xs d 150 89 [l0, l1, l2, l3, l4, l5, l6, l7] st H = rn Ls xs d 150 93 [l0, l1, l2, l3, l4, l5, l6, l7] st H := rn_nx rfl rfl
theorem e_X_valueOf_92 : rn Ls xs d 150 92 [l0, l1, l2, l3, l4, l5, l6, l7]  st H = rn Ls xs d 150 93 [l0, l1, l2, l3, l4, l5, l6, l7] (.inl 0 :: st) H := rn_nx rfl rfl
theorem e_X_valueOf_93 : rn Ls xs d 150 93 [l0, l1, l2, l3, l4, l5, l6, l7] (.inl x :: .inl i :: .inr (.inl (some a)) :: st) (S, I, R) = if h_ia S a 0 i then rn Ls xs d 150 94 [l0, l1, l2, l3, l4, l5, l6, l7] st (S, va_up I a (upd (I a) i.toNatClampNeg x), R) else none := rn_bc rfl rfl
theorem e_X_valueOf_94 : rn Ls xs d 150 94 [l0, l1, l2, l3, l4, l5, l6, l7] st H = rn Ls xs d 150 131 [l0, l1, l2, l3, l4, l5, l6, l7] st H := rn_nx rfl rfl
theorem e_X_valueOf_97 : rn Ls xs d 150 97 [l0, l1, l2, l3, l4, some (.inl x), l6, l7] st H = rn Ls xs d 150 99 [l0, l1, l2, l3, l4, some (.inl x), l6, l7] (.inl x :: st) H := rn_nx rfl rfl
theorem e_X_valueOf_99 : rn Ls xs d 150 99 [l0, l1, l2, l3, l4, l5, l6, l7]  st H = rn Ls xs d 150 100 [l0, l1, l2, l3, l4, l5, l6, l7] (.inl 2 :: st) H := rn_nx rfl rfl
theorem e_X_valueOf_100 : rn Ls xs d 150 100 [l0, l1, l2, l3, l4, l5, l6, l7] (.inl y :: .inl x :: st) H = if x < y then rn Ls xs d 150 131 [l0, l1, l2, l3, l4, l5, l6, l7] st H else rn Ls xs d 150 103 [l0, l1, l2, l3, l4, l5, l6, l7] st H := rn_cmp (p := fun x y => x < y) rfl
theorem e_X_valueOf_103 : rn Ls xs d 150 103 [l0, l1, l2, l3, l4, some (.inl x), l6, l7] st H = rn Ls xs d 150 106 [l0, l1, l2, l3, l4, some (.inl (x + (-1))), l6, l7] st H := rn_nx rfl rfl
theorem e_X_valueOf_106 : rn Ls xs d 150 106 [l0, l1, l2, l3, some (.inr u), l5, l6, l7] st H = rn Ls xs d 150 108 [l0, l1, l2, l3, some (.inr u), l5, l6, l7] (.inr u :: st) H := rn_nx rfl rfl
theorem e_X_valueOf_108 : rn Ls xs d 150 108 [l0, l1, l2, l3, l4, some (.inl x), l6, l7] st H = rn Ls xs d 150 110 [l0, l1, l2, l3, l4, some (.inl x), l6, l7] (.inl x :: st) H := rn_nx rfl rfl
theorem e_X_valueOf_110 : rn Ls xs d 150 110 [l0, l1, l2, l3, l4, l5, l6, l7]  st H = rn Ls xs d 150 111 [l0, l1, l2, l3, l4, l5, l6, l7] (.inl 1 :: st) H := rn_nx rfl rfl
theorem e_X_valueOf_111 : rn Ls xs d 150 111 [l0, l1, l2, l3, l4, l5, l6, l7] (.inl y :: .inl x :: st) H = rn Ls xs d 150 112 [l0, l1, l2, l3, l4, l5, l6, l7] (.inl (x - y) :: st) H := rn_nx rfl rfl
theorem e_X_valueOf_112 : rn Ls xs d 150 112 [l0, l1, l2, l3, l4, l5, l6, some (.inl x)] st H = rn Ls xs d 150 114 [l0, l1, l2, l3, l4, l5, l6, some (.inl x)] (.inl x :: st) H := rn_nx rfl rfl
theorem e_X_valueOf_114 : rn Ls xs d 150 114 [l0, l1, l2, l3, l4, l5, l6, l7] (.inl x :: st) H = rn Ls xs d 150 115 [l0, l1, l2, l3, l4, l5, l6, l7] (.inl (-x) :: st) H := rn_nx rfl rfl
theorem e_X_valueOf_115 : rn Ls xs d 150 115 [l0, l1, l2, l3, some (.inr u), l5, l6, l7] st H = rn Ls xs d 150 117 [l0, l1, l2, l3, some (.inr u), l5, l6, l7] (.inr u :: st) H := rn_nx rfl rfl
theorem e_X_valueOf_117 : rn Ls xs d 150 117 [l0, l1, l2, l3, l4, some (.inl x), l6, l7] st H = rn Ls xs d 150 119 [l0, l1, l2, l3, l4, some (.inl x), l6, l7] (.inl x :: st) H := rn_nx rfl rfl
theorem e_X_valueOf_119 : rn Ls xs d 150 119 [l0, l1, l2, l3, l4, l5, l6, l7]  st H = rn Ls xs d 150 120 [l0, l1, l2, l3, l4, l5, l6, l7] (.inl 1 :: st) H := rn_nx rfl rfl
theorem e_X_valueOf_120 : rn Ls xs d 150 120 [l0, l1, l2, l3, l4, l5, l6, l7] (.inl y :: .inl x :: st) H = rn Ls xs d 150 121 [l0, l1, l2, l3, l4, l5, l6, l7] (.inl (x - y) :: st) H := rn_nx rfl rfl
theorem e_X_valueOf_121 : rn Ls xs d 150 121 [l0, l1, l2, l3, l4, l5, l6, l7] (.inl i :: .inr (.inl (some a)) :: st) (S, I, R) = if h_ia S a 0 i then rn Ls xs d 150 122 [l0, l1, l2, l3, l4, l5, l6, l7] (.inl (I a i.toNatClampNeg) :: st) (S, I, R) else none := rn_bc rfl rfl
theorem e_X_valueOf_122 : rn Ls xs d 150 122 [l0, l1, l2, l3, some (.inr u), l5, l6, l7] st H = rn Ls xs d 150 124 [l0, l1, l2, l3, some (.inr u), l5, l6, l7] (.inr u :: st) H := rn_nx rfl rfl
theorem e_X_valueOf_124 : rn Ls xs d 150 124 [l0, l1, l2, l3, l4, some (.inl x), l6, l7] st H = rn Ls xs d 150 126 [l0, l1, l2, l3, l4, some (.inl x), l6, l7] (.inl x :: st) H := rn_nx rfl rfl
theorem e_X_valueOf_126 : rn Ls xs d 150 126 [l0, l1, l2, l3, l4, l5, l6, l7] (.inl i :: .inr (.inl (some a)) :: st) (S, I, R) = if h_ia S a 0 i then rn Ls xs d 150 127 [l0, l1, l2, l3, l4, l5, l6, l7] (.inl (I a i.toNatClampNeg) :: st) (S, I, R) else none := rn_bc rfl rfl
theorem e_X_valueOf_127 : rn Ls xs (d + 1) 150 127 [l0, l1, l2, l3, l4, l5, l6, l7] [v2, v1, v0, v3, v4] H = rb Ls xs (d + 1) 150 130 [l0, l1, l2, l3, l4, l5, l6, l7] [v3, v4] (rn Ls xs d 191 0 [some v0, some v1, some v2] [] H) := rn_call rfl (Nat.le_of_ble_eq_true rfl) (Nat.le_of_ble_eq_true rfl) rfl rfl
theorem e_X_valueOf_130 : rn Ls xs d 150 130 [l0, l1, l2, l3, l4, l5, l6, l7] (.inl x :: .inl i :: .inr (.inl (some a)) :: st) (S, I, R) = if h_ia S a 0 i then rn Ls xs d 150 131 [l0, l1, l2, l3, l4, l5, l6, l7] st (S, va_up I a (upd (I a) i.toNatClampNeg x), R) else none := rn_bc rfl rfl
theorem e_X_valueOf_131 : rn Ls xs d 150 131 [l0, l1, l2, l3, l4, l5, some (.inl x), l7] st H = rn Ls xs d 150 134 [l0, l1, l2, l3, l4, l5, some (.inl (x + 1)), l7] st H := rn_nx rfl rfl
theorem e_X_valueOf_134 : rn Ls xs d 150 134 [l0, l1, l2, l3, l4, l5, l6, l7] st H = rn Ls xs d 150 6 [l0, l1, l2, l3, l4, l5, l6, l7] st H := rn_nx rfl rfl
theorem e_X_valueOf_137 : rn Ls xs d 150 137 [l0, l1, l2, l3, l4, some (.inl x), l6, l7] st H = rn Ls xs d 150 139 [l0, l1, l2, l3, l4, some (.inl x), l6, l7] (.inl x :: st) H := rn_nx rfl rfl
theorem e_X_valueOf_139 : rn Ls xs d 150 139 [l0, l1, l2, l3, l4, l5, l6, l7] (.inl x :: st) H = if x ≤ 0 then rn Ls xs d 150 149 [l0, l1, l2, l3, l4, l5, l6, l7] st H else rn Ls xs d 150 142 [l0, l1, l2, l3, l4, l5, l6, l7] st H := rn_if (p := fun x => x ≤ 0) rfl
theorem e_X_valueOf_142 : rn Ls xs d 150 142 [l0, l1, l2, l3, some (.inr u), l5, l6, l7] st H = rn Ls xs d 150 144 [l0, l1, l2, l3, some (.inr u), l5, l6, l7] (.inr u :: st) H := rn_nx rfl rfl
theorem e_X_valueOf_144 : rn Ls xs d 150 144 [l0, l1, l2, l3, l4, l5, l6, l7]  st H = rn Ls xs d 150 145 [l0, l1, l2, l3, l4, l5, l6, l7] (.inl 0 :: st) H := rn_nx rfl rfl
theorem e_X_valueOf_145 : rn Ls xs d 150 145 [l0, l1, l2, l3, l4, l5, l6, l7] (.inl i :: .inr (.inl (some a)) :: st) (S, I, R) = if h_ia S a 0 i then rn Ls xs d 150 146 [l0, l1, l2, l3, l4, l5, l6, l7] (.inl (I a i.toNatClampNeg) :: st) (S, I, R) else none := rn_bc rfl rfl
theorem e_X_valueOf_146 : rn Ls xs d 150 146 [l0, l1, l2, l3, l4, l5, l6, l7] st H = rn Ls xs d 150 150 [l0, l1, l2, l3, l4, l5, l6, l7] st H := rn_nx rfl rfl
theorem e_X_valueOf_149 : rn Ls xs d 150 149 [l0, l1, l2, l3, l4, l5, l6, l7]  st H = rn Ls xs d 150 150 [l0, l1, l2, l3, l4, l5, l6, l7] (.inl 0 :: st) H := rn_nx rfl rfl
theorem e_X_valueOf_150 : rn Ls xs d 150 150 [l0, l1, l2, l3, l4, l5, l6, l7] [.inl x] H = some (some (.inl x), H) := rn_done rfl rfl
theorem e_M_counts_0 : rn Ls xs d 151 0 [some (.inr u), l1, l2] st H = rn Ls xs d 151 1 [some (.inr u), l1, l2] (.inr u :: st) H := rn_nx rfl rfl
theorem e_M_counts_1 : rn Ls xs d 151 1 [l0, l1, l2] (.inr (.inl (some a)) :: st) (S, I, R) = if h_is S a 9 36 then rn Ls xs d 151 4 [l0, l1, l2] (.inr (R a 0) :: st) (S, I, R) else none := rn_bc rfl rfl
theorem e_M_counts_4 : rn Ls xs d 151 4 [l0, l1, l2]  st H = rn Ls xs d 151 6 [l0, l1, l2] (.inl 7 :: st) H := rn_nx rfl rfl
theorem e_M_counts_6 : rn Ls xs d 151 6 [l0, l1, l2] (.inl i :: .inr (.inl (some a)) :: st) (S, I, R) = if h_ia S a 0 i then rn Ls xs d 151 7 [l0, l1, l2] (.inl (I a i.toNatClampNeg) :: st) (S, I, R) else none := rn_bc rfl rfl
theorem e_M_counts_7 : rn Ls xs d 151 7 [l0, l1, l2]  st H = rn Ls xs d 151 8 [l0, l1, l2] (.inl 1 :: st) H := rn_nx rfl rfl
theorem e_M_counts_8 : rn Ls xs d 151 8 [l0, l1, l2] (.inl y :: .inl x :: st) H = rn Ls xs d 151 9 [l0, l1, l2] (.inl (x - y) :: st) H := rn_nx rfl rfl
theorem e_M_counts_9 : rn Ls xs d 151 9 [l0, l1, l2] (.inl x :: st) H = rn Ls xs d 151 10 [l0, l1, some (.inl x)] st H := rn_nx rfl rfl
theorem e_M_counts_10 : rn Ls xs d 151 10 [l0, l1, some (.inl x)] st H = rn Ls xs d 151 11 [l0, l1, some (.inl x)] (.inl x :: st) H := rn_nx rfl rfl
theorem e_M_counts_11 : rn Ls xs d 151 11 [l0, l1, l2] (.inl x :: st) H = if x < 0 then rn Ls xs d 151 41 [l0, l1, l2] st H else rn Ls xs d 151 14 [l0, l1, l2] st H := rn_if (p := fun x => x < 0) rfl
theorem e_M_counts_14 : rn Ls xs d 151 14 [some (.inr u), l1, l2] st H = rn Ls xs d 151 15 [some (.inr u), l1, l2] (.inr u :: st) H := rn_nx rfl rfl
theorem e_M_counts_15 : rn Ls xs d 151 15 [l0, l1, l2] (.inr (.inl (some a)) :: st) (S, I, R) = if h_is S a 9 36 then rn Ls xs d 151 18 [l0, l1, l2] (.inr (R a 0) :: st) (S, I, R) else none := rn_bc rfl rfl
theorem e_M_counts_18 : rn Ls xs d 151 18 [l0, l1, l2]  st H = rn Ls xs d 151 20 [l0, l1, l2] (.inl 92 :: st) H := rn_nx rfl rfl
theorem e_M_counts_20 : rn Ls xs d 151 20 [l0, l1, l2]  st H = rn Ls xs d 151 21 [l0, l1, l2] (.inl 2 :: st) H := rn_nx rfl rfl
theorem e_M_counts_21 : rn Ls xs d 151 21 [l0, l1, some (.inl x)] st H = rn Ls xs d 151 22 [l0, l1, some (.inl x)] (.inl x :: st) H := rn_nx rfl rfl
theorem e_M_counts_22 : rn Ls xs d 151 22 [l0, l1, l2] (.inl y :: .inl x :: st) H = rn Ls xs d 151 23 [l0, l1, l2] (.inl (x * y) :: st) H := rn_nx rfl rfl
theorem e_M_counts_23 : rn Ls xs d 151 23 [l0, l1, l2] (.inl y :: .inl x :: st) H = rn Ls xs d 151 24 [l0, l1, l2] (.inl (x + y) :: st) H := rn_nx rfl rfl
theorem e_M_counts_24 : rn Ls xs d 151 24 [l0, l1, l2] (.inl i :: .inr (.inl (some a)) :: st) (S, I, R) = if h_ia S a 0 i then rn Ls xs d 151 25 [l0, l1, l2] (.inl (I a i.toNatClampNeg) :: st) (S, I, R) else none := rn_bc rfl rfl
theorem e_M_counts_25 : rn Ls xs d 151 25 [l0, l1, l2]  st H = rn Ls xs d 151 28 [l0, l1, l2] (.inl 1000 :: st) H := rn_nx rfl rfl
theorem e_M_counts_28 : rn Ls xs d 151 28 [l0, l1, l2] (.inl y :: .inl x :: st) H = if y = 0 then none else rn Ls xs d 151 29 [l0, l1, l2] (.inl (x / y) :: st) H := rn_div (f := fun x y => x / y) rfl
theorem e_M_counts_29 : rn Ls xs d 151 29 [l0, some (.inl x), l2] st H = rn Ls xs d 151 30 [l0, some (.inl x), l2] (.inl x :: st) H := rn_nx rfl rfl
theorem e_M_counts_30 : rn Ls xs d 151 30 [l0, l1, l2] (.inl y :: .inl x :: st) H = if x ≠ y then rn Ls xs d 151 35 [l0, l1, l2] st H else rn Ls xs d 151 33 [l0, l1, l2] st H := rn_cmp (p := fun x y => x ≠ y) rfl
theorem e_M_counts_33 : rn Ls xs d 151 33 [l0, l1, some (.inl x)] st H = rn Ls xs d 151 34 [l0, l1, some (.inl x)] (.inl x :: st) H := rn_nx rfl rfl
theorem e_M_counts_34 : rn Ls xs d 151 34 [l0, l1, l2] [.inl x] H = some (some (.inl x), H) := rn_done rfl rfl
theorem e_M_counts_35 : rn Ls xs d 151 35 [l0, l1, some (.inl x)] st H = rn Ls xs d 151 38 [l0, l1, some (.inl (x + (-1)))] st H := rn_nx rfl rfl
theorem e_M_counts_38 : rn Ls xs d 151 38 [l0, l1, l2] st H = rn Ls xs d 151 10 [l0, l1, l2] st H := rn_nx rfl rfl
theorem e_M_counts_41 : rn Ls xs d 151 41 [l0, l1, l2]  st H = rn Ls xs d 151 42 [l0, l1, l2] (.inl (-1) :: st) H := rn_nx rfl rfl
theorem e_M_counts_42 : rn Ls xs d 151 42 [l0, l1, l2] [.inl x] H = some (some (.inl x), H) := rn_done rfl rfl
end EQ

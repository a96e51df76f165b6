/-! THE REFERENCE's small methods -/
theorem bo_1 : h_bo 1 = true := rfl
theorem bo_0 : h_bo 0 = true := rfl
theorem li (n : Nat) : (OfNat.ofNat n : Int32) = nI n := rfl
theorem bo_if {c : Prop} [Decidable c] : h_bo (if c then 1 else 0) = true := by split <;> rfl
theorem i_lt (a b : Int32) : a < b ↔ a.toInt < b.toInt := Int32.lt_iff_toInt_lt
theorem i_le (a b : Int32) : a ≤ b ↔ a.toInt ≤ b.toInt := Int32.le_iff_toInt_le
theorem i_nlt {a b : Int32} : ¬ a < b ↔ b ≤ a := by rw [i_lt, i_le]; omega
theorem i_nle {a b : Int32} : ¬ a ≤ b ↔ b < a := by rw [i_lt, i_le]; omega
theorem it_i {c : Prop} [Decidable c] {a b : Int32} {H : mH} : (if c then some (some (Sum.inl a), H) else some (some (Sum.inl b), H) : Option mRes) = some (some (.inl (if c then a else b)), H) := by split <;> rfl
theorem vu_s {I : mI} {a : Nat} {f : Nat → Int32} : va_up I a f a = f := va_up_s _ _ _
theorem vu_n {I : mI} {a b : Nat} {f : Nat → Int32} (h : b ≠ a) : va_up I a f b = I b := va_up_n _ _ h
theorem up_s {f : Nat → Int32} {k : Nat} {x : Int32} : upd f k x k = x := by simp [upd]
theorem up_n {f : Nat → Int32} {k j : Nat} {x : Int32} (h : j ≠ k) : upd f k x j = f j := by simp [upd, h]
theorem vu_vu {I : mI} {a : Nat} {f g : Nat → Int32} : va_up (va_up I a f) a g = va_up I a g := by
  funext b
  by_cases h : b = a
  · subst h; rw [vu_s, vu_s]
  · rw [vu_n h, vu_n h, vu_n h]
theorem vu_id {I : mI} {a : Nat} : va_up I a (I a) = I := by
  funext b
  by_cases h : b = a
  · subst h; rw [vu_s]
  · rw [vu_n h]
/-- x % m -/
abbrev rem (x m : Int32) : Int32 := x - x / m * m
abbrev sh8 (x : Int32) : Int32 := (x.toUInt32 >>> ((8 : Int32).toUInt32 &&& Int32.toUInt32 31)).toInt32
section MT1
variable {Ls : Nat} {xs : Nat → Int32} {d : Nat} {S : mS} {I : mI} {R : mR} {x y z : Int32} {H : mH}
theorem k_M_in : rn Ls xs d 97 0 [some (.inl x), some (.inl y), some (.inl z)] [] H = some (some (.inl (if y ≤ x ∧ x ≤ z then 1 else 0)), H) := by
  simp only [e_M_in_0, e_M_in_1, e_M_in_2, e_M_in_5, e_M_in_6, e_M_in_7, e_M_in_10, e_M_in_11, e_M_in_14, e_M_in_15, bo_0, bo_1, if_true, it_i]
  congr 4
  simp only [i_lt, i_le]
  repeat' split
  all_goals first | rfl | omega
theorem k_M_within : rn Ls xs d 120 0 [some (.inl x), some (.inl y), some (.inl z)] [] H = some (some (.inl (if x < y then y else if z < x then z else x)), H) := by
  simp only [e_M_within_0, e_M_within_1, e_M_within_2, e_M_within_5, e_M_within_6, e_M_within_9, e_M_within_10, e_M_within_11, e_M_within_14, e_M_within_15, e_M_within_18, e_M_within_19, it_i]
  congr 4
  simp only [i_lt, i_le]
  repeat' split
  all_goals first | rfl | omega
theorem k_M_round : rn Ls xs d 147 0 [some (.inl x), none] [] H = some (some (.inl (if rem x 30 < 0 then rem x 30 + 30 else rem x 30)), H) := by
  simp only [e_M_round_0, e_M_round_1, e_M_round_3, e_M_round_4, e_M_round_5, e_M_round_6, e_M_round_9, e_M_round_10, e_M_round_12, e_M_round_13, e_M_round_16, e_M_round_17]
  rw [if_neg (by decide)]
  simp only [it_i]
  congr 4
  simp only [i_lt, i_le, rem]
  repeat' split
  all_goals first | rfl | omega
theorem k_M_isUnder : rn Ls xs d 110 0 [some (.inl x), some (.inl y)] [] H = some (some (.inl (if y = 0 ∨ x = y ∨ (y = 1 ∧ x = 3) ∨ (y = 2 ∧ x = 4) then 1 else 0)), H) := by
  simp only [e_M_isUnder_0, e_M_isUnder_1, e_M_isUnder_4, e_M_isUnder_5, e_M_isUnder_6, e_M_isUnder_9, e_M_isUnder_10, e_M_isUnder_11, e_M_isUnder_14, e_M_isUnder_15, e_M_isUnder_16, e_M_isUnder_19, e_M_isUnder_20, e_M_isUnder_21, e_M_isUnder_24, e_M_isUnder_25, e_M_isUnder_26, e_M_isUnder_29, e_M_isUnder_30, e_M_isUnder_33, e_M_isUnder_34, bo_0, bo_1, if_true, it_i]
  congr 4
  by_cases h1 : y = 0 <;> by_cases h2 : x = y <;> by_cases h3 : y = 1 <;> by_cases h4 : y = 2 <;> by_cases h5 : x = 3 <;> by_cases h6 : x = 4 <;> simp_all
theorem k_M_of (h : WF S R) {w k : Nat} (hw : w < 14) (hk : k < 6) : rn Ls xs d 105 0 [some (.inr (.inl (some 93))), some (.inl (nI w)), some (.inl (nI k))] [] (S, I, R) = some (some (.inl (I 94 (8 + 6 * w + k))), (S, I, R)) := by
  simp only [e_M_of_0, e_M_of_1, e_M_of_4, e_M_of_6, e_M_of_8, e_M_of_9, e_M_of_10, e_M_of_11, e_M_of_12, e_M_of_13, e_M_of_14, is_93 h, rf_93_0 h, if_true]
  rw [show (8 : Int32) + 6 * nI w + nI k = nI (8 + 6 * w + k) by simp only [li, pk_mul, nI_add], ia_94 h (by omega), if_pos rfl, nI_clamp (by omega)]
theorem k_M_put (h : WF S R) {w k : Nat} (hw : w < 14) (hk : k < 6) : rn Ls xs d 114 0 [some (.inr (.inl (some 93))), some (.inl (nI w)), some (.inl (nI k)), some (.inl x)] [] (S, I, R) = some (none, (S, va_up I 94 (upd (I 94) (8 + 6 * w + k) x), R)) := by
  simp only [e_M_put_0, e_M_put_1, e_M_put_4, e_M_put_6, e_M_put_8, e_M_put_9, e_M_put_10, e_M_put_11, e_M_put_12, e_M_put_13, e_M_put_14, e_M_put_15, is_93 h, rf_93_0 h, if_true]
  rw [show (8 : Int32) + 6 * nI w + nI k = nI (8 + 6 * w + k) by simp only [li, pk_mul, nI_add], ia_94 h (by omega), if_pos rfl, nI_clamp (by omega)]
theorem k_M_becomes (h : WF S R) {k : Nat} (hk : k < 1464) : rn Ls xs d 111 0 [some (.inr (.inl (some 93))), some (.inl (nI k)), some (.inl x), none] [] (S, I, R) = some (some (.inl (I 94 k)), (S, va_up I 94 (upd (I 94) k x), R)) := by
  simp only [e_M_becomes_0, e_M_becomes_1, e_M_becomes_4, e_M_becomes_5, e_M_becomes_6, e_M_becomes_7, e_M_becomes_8, e_M_becomes_11, e_M_becomes_12, e_M_becomes_13, e_M_becomes_14, e_M_becomes_15, is_93 h, rf_93_0 h, if_true, ia_94 h hk, nI_clamp (show k < 2 ^ 31 by omega)]
theorem k_M_isUp (h : WF S R) {w : Nat} (hw : w < 14) : rn Ls xs (d + 1) 113 0 [some (.inr (.inl (some 93))), some (.inl (nI w))] [] (S, I, R) = some (some (.inl (if I 94 (8 + 6 * w + 5) = 1 then 1 else 0)), (S, I, R)) := by
  simp only [e_M_isUp_0, e_M_isUp_1, e_M_isUp_2, e_M_isUp_3, e_M_isUp_6, e_M_isUp_7, e_M_isUp_10, e_M_isUp_11, e_M_isUp_14, e_M_isUp_15, is_93 h, if_true, show (5 : Int32) = nI 5 from rfl, k_M_of h hw (show 5 < 6 by decide), rb_i, bo_0, bo_1, it_i, ne_eq, ite_not]
theorem k_M_draw (h : WF S R) : rn Ls xs d 118 0 [some (.inr (.inl (some 93)))] [] (S, I, R) = some (some (.inl (sh8 (I 94 0 * 1103515245 + 12345))), (S, va_up I 94 (upd (I 94) 0 (I 94 0 * 1103515245 + 12345)), R)) := by
  simp only [e_M_draw_0, e_M_draw_1, e_M_draw_4, e_M_draw_5, e_M_draw_6, e_M_draw_9, e_M_draw_10, e_M_draw_11, e_M_draw_13, e_M_draw_14, e_M_draw_17, e_M_draw_18, e_M_draw_19, e_M_draw_20, e_M_draw_23, e_M_draw_24, e_M_draw_25, e_M_draw_27, e_M_draw_28, is_93 h, rf_93_0 h, if_true, show (0 : Int32) = nI 0 from rfl, ia_94 h (show 0 < 1464 by decide), nI_clamp (show 0 < 2 ^ 31 by decide), vu_s, up_s]
theorem k_M_isWreck (h : WF S R) {n : Nat} (hn : n ≤ 14) (e : I 94 1 = nI n) : rn Ls xs (d + 1) 104 0 [some (.inr (.inl (some 93))), some (.inl x)] [] (S, I, R) = some (some (.inl (if 0 ≤ x ∧ x ≤ nI n - 1 then 1 else 0)), (S, I, R)) := by
  simp only [e_M_isWreck_0, e_M_isWreck_1, e_M_isWreck_2, e_M_isWreck_3, e_M_isWreck_6, e_M_isWreck_7, e_M_isWreck_8, e_M_isWreck_9, e_M_isWreck_10, e_M_isWreck_13, is_93 h, rf_93_0 h, if_true, show ∀ f : Int32 → Bool, f 1 = f (nI 1) from fun _ => rfl, k_M_in, rb_i, bo_if]
  rw [show (1 : Int32) = nI 1 from rfl, ia_94 h (show 1 < 1464 by decide)]
  simp only [if_true, nI_clamp (show 1 < 2 ^ 31 by decide), e, k_M_in, rb_i, bo_if]
theorem k_M_of_0 (h : WF S R) {w : Nat} (hw : w < 14) : rn Ls xs d 105 0 [some (.inr (.inl (some 93))), some (.inl (nI w)), some (.inl 0)] [] (S, I, R) = some (some (.inl (I 94 (8 + 6 * w))), (S, I, R)) := k_M_of h hw (k := 0) (by decide)
theorem k_M_of_1 (h : WF S R) {w : Nat} (hw : w < 14) : rn Ls xs d 105 0 [some (.inr (.inl (some 93))), some (.inl (nI w)), some (.inl 1)] [] (S, I, R) = some (some (.inl (I 94 (8 + 6 * w + 1))), (S, I, R)) := k_M_of h hw (k := 1) (by decide)
theorem k_M_of_2 (h : WF S R) {w : Nat} (hw : w < 14) : rn Ls xs d 105 0 [some (.inr (.inl (some 93))), some (.inl (nI w)), some (.inl 2)] [] (S, I, R) = some (some (.inl (I 94 (8 + 6 * w + 2))), (S, I, R)) := k_M_of h hw (k := 2) (by decide)
theorem k_M_of_3 (h : WF S R) {w : Nat} (hw : w < 14) : rn Ls xs d 105 0 [some (.inr (.inl (some 93))), some (.inl (nI w)), some (.inl 3)] [] (S, I, R) = some (some (.inl (I 94 (8 + 6 * w + 3))), (S, I, R)) := k_M_of h hw (k := 3) (by decide)
theorem k_M_of_4 (h : WF S R) {w : Nat} (hw : w < 14) : rn Ls xs d 105 0 [some (.inr (.inl (some 93))), some (.inl (nI w)), some (.inl 4)] [] (S, I, R) = some (some (.inl (I 94 (8 + 6 * w + 4))), (S, I, R)) := k_M_of h hw (k := 4) (by decide)
theorem k_M_of_5 (h : WF S R) {w : Nat} (hw : w < 14) : rn Ls xs d 105 0 [some (.inr (.inl (some 93))), some (.inl (nI w)), some (.inl 5)] [] (S, I, R) = some (some (.inl (I 94 (8 + 6 * w + 5))), (S, I, R)) := k_M_of h hw (k := 5) (by decide)
theorem k_M_put_0 (h : WF S R) {w : Nat} (hw : w < 14) : rn Ls xs d 114 0 [some (.inr (.inl (some 93))), some (.inl (nI w)), some (.inl 0), some (.inl x)] [] (S, I, R) = some (none, (S, va_up I 94 (upd (I 94) (8 + 6 * w) x), R)) := k_M_put h hw (k := 0) (by decide)
theorem k_M_put_1 (h : WF S R) {w : Nat} (hw : w < 14) : rn Ls xs d 114 0 [some (.inr (.inl (some 93))), some (.inl (nI w)), some (.inl 1), some (.inl x)] [] (S, I, R) = some (none, (S, va_up I 94 (upd (I 94) (8 + 6 * w + 1) x), R)) := k_M_put h hw (k := 1) (by decide)
theorem k_M_put_2 (h : WF S R) {w : Nat} (hw : w < 14) : rn Ls xs d 114 0 [some (.inr (.inl (some 93))), some (.inl (nI w)), some (.inl 2), some (.inl x)] [] (S, I, R) = some (none, (S, va_up I 94 (upd (I 94) (8 + 6 * w + 2) x), R)) := k_M_put h hw (k := 2) (by decide)
theorem k_M_put_3 (h : WF S R) {w : Nat} (hw : w < 14) : rn Ls xs d 114 0 [some (.inr (.inl (some 93))), some (.inl (nI w)), some (.inl 3), some (.inl x)] [] (S, I, R) = some (none, (S, va_up I 94 (upd (I 94) (8 + 6 * w + 3) x), R)) := k_M_put h hw (k := 3) (by decide)
theorem k_M_put_4 (h : WF S R) {w : Nat} (hw : w < 14) : rn Ls xs d 114 0 [some (.inr (.inl (some 93))), some (.inl (nI w)), some (.inl 4), some (.inl x)] [] (S, I, R) = some (none, (S, va_up I 94 (upd (I 94) (8 + 6 * w + 4) x), R)) := k_M_put h hw (k := 4) (by decide)
theorem k_M_put_5 (h : WF S R) {w : Nat} (hw : w < 14) : rn Ls xs d 114 0 [some (.inr (.inl (some 93))), some (.inl (nI w)), some (.inl 5), some (.inl x)] [] (S, I, R) = some (none, (S, va_up I 94 (upd (I 94) (8 + 6 * w + 5) x), R)) := k_M_put h hw (k := 5) (by decide)
theorem ia94_0 (h : WF S R) : h_ia S 94 0 0 = true := ia_94 h (n := 0) (by decide)
theorem ia94_1 (h : WF S R) : h_ia S 94 0 1 = true := ia_94 h (n := 1) (by decide)
theorem ia94_2 (h : WF S R) : h_ia S 94 0 2 = true := ia_94 h (n := 2) (by decide)
theorem ia94_3 (h : WF S R) : h_ia S 94 0 3 = true := ia_94 h (n := 3) (by decide)
theorem ia94_4 (h : WF S R) : h_ia S 94 0 4 = true := ia_94 h (n := 4) (by decide)
theorem ia94_5 (h : WF S R) : h_ia S 94 0 5 = true := ia_94 h (n := 5) (by decide)
theorem ia94_6 (h : WF S R) : h_ia S 94 0 6 = true := ia_94 h (n := 6) (by decide)
theorem ia94_7 (h : WF S R) : h_ia S 94 0 7 = true := ia_94 h (n := 7) (by decide)
theorem cl_0 : (0 : Int32).toNatClampNeg = 0 := rfl
theorem cl_1 : (1 : Int32).toNatClampNeg = 1 := rfl
theorem cl_2 : (2 : Int32).toNatClampNeg = 2 := rfl
theorem cl_3 : (3 : Int32).toNatClampNeg = 3 := rfl
theorem cl_4 : (4 : Int32).toNatClampNeg = 4 := rfl
theorem cl_5 : (5 : Int32).toNatClampNeg = 5 := rfl
theorem cl_6 : (6 : Int32).toNatClampNeg = 6 := rfl
theorem cl_7 : (7 : Int32).toNatClampNeg = 7 := rfl
theorem k_M_isOf {k : Int32} : rn Ls xs (d + 1) 98 0 [some (.inl k), some (.inl x)] [] H = some (some (.inl (if k = 1 then (if 0 ≤ x ∧ x ≤ 7 then 1 else 0) else if k = 2 then (if 0 ≤ x ∧ x ≤ 29 then 1 else 0) else if k = 3 then (if (-9) ≤ x ∧ x ≤ 9 then 1 else 0) else if k = 4 then (if 1 ≤ x ∧ x ≤ 99 then 1 else 0) else if 0 ≤ x ∧ x ≤ 1 then 1 else 0)), H) := by
  simp only [e_M_isOf_0, e_M_isOf_1, e_M_isOf_32, e_M_isOf_33, e_M_isOf_34, e_M_isOf_36, e_M_isOf_39, e_M_isOf_40, e_M_isOf_41, e_M_isOf_42, e_M_isOf_44, e_M_isOf_47, e_M_isOf_48, e_M_isOf_49, e_M_isOf_51, e_M_isOf_53, e_M_isOf_56, e_M_isOf_57, e_M_isOf_58, e_M_isOf_59, e_M_isOf_61, e_M_isOf_64, e_M_isOf_65, e_M_isOf_66, e_M_isOf_67, e_M_isOf_68, e_M_isOf_71, k_M_in, rb_i, bo_if, if_true, it_i]
def goesS (a : Nat → Int32) (w : Nat) : Int32 := if a (8 + 6 * w) = 2 then a (8 + 6 * w + 3) + 1 else if a (8 + 6 * w) = 3 then (if rem (a 2) 2 = 1 then 0 else a (8 + 6 * w + 3)) else if a (8 + 6 * w) = 4 then -1 - a (8 + 6 * w + 3) else if a (8 + 6 * w) = 5 then (if a (8 + 6 * w + 3) = 0 then 1 else a (8 + 6 * w + 3)) else a (8 + 6 * w + 3)
theorem k_M_goesOf (h : WF S R) {w : Nat} (hw : w < 14) : rn Ls xs (d + 1) 107 0 [some (.inr (.inl (some 93))), some (.inl (nI w)), none] [] (S, I, R) = some (some (.inl (goesS (I 94) w)), (S, I, R)) := by
  simp only [e_M_goesOf_0, e_M_goesOf_1, e_M_goesOf_2, e_M_goesOf_3, e_M_goesOf_6, e_M_goesOf_7, e_M_goesOf_8, e_M_goesOf_9, e_M_goesOf_10, e_M_goesOf_13, e_M_goesOf_44, e_M_goesOf_45, e_M_goesOf_46, e_M_goesOf_47, e_M_goesOf_48, e_M_goesOf_49, e_M_goesOf_52, e_M_goesOf_53, e_M_goesOf_54, e_M_goesOf_55, e_M_goesOf_56, e_M_goesOf_57, e_M_goesOf_60, e_M_goesOf_61, e_M_goesOf_64, e_M_goesOf_65, e_M_goesOf_66, e_M_goesOf_67, e_M_goesOf_68, e_M_goesOf_69, e_M_goesOf_70, e_M_goesOf_71, e_M_goesOf_74, e_M_goesOf_75, e_M_goesOf_78, e_M_goesOf_79, e_M_goesOf_80, e_M_goesOf_81, is_93 h, rf_93_0 h, if_true, k_M_of_0 h hw, k_M_of_3 h hw, rb_i, ia94_2 h, cl_2, show ¬ (2 : Int32) = 0 by decide, if_false, it_i, ne_eq, ite_not, goesS, rem]
def worthS (a : Nat → Int32) (w : Nat) : Int32 := if a (8 + 6 * w) = 1 then a (8 + 6 * w + 4) + 9 else if a (8 + 6 * w) = 2 then 99 - a (8 + 6 * w + 4) else if a (8 + 6 * w) = 3 then 2 * (a (8 + 6 * w + 4) + 9) else if a (8 + 6 * w) = 4 then 94 - a (8 + 6 * w + 4) else if a (8 + 6 * w) = 5 then 2 else a (8 + 6 * w + 4)
theorem k_M_worthOf (h : WF S R) {w : Nat} (hw : w < 14) : rn Ls xs (d + 1) 108 0 [some (.inr (.inl (some 93))), some (.inl (nI w)), none] [] (S, I, R) = some (some (.inl (worthS (I 94) w)), (S, I, R)) := by
  simp only [e_M_worthOf_0, e_M_worthOf_1, e_M_worthOf_2, e_M_worthOf_3, e_M_worthOf_6, e_M_worthOf_7, e_M_worthOf_8, e_M_worthOf_9, e_M_worthOf_10, e_M_worthOf_13, e_M_worthOf_48, e_M_worthOf_49, e_M_worthOf_51, e_M_worthOf_52, e_M_worthOf_53, e_M_worthOf_55, e_M_worthOf_56, e_M_worthOf_57, e_M_worthOf_58, e_M_worthOf_59, e_M_worthOf_60, e_M_worthOf_62, e_M_worthOf_63, e_M_worthOf_64, e_M_worthOf_65, e_M_worthOf_67, e_M_worthOf_68, e_M_worthOf_69, e_M_worthOf_70, e_M_worthOf_71, e_M_worthOf_72, e_M_worthOf_73, is_93 h, if_true, k_M_of_0 h hw, k_M_of_4 h hw, rb_i, it_i, worthS]
/-- a wreck comes behind the others -/
def comesS (a : Nat → Int32) (n : Nat) (k ht p pc m : Int32) : Nat → Int32 := upd (upd (upd (upd (upd (upd (upd a 1 (nI (n + 1))) (8 + 6 * n) k) (8 + 6 * n + 1) ht) (8 + 6 * n + 2) p) (8 + 6 * n + 3) pc) (8 + 6 * n + 4) m) (8 + 6 * n + 5) 1
theorem k_M_comes (h : WF S R) {n : Nat} (hn : n < 14) (e : I 94 1 = nI n) {k ht p pc m : Int32} : rn Ls xs (d + 1) 99 0 [some (.inr (.inl (some 93))), some (.inl k), some (.inl ht), some (.inl p), some (.inl pc), some (.inl m), none] [] (S, I, R) = some (some (.inl (nI n)), (S, va_up I 94 (comesS (I 94) n k ht p pc m), R)) := by
  simp only [e_M_comes_0, e_M_comes_1, e_M_comes_4, e_M_comes_5, e_M_comes_6, e_M_comes_8, e_M_comes_9, e_M_comes_12, e_M_comes_13, e_M_comes_14, e_M_comes_15, e_M_comes_16, e_M_comes_17, e_M_comes_18, e_M_comes_19, e_M_comes_21, e_M_comes_22, e_M_comes_23, e_M_comes_26, e_M_comes_27, e_M_comes_29, e_M_comes_30, e_M_comes_31, e_M_comes_34, e_M_comes_35, e_M_comes_37, e_M_comes_38, e_M_comes_39, e_M_comes_42, e_M_comes_43, e_M_comes_45, e_M_comes_46, e_M_comes_48, e_M_comes_51, e_M_comes_52, e_M_comes_54, e_M_comes_55, e_M_comes_57, e_M_comes_60, e_M_comes_61, e_M_comes_63, e_M_comes_64, e_M_comes_65, e_M_comes_68, e_M_comes_70, is_93 h, rf_93_0 h, if_true, ia94_1 h, cl_1, e, k_M_put_0 h hn, k_M_put_1 h hn, k_M_put_2 h hn, k_M_put_3 h hn, k_M_put_4 h hn, k_M_put_5 h hn, rb_v, vu_s, vu_vu, nI_1, comesS]
end MT1

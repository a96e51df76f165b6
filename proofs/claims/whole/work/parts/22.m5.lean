/-! THE REFERENCE's calls, further -/
theorem n_0_1 : ((0 : Int32) = 1) = False := by simp
theorem n_0_2 : ((0 : Int32) = 2) = False := by simp
theorem n_0_3 : ((0 : Int32) = 3) = False := by simp
theorem n_0_4 : ((0 : Int32) = 4) = False := by simp
theorem n_0_5 : ((0 : Int32) = 5) = False := by simp
theorem n_0_6 : ((0 : Int32) = 6) = False := by simp
theorem n_0_7 : ((0 : Int32) = 7) = False := by simp
theorem n_0_8 : ((0 : Int32) = 8) = False := by simp
theorem n_0_9 : ((0 : Int32) = 9) = False := by simp
theorem n_1_0 : ((1 : Int32) = 0) = False := by simp
theorem n_1_2 : ((1 : Int32) = 2) = False := by simp
theorem n_1_3 : ((1 : Int32) = 3) = False := by simp
theorem n_1_4 : ((1 : Int32) = 4) = False := by simp
theorem n_1_5 : ((1 : Int32) = 5) = False := by simp
theorem n_1_6 : ((1 : Int32) = 6) = False := by simp
theorem n_1_7 : ((1 : Int32) = 7) = False := by simp
theorem n_1_8 : ((1 : Int32) = 8) = False := by simp
theorem n_1_9 : ((1 : Int32) = 9) = False := by simp
theorem n_2_0 : ((2 : Int32) = 0) = False := by simp
theorem n_2_1 : ((2 : Int32) = 1) = False := by simp
theorem n_2_3 : ((2 : Int32) = 3) = False := by simp
theorem n_2_4 : ((2 : Int32) = 4) = False := by simp
theorem n_2_5 : ((2 : Int32) = 5) = False := by simp
theorem n_2_6 : ((2 : Int32) = 6) = False := by simp
theorem n_2_7 : ((2 : Int32) = 7) = False := by simp
theorem n_2_8 : ((2 : Int32) = 8) = False := by simp
theorem n_2_9 : ((2 : Int32) = 9) = False := by simp
theorem n_3_0 : ((3 : Int32) = 0) = False := by simp
theorem n_3_1 : ((3 : Int32) = 1) = False := by simp
theorem n_3_2 : ((3 : Int32) = 2) = False := by simp
theorem n_3_4 : ((3 : Int32) = 4) = False := by simp
theorem n_3_5 : ((3 : Int32) = 5) = False := by simp
theorem n_3_6 : ((3 : Int32) = 6) = False := by simp
theorem n_3_7 : ((3 : Int32) = 7) = False := by simp
theorem n_3_8 : ((3 : Int32) = 8) = False := by simp
theorem n_3_9 : ((3 : Int32) = 9) = False := by simp
theorem n_4_0 : ((4 : Int32) = 0) = False := by simp
theorem n_4_1 : ((4 : Int32) = 1) = False := by simp
theorem n_4_2 : ((4 : Int32) = 2) = False := by simp
theorem n_4_3 : ((4 : Int32) = 3) = False := by simp
theorem n_4_5 : ((4 : Int32) = 5) = False := by simp
theorem n_4_6 : ((4 : Int32) = 6) = False := by simp
theorem n_4_7 : ((4 : Int32) = 7) = False := by simp
theorem n_4_8 : ((4 : Int32) = 8) = False := by simp
theorem n_4_9 : ((4 : Int32) = 9) = False := by simp
theorem n_5_0 : ((5 : Int32) = 0) = False := by simp
theorem n_5_1 : ((5 : Int32) = 1) = False := by simp
theorem n_5_2 : ((5 : Int32) = 2) = False := by simp
theorem n_5_3 : ((5 : Int32) = 3) = False := by simp
theorem n_5_4 : ((5 : Int32) = 4) = False := by simp
theorem n_5_6 : ((5 : Int32) = 6) = False := by simp
theorem n_5_7 : ((5 : Int32) = 7) = False := by simp
theorem n_5_8 : ((5 : Int32) = 8) = False := by simp
theorem n_5_9 : ((5 : Int32) = 9) = False := by simp
theorem n_6_0 : ((6 : Int32) = 0) = False := by simp
theorem n_6_1 : ((6 : Int32) = 1) = False := by simp
theorem n_6_2 : ((6 : Int32) = 2) = False := by simp
theorem n_6_3 : ((6 : Int32) = 3) = False := by simp
theorem n_6_4 : ((6 : Int32) = 4) = False := by simp
theorem n_6_5 : ((6 : Int32) = 5) = False := by simp
theorem n_6_7 : ((6 : Int32) = 7) = False := by simp
theorem n_6_8 : ((6 : Int32) = 8) = False := by simp
theorem n_6_9 : ((6 : Int32) = 9) = False := by simp
theorem n_7_0 : ((7 : Int32) = 0) = False := by simp
theorem n_7_1 : ((7 : Int32) = 1) = False := by simp
theorem n_7_2 : ((7 : Int32) = 2) = False := by simp
theorem n_7_3 : ((7 : Int32) = 3) = False := by simp
theorem n_7_4 : ((7 : Int32) = 4) = False := by simp
theorem n_7_5 : ((7 : Int32) = 5) = False := by simp
theorem n_7_6 : ((7 : Int32) = 6) = False := by simp
theorem n_7_8 : ((7 : Int32) = 8) = False := by simp
theorem n_7_9 : ((7 : Int32) = 9) = False := by simp
theorem n_8_0 : ((8 : Int32) = 0) = False := by simp
theorem n_8_1 : ((8 : Int32) = 1) = False := by simp
theorem n_8_2 : ((8 : Int32) = 2) = False := by simp
theorem n_8_3 : ((8 : Int32) = 3) = False := by simp
theorem n_8_4 : ((8 : Int32) = 4) = False := by simp
theorem n_8_5 : ((8 : Int32) = 5) = False := by simp
theorem n_8_6 : ((8 : Int32) = 6) = False := by simp
theorem n_8_7 : ((8 : Int32) = 7) = False := by simp
theorem n_8_9 : ((8 : Int32) = 9) = False := by simp
theorem n_9_0 : ((9 : Int32) = 0) = False := by simp
theorem n_9_1 : ((9 : Int32) = 1) = False := by simp
theorem n_9_2 : ((9 : Int32) = 2) = False := by simp
theorem n_9_3 : ((9 : Int32) = 3) = False := by simp
theorem n_9_4 : ((9 : Int32) = 4) = False := by simp
theorem n_9_5 : ((9 : Int32) = 5) = False := by simp
theorem n_9_6 : ((9 : Int32) = 6) = False := by simp
theorem n_9_7 : ((9 : Int32) = 7) = False := by simp
theorem n_9_8 : ((9 : Int32) = 8) = False := by simp
def atS (a : Nat → Int32) (ht p : Int32) : Nat → Nat → Int32 → Int32
  | _, 0, s => s
  | w, j + 1, s => atS a ht p (w + 1) j (s ||| (if a (8 + 6 * w + 5) = 1 ∧ a (8 + 6 * w + 1) = ht ∧ a (8 + 6 * w + 2) = p then (1 : Int32) <<< (nI w &&& 31) else 0))
def upsS1 (a : Nat → Int32) (k : Int32) (w : Nat) (s : Int32) : Int32 := if a (8 + 6 * w + 5) = 1 then (if k = 0 then s + 1 else if k = 1 then s ||| (1 : Int32) <<< (nI w &&& 31) else if k = 2 then s + a (8 + 6 * w + 4) else if k = 3 then s ||| (1 : Int32) <<< (a (8 + 6 * w + 1) &&& 31) else s + a (8 + 6 * w + 2)) else s
def upsS (a : Nat → Int32) (k : Int32) : Nat → Nat → Int32 → Int32
  | _, 0, s => s
  | w, j + 1, s => upsS a k (w + 1) j (upsS1 a k w s)
section MT5
variable {Ls : Nat} {xs : Nat → Int32} {d : Nat} {S : mS} {I A : mI} {R : mR} {x y z u v : Int32}
theorem l_M_upAt (h : WF S R) {n : Nat} (hn : n ≤ 14) (e1 : I 94 1 = nI n) : ∀ (j w : Nat) (s : Int32), w + j = n → rn Ls xs (d + 2) 115 5 [some (.inr (.inl (some 93))), some (.inl x), some (.inl y), some (.inl s), some (.inl (nI w))] [] (S, I, R) = some (some (.inl (atS (I 94) x y w j s)), (S, I, R)) := by
  intro j
  induction j with
  | zero =>
    intro w s hw
    have : w = n := by omega
    subst this
    rw [e_M_upAt_5]
    simp only [e_M_upAt_0, e_M_upAt_1, e_M_upAt_2, e_M_upAt_3, e_M_upAt_7, e_M_upAt_8, e_M_upAt_11, e_M_upAt_12, e_M_upAt_13, e_M_upAt_16, e_M_upAt_17, e_M_upAt_18, e_M_upAt_20, e_M_upAt_23, e_M_upAt_26, e_M_upAt_27, e_M_upAt_29, e_M_upAt_30, e_M_upAt_33, e_M_upAt_34, e_M_upAt_37, e_M_upAt_38, e_M_upAt_40, e_M_upAt_41, e_M_upAt_44, e_M_upAt_45, e_M_upAt_48, e_M_upAt_49, e_M_upAt_51, e_M_upAt_52, e_M_upAt_55, e_M_upAt_56, e_M_upAt_57, e_M_upAt_58, e_M_upAt_61, e_M_upAt_64, e_M_upAt_65, is_93 h, rf_93_0 h, and_self, and_true, true_and, and_false, false_and, or_true, true_or, or_false, false_or, not_true_eq_false, not_false_eq_true, if_true, if_false, ne_eq, ite_self, reduceCtorEq, i10, Decidable.not_not, ia94_1 h, cl_1, e1, nI_le' (show w < 2 ^ 31 by omega) (show w < 2 ^ 31 by omega), Nat.le_refl, atS]
  | succ j ih =>
    intro w s hw
    have hw14 : w < 14 := by omega
    rw [e_M_upAt_5]
    simp only [e_M_upAt_0, e_M_upAt_1, e_M_upAt_2, e_M_upAt_3, e_M_upAt_7, e_M_upAt_8, e_M_upAt_11, e_M_upAt_12, e_M_upAt_13, e_M_upAt_16, e_M_upAt_17, e_M_upAt_18, e_M_upAt_20, e_M_upAt_23, e_M_upAt_26, e_M_upAt_27, e_M_upAt_29, e_M_upAt_30, e_M_upAt_33, e_M_upAt_34, e_M_upAt_37, e_M_upAt_38, e_M_upAt_40, e_M_upAt_41, e_M_upAt_44, e_M_upAt_45, e_M_upAt_48, e_M_upAt_49, e_M_upAt_51, e_M_upAt_52, e_M_upAt_55, e_M_upAt_56, e_M_upAt_57, e_M_upAt_58, e_M_upAt_61, e_M_upAt_64, e_M_upAt_65, is_93 h, rf_93_0 h, and_self, and_true, true_and, and_false, false_and, or_true, true_or, or_false, false_or, not_true_eq_false, not_false_eq_true, if_true, if_false, ne_eq, ite_self, reduceCtorEq, i10, Decidable.not_not, ia94_1 h, cl_1, e1, nI_le' (show n < 2 ^ 31 by omega) (show w < 2 ^ 31 by omega), show ¬ n ≤ w by omega, k_M_isUp h hw14, k_M_of_1 h hw14, k_M_of_2 h hw14, rb_i, in0, nI_1, ih _ _ (show w + 1 + j = n by omega), atS]
    by_cases h1 : I 94 (8 + 6 * w + 5) = 1 <;> by_cases h2 : I 94 (8 + 6 * w + 1) = x <;> by_cases h3 : I 94 (8 + 6 * w + 2) = y <;> simp only [h1, h2, h3, and_self, and_true, true_and, and_false, false_and, or_true, true_or, or_false, false_or, not_true_eq_false, not_false_eq_true, if_true, if_false, ne_eq, ite_self, reduceCtorEq, i10, Decidable.not_not]
def sp_at (A : mI) (x y : Int32) : Int32 × mI := (if (0 ≤ x ∧ x ≤ 7) ∧ 0 ≤ y ∧ y ≤ 29 then atS (A 94) x y 0 (cW (A 94 1)) 0 else BADi, A)
theorem o_M_at (h : WF S R) (hm : MR I A) (hr : rwOK (A 94)) : ∃ I2, MR I2 (sp_at A x y).2 ∧ rn Ls xs (d + 9) 18 0 [some (.inr (.inl (some 93))), some (.inl x), some (.inl y)] [] (S, I, R) = some (some (.inl (sp_at A x y).1), (S, I2, R)) := by
  obtain ⟨n, hn, e1⟩ := hr.1
  have e2 : I 94 1 = nI n := by rw [hm.now, e1]
  have r1 : rn Ls xs (d + 8) 115 5 [some (.inr (.inl (some 93))), some (.inl x), some (.inl y), some (.inl 0), some (.inl 0)] [] (S, I, R) = _ := l_M_upAt (Ls := Ls) (xs := xs) (d := d + 6) (x := x) (y := y) h hn e2 n 0 0 (by omega)
  refine ⟨I, hm, ?_⟩
  unfold sp_at
  by_cases h1 : 0 ≤ x ∧ x ≤ 7
  · by_cases h2 : 0 ≤ y ∧ y ≤ 29
    · simp only [e_M_at_0, e_M_at_1, e_M_at_2, e_M_at_5, e_M_at_8, e_M_at_9, e_M_at_10, e_M_at_13, e_M_at_16, e_M_at_17, e_M_at_18, e_M_at_19, e_M_at_22, e_M_at_25, e_M_at_27, k_M_isOf_1, k_M_isOf_2, rb_i, in0, is_93 h, h1, h2, and_self, and_true, true_and, and_false, false_and, or_true, true_or, or_false, false_or, not_true_eq_false, not_false_eq_true, if_true, if_false, ne_eq, ite_self, reduceCtorEq, i10, Decidable.not_not, e1, nI_clamp (show n < 2 ^ 31 by omega), ← hm.now, e_M_upAt_0, e_M_upAt_1, e_M_upAt_2, e_M_upAt_3, e_M_upAt_7, e_M_upAt_8, e_M_upAt_11, e_M_upAt_12, e_M_upAt_13, e_M_upAt_16, e_M_upAt_17, e_M_upAt_18, e_M_upAt_20, e_M_upAt_23, e_M_upAt_26, e_M_upAt_27, e_M_upAt_29, e_M_upAt_30, e_M_upAt_33, e_M_upAt_34, e_M_upAt_37, e_M_upAt_38, e_M_upAt_40, e_M_upAt_41, e_M_upAt_44, e_M_upAt_45, e_M_upAt_48, e_M_upAt_49, e_M_upAt_51, e_M_upAt_52, e_M_upAt_55, e_M_upAt_56, e_M_upAt_57, e_M_upAt_58, e_M_upAt_61, e_M_upAt_64, e_M_upAt_65, r1]
    · simp only [e_M_at_0, e_M_at_1, e_M_at_2, e_M_at_5, e_M_at_8, e_M_at_9, e_M_at_10, e_M_at_13, e_M_at_16, e_M_at_17, e_M_at_18, e_M_at_19, e_M_at_22, e_M_at_25, e_M_at_27, k_M_isOf_1, k_M_isOf_2, rb_i, in0, is_93 h, h1, h2, and_self, and_true, true_and, and_false, false_and, or_true, true_or, or_false, false_or, not_true_eq_false, not_false_eq_true, if_true, if_false, ne_eq, ite_self, reduceCtorEq, i10, Decidable.not_not]
  · simp only [e_M_at_0, e_M_at_1, e_M_at_2, e_M_at_5, e_M_at_8, e_M_at_9, e_M_at_10, e_M_at_13, e_M_at_16, e_M_at_17, e_M_at_18, e_M_at_19, e_M_at_22, e_M_at_25, e_M_at_27, k_M_isOf_1, k_M_isOf_2, rb_i, in0, is_93 h, h1, and_self, and_true, true_and, and_false, false_and, or_true, true_or, or_false, false_or, not_true_eq_false, not_false_eq_true, if_true, if_false, ne_eq, ite_self, reduceCtorEq, i10, Decidable.not_not]
theorem l_M_ups (h : WF S R) {n : Nat} (hn : n ≤ 14) (e1 : I 94 1 = nI n) : ∀ (j w : Nat) (s : Int32), w + j = n → rn Ls xs (d + 2) 125 4 [some (.inr (.inl (some 93))), some (.inl x), some (.inl s), some (.inl (nI w))] [] (S, I, R) = some (some (.inl (upsS (I 94) x w j s)), (S, I, R)) := by
  intro j
  induction j with
  | zero =>
    intro w s hw
    have : w = n := by omega
    subst this
    rw [e_M_ups_4]
    simp only [e_M_ups_0, e_M_ups_1, e_M_ups_2, e_M_ups_3, e_M_ups_5, e_M_ups_6, e_M_ups_9, e_M_ups_10, e_M_ups_11, e_M_ups_14, e_M_ups_15, e_M_ups_16, e_M_ups_19, e_M_ups_22, e_M_ups_23, e_M_ups_26, e_M_ups_27, e_M_ups_28, e_M_ups_29, e_M_ups_32, e_M_ups_33, e_M_ups_34, e_M_ups_37, e_M_ups_38, e_M_ups_39, e_M_ups_40, e_M_ups_41, e_M_ups_42, e_M_ups_45, e_M_ups_46, e_M_ups_47, e_M_ups_50, e_M_ups_51, e_M_ups_52, e_M_ups_53, e_M_ups_54, e_M_ups_57, e_M_ups_58, e_M_ups_61, e_M_ups_62, e_M_ups_63, e_M_ups_66, e_M_ups_67, e_M_ups_68, e_M_ups_69, e_M_ups_70, e_M_ups_71, e_M_ups_74, e_M_ups_75, e_M_ups_76, e_M_ups_79, e_M_ups_80, e_M_ups_81, e_M_ups_82, e_M_ups_83, e_M_ups_86, e_M_ups_87, e_M_ups_88, e_M_ups_91, e_M_ups_94, e_M_ups_95, is_93 h, rf_93_0 h, and_self, and_true, true_and, and_false, false_and, or_true, true_or, or_false, false_or, not_true_eq_false, not_false_eq_true, if_true, if_false, ne_eq, ite_self, reduceCtorEq, i10, Decidable.not_not, ia94_1 h, cl_1, e1, nI_le' (show w < 2 ^ 31 by omega) (show w < 2 ^ 31 by omega), Nat.le_refl, upsS]
  | succ j ih =>
    intro w s hw
    have hw14 : w < 14 := by omega
    rw [e_M_ups_4]
    simp only [e_M_ups_0, e_M_ups_1, e_M_ups_2, e_M_ups_3, e_M_ups_5, e_M_ups_6, e_M_ups_9, e_M_ups_10, e_M_ups_11, e_M_ups_14, e_M_ups_15, e_M_ups_16, e_M_ups_19, e_M_ups_22, e_M_ups_23, e_M_ups_26, e_M_ups_27, e_M_ups_28, e_M_ups_29, e_M_ups_32, e_M_ups_33, e_M_ups_34, e_M_ups_37, e_M_ups_38, e_M_ups_39, e_M_ups_40, e_M_ups_41, e_M_ups_42, e_M_ups_45, e_M_ups_46, e_M_ups_47, e_M_ups_50, e_M_ups_51, e_M_ups_52, e_M_ups_53, e_M_ups_54, e_M_ups_57, e_M_ups_58, e_M_ups_61, e_M_ups_62, e_M_ups_63, e_M_ups_66, e_M_ups_67, e_M_ups_68, e_M_ups_69, e_M_ups_70, e_M_ups_71, e_M_ups_74, e_M_ups_75, e_M_ups_76, e_M_ups_79, e_M_ups_80, e_M_ups_81, e_M_ups_82, e_M_ups_83, e_M_ups_86, e_M_ups_87, e_M_ups_88, e_M_ups_91, e_M_ups_94, e_M_ups_95, is_93 h, rf_93_0 h, and_self, and_true, true_and, and_false, false_and, or_true, true_or, or_false, false_or, not_true_eq_false, not_false_eq_true, if_true, if_false, ne_eq, ite_self, reduceCtorEq, i10, Decidable.not_not, ia94_1 h, cl_1, e1, nI_le' (show n < 2 ^ 31 by omega) (show w < 2 ^ 31 by omega), show ¬ n ≤ w by omega, k_M_isUp h hw14, k_M_of_1 h hw14, k_M_of_2 h hw14, k_M_of_4 h hw14, rb_i, in0, nI_1, ih _ _ (show w + 1 + j = n by omega), upsS, upsS1]
    by_cases h1 : I 94 (8 + 6 * w + 5) = 1 <;> by_cases h2 : x = 0 <;> by_cases h3 : x = 1 <;> by_cases h4 : x = 2 <;> by_cases h5 : x = 3 <;> simp only [h1, h2, h3, h4, h5, and_self, and_true, true_and, and_false, false_and, or_true, true_or, or_false, false_or, not_true_eq_false, not_false_eq_true, if_true, if_false, ne_eq, ite_self, reduceCtorEq, i10, Decidable.not_not, Int32.reduceAdd, Int32.reduceSub, Int32.reduceLT, Int32.reduceLE, Int32.reduceMul, n_0_1, n_0_2, n_0_3, n_0_4, n_0_5, n_0_6, n_0_7, n_0_8, n_0_9, n_1_0, n_1_2, n_1_3, n_1_4, n_1_5, n_1_6, n_1_7, n_1_8, n_1_9, n_2_0, n_2_1, n_2_3, n_2_4, n_2_5, n_2_6, n_2_7, n_2_8, n_2_9, n_3_0, n_3_1, n_3_2, n_3_4, n_3_5, n_3_6, n_3_7, n_3_8, n_3_9, n_4_0, n_4_1, n_4_2, n_4_3, n_4_5, n_4_6, n_4_7, n_4_8, n_4_9, n_5_0, n_5_1, n_5_2, n_5_3, n_5_4, n_5_6, n_5_7, n_5_8, n_5_9, n_6_0, n_6_1, n_6_2, n_6_3, n_6_4, n_6_5, n_6_7, n_6_8, n_6_9, n_7_0, n_7_1, n_7_2, n_7_3, n_7_4, n_7_5, n_7_6, n_7_8, n_7_9, n_8_0, n_8_1, n_8_2, n_8_3, n_8_4, n_8_5, n_8_6, n_8_7, n_8_9, n_9_0, n_9_1, n_9_2, n_9_3, n_9_4, n_9_5, n_9_6, n_9_7, n_9_8]
theorem k_M_ups (h : WF S R) (hr : rwOK (I 94)) : rn Ls xs (d + 2) 125 0 [some (.inr (.inl (some 93))), some (.inl x), none, none] [] (S, I, R) = some (some (.inl (upsS (I 94) x 0 (cW (I 94 1)) 0)), (S, I, R)) := by
  obtain ⟨n, hn, e2⟩ := hr.1
  have r1 : rn Ls xs (d + 2) 125 4 [some (.inr (.inl (some 93))), some (.inl x), some (.inl 0), some (.inl 0)] [] (S, I, R) = _ := l_M_ups (Ls := Ls) (xs := xs) (d := d) (x := x) h hn e2 n 0 0 (by omega)
  simp only [e_M_ups_0, e_M_ups_1, e_M_ups_2, e_M_ups_3, e_M_ups_5, e_M_ups_6, e_M_ups_9, e_M_ups_10, e_M_ups_11, e_M_ups_14, e_M_ups_15, e_M_ups_16, e_M_ups_19, e_M_ups_22, e_M_ups_23, e_M_ups_26, e_M_ups_27, e_M_ups_28, e_M_ups_29, e_M_ups_32, e_M_ups_33, e_M_ups_34, e_M_ups_37, e_M_ups_38, e_M_ups_39, e_M_ups_40, e_M_ups_41, e_M_ups_42, e_M_ups_45, e_M_ups_46, e_M_ups_47, e_M_ups_50, e_M_ups_51, e_M_ups_52, e_M_ups_53, e_M_ups_54, e_M_ups_57, e_M_ups_58, e_M_ups_61, e_M_ups_62, e_M_ups_63, e_M_ups_66, e_M_ups_67, e_M_ups_68, e_M_ups_69, e_M_ups_70, e_M_ups_71, e_M_ups_74, e_M_ups_75, e_M_ups_76, e_M_ups_79, e_M_ups_80, e_M_ups_81, e_M_ups_82, e_M_ups_83, e_M_ups_86, e_M_ups_87, e_M_ups_88, e_M_ups_91, e_M_ups_94, e_M_ups_95, r1, e2, nI_clamp (show n < 2 ^ 31 by omega)]
def sp_sky (A : mI) (x : Int32) : Int32 × mI := (if x = 0 then A 94 4 else if x = 1 then A 94 5 else if x = 2 then A 94 6 else if x = 3 then upsS (A 94) 1 0 (cW (A 94 1)) 0 else if x = 4 then upsS (A 94) 2 0 (cW (A 94 1)) 0 else if x = 5 then upsS (A 94) 3 0 (cW (A 94 1)) 0 else BADi, A)
theorem i_05 {x : Int32} (h : 0 ≤ x ∧ x ≤ 5) : x = 0 ∨ x = 1 ∨ x = 2 ∨ x = 3 ∨ x = 4 ∨ x = 5 := by
  obtain ⟨j, hj, rfl⟩ := vp_in_of (x := x) (n := 6) (r_vin (by simpa [i_le] using h.1) (by have := h.2; rw [i_le] at this; exact Int.lt_of_le_of_lt this (by decide))) (by decide)
  rcases (show j = 0 ∨ j = 1 ∨ j = 2 ∨ j = 3 ∨ j = 4 ∨ j = 5 by omega) with rfl | rfl | rfl | rfl | rfl | rfl
  · exact Or.inl rfl
  · exact Or.inr (Or.inl rfl)
  · exact Or.inr (Or.inr (Or.inl rfl))
  · exact Or.inr (Or.inr (Or.inr (Or.inl rfl)))
  · exact Or.inr (Or.inr (Or.inr (Or.inr (Or.inl rfl))))
  · exact Or.inr (Or.inr (Or.inr (Or.inr (Or.inr rfl))))
theorem o_M_sky (h : WF S R) (hm : MR I A) (hr : rwOK (A 94)) : ∃ I2, MR I2 (sp_sky A x).2 ∧ rn Ls xs (d + 9) 26 0 [some (.inr (.inl (some 93))), some (.inl x)] [] (S, I, R) = some (some (.inl (sp_sky A x).1), (S, I2, R)) := by
  refine ⟨I, hm, ?_⟩
  have hr2 : rwOK (I 94) := by rw [hm.now]; exact hr
  unfold sp_sky
  rw [← hm.now]
  by_cases h1 : 0 ≤ x ∧ x ≤ 5
  · rcases i_05 h1 with rfl | rfl | rfl | rfl | rfl | rfl
    all_goals simp only [e_M_sky_0, e_M_sky_1, e_M_sky_2, e_M_sky_3, e_M_sky_6, e_M_sky_9, e_M_sky_11, e_M_sky_12, e_M_sky_13, e_M_sky_14, e_M_sky_17, e_M_sky_18, e_M_sky_21, e_M_sky_22, e_M_sky_23, e_M_sky_24, e_M_sky_25, e_M_sky_28, e_M_sky_29, e_M_sky_30, e_M_sky_31, e_M_sky_32, e_M_sky_35, k_M_in, rb_i, in0, in1, is_93 h, rf_93_0 h, h1, and_self, and_true, true_and, and_false, false_and, or_true, true_or, or_false, false_or, not_true_eq_false, not_false_eq_true, if_true, if_false, ne_eq, ite_self, reduceCtorEq, i10, Decidable.not_not, k_M_ups h hr2, Int32.reduceAdd, Int32.reduceSub, Int32.reduceLT, Int32.reduceLE, Int32.reduceMul, n_0_1, n_0_2, n_0_3, n_0_4, n_0_5, n_0_6, n_0_7, n_0_8, n_0_9, n_1_0, n_1_2, n_1_3, n_1_4, n_1_5, n_1_6, n_1_7, n_1_8, n_1_9, n_2_0, n_2_1, n_2_3, n_2_4, n_2_5, n_2_6, n_2_7, n_2_8, n_2_9, n_3_0, n_3_1, n_3_2, n_3_4, n_3_5, n_3_6, n_3_7, n_3_8, n_3_9, n_4_0, n_4_1, n_4_2, n_4_3, n_4_5, n_4_6, n_4_7, n_4_8, n_4_9, n_5_0, n_5_1, n_5_2, n_5_3, n_5_4, n_5_6, n_5_7, n_5_8, n_5_9, n_6_0, n_6_1, n_6_2, n_6_3, n_6_4, n_6_5, n_6_7, n_6_8, n_6_9, n_7_0, n_7_1, n_7_2, n_7_3, n_7_4, n_7_5, n_7_6, n_7_8, n_7_9, n_8_0, n_8_1, n_8_2, n_8_3, n_8_4, n_8_5, n_8_6, n_8_7, n_8_9, n_9_0, n_9_1, n_9_2, n_9_3, n_9_4, n_9_5, n_9_6, n_9_7, n_9_8, ia94_4 h, ia94_5 h, ia94_6 h, cl_4, cl_5, cl_6]
  · have h0 : x ≠ 0 := fun q => h1 (by subst q; decide)
    have h2 : x ≠ 1 := fun q => h1 (by subst q; decide)
    have h3 : x ≠ 2 := fun q => h1 (by subst q; decide)
    have h4 : x ≠ 3 := fun q => h1 (by subst q; decide)
    have h5 : x ≠ 4 := fun q => h1 (by subst q; decide)
    have h6 : x ≠ 5 := fun q => h1 (by subst q; decide)
    simp only [e_M_sky_0, e_M_sky_1, e_M_sky_2, e_M_sky_3, e_M_sky_6, e_M_sky_9, e_M_sky_11, e_M_sky_12, e_M_sky_13, e_M_sky_14, e_M_sky_17, e_M_sky_18, e_M_sky_21, e_M_sky_22, e_M_sky_23, e_M_sky_24, e_M_sky_25, e_M_sky_28, e_M_sky_29, e_M_sky_30, e_M_sky_31, e_M_sky_32, e_M_sky_35, k_M_in, rb_i, in0, in1, is_93 h, h1, and_self, and_true, true_and, and_false, false_and, or_true, true_or, or_false, false_or, not_true_eq_false, not_false_eq_true, if_true, if_false, ne_eq, ite_self, reduceCtorEq, i10, Decidable.not_not, h0, h2, h3, h4, h5, h6]
def okV (y z : Int32) : Bool := if y = 1 then decide (0 ≤ z ∧ z ≤ 7) else if y = 2 then decide (0 ≤ z ∧ z ≤ 29) else if y = 3 then decide ((-9) ≤ z ∧ z ≤ 9) else if y = 4 then decide (1 ≤ z ∧ z ≤ 99) else decide (0 ≤ z ∧ z ≤ 1)
theorem k_M_isOf_V {k : Int32} {H : mH} : rn Ls xs (d + 1) 98 0 [some (.inl k), some (.inl x)] [] H = some (some (.inl (if okV k x = true then 1 else 0)), H) := by
  rw [k_M_isOf]
  congr 4
  unfold okV
  by_cases h1 : k = 1
  · simp only [h1, if_true, decide_eq_true_eq]
  · by_cases h2 : k = 2
    · simp only [h2, and_self, and_true, true_and, and_false, false_and, or_true, true_or, or_false, false_or, not_true_eq_false, not_false_eq_true, if_true, if_false, ne_eq, ite_self, reduceCtorEq, i10, Decidable.not_not, Int32.reduceAdd, Int32.reduceSub, Int32.reduceLT, Int32.reduceLE, Int32.reduceMul, n_0_1, n_0_2, n_0_3, n_0_4, n_0_5, n_0_6, n_0_7, n_0_8, n_0_9, n_1_0, n_1_2, n_1_3, n_1_4, n_1_5, n_1_6, n_1_7, n_1_8, n_1_9, n_2_0, n_2_1, n_2_3, n_2_4, n_2_5, n_2_6, n_2_7, n_2_8, n_2_9, n_3_0, n_3_1, n_3_2, n_3_4, n_3_5, n_3_6, n_3_7, n_3_8, n_3_9, n_4_0, n_4_1, n_4_2, n_4_3, n_4_5, n_4_6, n_4_7, n_4_8, n_4_9, n_5_0, n_5_1, n_5_2, n_5_3, n_5_4, n_5_6, n_5_7, n_5_8, n_5_9, n_6_0, n_6_1, n_6_2, n_6_3, n_6_4, n_6_5, n_6_7, n_6_8, n_6_9, n_7_0, n_7_1, n_7_2, n_7_3, n_7_4, n_7_5, n_7_6, n_7_8, n_7_9, n_8_0, n_8_1, n_8_2, n_8_3, n_8_4, n_8_5, n_8_6, n_8_7, n_8_9, n_9_0, n_9_1, n_9_2, n_9_3, n_9_4, n_9_5, n_9_6, n_9_7, n_9_8, decide_eq_true_eq]
    · by_cases h3 : k = 3
      · simp only [h3, and_self, and_true, true_and, and_false, false_and, or_true, true_or, or_false, false_or, not_true_eq_false, not_false_eq_true, if_true, if_false, ne_eq, ite_self, reduceCtorEq, i10, Decidable.not_not, Int32.reduceAdd, Int32.reduceSub, Int32.reduceLT, Int32.reduceLE, Int32.reduceMul, n_0_1, n_0_2, n_0_3, n_0_4, n_0_5, n_0_6, n_0_7, n_0_8, n_0_9, n_1_0, n_1_2, n_1_3, n_1_4, n_1_5, n_1_6, n_1_7, n_1_8, n_1_9, n_2_0, n_2_1, n_2_3, n_2_4, n_2_5, n_2_6, n_2_7, n_2_8, n_2_9, n_3_0, n_3_1, n_3_2, n_3_4, n_3_5, n_3_6, n_3_7, n_3_8, n_3_9, n_4_0, n_4_1, n_4_2, n_4_3, n_4_5, n_4_6, n_4_7, n_4_8, n_4_9, n_5_0, n_5_1, n_5_2, n_5_3, n_5_4, n_5_6, n_5_7, n_5_8, n_5_9, n_6_0, n_6_1, n_6_2, n_6_3, n_6_4, n_6_5, n_6_7, n_6_8, n_6_9, n_7_0, n_7_1, n_7_2, n_7_3, n_7_4, n_7_5, n_7_6, n_7_8, n_7_9, n_8_0, n_8_1, n_8_2, n_8_3, n_8_4, n_8_5, n_8_6, n_8_7, n_8_9, n_9_0, n_9_1, n_9_2, n_9_3, n_9_4, n_9_5, n_9_6, n_9_7, n_9_8, decide_eq_true_eq]
      · by_cases h4 : k = 4
        · simp only [h4, and_self, and_true, true_and, and_false, false_and, or_true, true_or, or_false, false_or, not_true_eq_false, not_false_eq_true, if_true, if_false, ne_eq, ite_self, reduceCtorEq, i10, Decidable.not_not, Int32.reduceAdd, Int32.reduceSub, Int32.reduceLT, Int32.reduceLE, Int32.reduceMul, n_0_1, n_0_2, n_0_3, n_0_4, n_0_5, n_0_6, n_0_7, n_0_8, n_0_9, n_1_0, n_1_2, n_1_3, n_1_4, n_1_5, n_1_6, n_1_7, n_1_8, n_1_9, n_2_0, n_2_1, n_2_3, n_2_4, n_2_5, n_2_6, n_2_7, n_2_8, n_2_9, n_3_0, n_3_1, n_3_2, n_3_4, n_3_5, n_3_6, n_3_7, n_3_8, n_3_9, n_4_0, n_4_1, n_4_2, n_4_3, n_4_5, n_4_6, n_4_7, n_4_8, n_4_9, n_5_0, n_5_1, n_5_2, n_5_3, n_5_4, n_5_6, n_5_7, n_5_8, n_5_9, n_6_0, n_6_1, n_6_2, n_6_3, n_6_4, n_6_5, n_6_7, n_6_8, n_6_9, n_7_0, n_7_1, n_7_2, n_7_3, n_7_4, n_7_5, n_7_6, n_7_8, n_7_9, n_8_0, n_8_1, n_8_2, n_8_3, n_8_4, n_8_5, n_8_6, n_8_7, n_8_9, n_9_0, n_9_1, n_9_2, n_9_3, n_9_4, n_9_5, n_9_6, n_9_7, n_9_8, decide_eq_true_eq]
        · simp only [h1, h2, h3, h4, if_false, decide_eq_true_eq]
theorem inN {x lo hi : Int32} {a b : Nat} (hb : b < 2 ^ 30) (h1 : lo ≤ x ∧ x ≤ hi) (e1 : lo.toInt = a) (e2 : hi.toInt = b) : ∃ j, a ≤ j ∧ j ≤ b ∧ x = nI j := by
  rw [i_le, i_le, e1, e2] at h1
  obtain ⟨j, hj, rfl⟩ := vp_in_of (x := x) (n := b + 1) (r_vin (by omega) (by omega)) (by omega)
  rw [nI_toInt (by omega)] at h1
  exact ⟨j, by omega, by omega, rfl⟩
def sp_set (A : mI) (x y z : Int32) : Int32 × mI := if isWr A x ∧ (1 ≤ y ∧ y ≤ 5) ∧ okV y z = true then (A 94 (8 + 6 * cW x + cW y), va_up A 94 (upd (A 94) (8 + 6 * cW x + cW y) z)) else (BADi, A)
theorem o_M_set (h : WF S R) (hm : MR I A) (hr : rwOK (A 94)) : ∃ I2, MR I2 (sp_set A x y z).2 ∧ rn Ls xs (d + 9) 12 0 [some (.inr (.inl (some 93))), some (.inl x), some (.inl y), some (.inl z)] [] (S, I, R) = some (some (.inl (sp_set A x y z).1), (S, I2, R)) := by
  obtain ⟨n, hn, e1⟩ := hr.1
  have e2 : I 94 1 = nI n := by rw [hm.now, e1]
  unfold sp_set
  by_cases h1 : isWr A x
  · obtain ⟨w, hw, rfl⟩ := isW hn (by rw [← e1]; exact h1)
    have h2 : 0 ≤ nI w ∧ nI w ≤ nI n - 1 := by rw [isWr, e1] at h1; exact h1
    by_cases h3 : 1 ≤ y ∧ y ≤ 5
    · by_cases h4 : okV y z = true
      · obtain ⟨k, hk1, hk2, rfl⟩ := inN (a := 1) (b := 5) (by decide) h3 rfl rfl
        simp only [e_M_set_0, e_M_set_1, e_M_set_2, e_M_set_5, e_M_set_8, e_M_set_9, e_M_set_10, e_M_set_11, e_M_set_14, e_M_set_17, e_M_set_18, e_M_set_19, e_M_set_22, e_M_set_25, e_M_set_26, e_M_set_28, e_M_set_30, e_M_set_31, e_M_set_32, e_M_set_33, e_M_set_34, e_M_set_35, e_M_set_36, e_M_set_39, e_M_set_42, e_M_set_44, k_M_isWreck h hn e2, k_M_in, k_M_isOf_V, rb_i, in0, in1, is_93 h, isWr, e1, e2, h2, h3, h4, and_self, and_true, true_and, and_false, false_and, or_true, true_or, or_false, false_or, not_true_eq_false, not_false_eq_true, if_true, if_false, ne_eq, ite_self, reduceCtorEq, i10, Decidable.not_not, nI_clamp (show w < 2 ^ 31 by omega), nI_clamp (show k < 2 ^ 31 by omega), ← hm.now]
        rw [show (8 : Int32) + 6 * nI w + nI k = nI (8 + 6 * w + k) by simp only [li, pk_mul, nI_add], k_M_becomes h (show 8 + 6 * w + k < 1464 by omega)]
        exact ⟨_, hm.up 94 _ (by decide), by simp only [rb_i, e_M_set_0, e_M_set_1, e_M_set_2, e_M_set_5, e_M_set_8, e_M_set_9, e_M_set_10, e_M_set_11, e_M_set_14, e_M_set_17, e_M_set_18, e_M_set_19, e_M_set_22, e_M_set_25, e_M_set_26, e_M_set_28, e_M_set_30, e_M_set_31, e_M_set_32, e_M_set_33, e_M_set_34, e_M_set_35, e_M_set_36, e_M_set_39, e_M_set_42, e_M_set_44]⟩
      · simp only [e_M_set_0, e_M_set_1, e_M_set_2, e_M_set_5, e_M_set_8, e_M_set_9, e_M_set_10, e_M_set_11, e_M_set_14, e_M_set_17, e_M_set_18, e_M_set_19, e_M_set_22, e_M_set_25, e_M_set_26, e_M_set_28, e_M_set_30, e_M_set_31, e_M_set_32, e_M_set_33, e_M_set_34, e_M_set_35, e_M_set_36, e_M_set_39, e_M_set_42, e_M_set_44, k_M_isWreck h hn e2, k_M_in, k_M_isOf_V, rb_i, in0, in1, is_93 h, isWr, e1, e2, h2, h3, h4, and_self, and_true, true_and, and_false, false_and, or_true, true_or, or_false, false_or, not_true_eq_false, not_false_eq_true, if_true, if_false, ne_eq, ite_self, reduceCtorEq, i10, Decidable.not_not]
        exact ⟨I, hm, rfl⟩
    · simp only [e_M_set_0, e_M_set_1, e_M_set_2, e_M_set_5, e_M_set_8, e_M_set_9, e_M_set_10, e_M_set_11, e_M_set_14, e_M_set_17, e_M_set_18, e_M_set_19, e_M_set_22, e_M_set_25, e_M_set_26, e_M_set_28, e_M_set_30, e_M_set_31, e_M_set_32, e_M_set_33, e_M_set_34, e_M_set_35, e_M_set_36, e_M_set_39, e_M_set_42, e_M_set_44, k_M_isWreck h hn e2, k_M_in, rb_i, in0, in1, is_93 h, isWr, e1, e2, h2, h3, and_self, and_true, true_and, and_false, false_and, or_true, true_or, or_false, false_or, not_true_eq_false, not_false_eq_true, if_true, if_false, ne_eq, ite_self, reduceCtorEq, i10, Decidable.not_not]
      exact ⟨I, hm, rfl⟩
  · have h2 : ¬ (0 ≤ x ∧ x ≤ nI n - 1) := by rw [isWr, e1] at h1; exact h1
    simp only [e_M_set_0, e_M_set_1, e_M_set_2, e_M_set_5, e_M_set_8, e_M_set_9, e_M_set_10, e_M_set_11, e_M_set_14, e_M_set_17, e_M_set_18, e_M_set_19, e_M_set_22, e_M_set_25, e_M_set_26, e_M_set_28, e_M_set_30, e_M_set_31, e_M_set_32, e_M_set_33, e_M_set_34, e_M_set_35, e_M_set_36, e_M_set_39, e_M_set_42, e_M_set_44, k_M_isWreck h hn e2, k_M_in, rb_i, in0, in1, is_93 h, isWr, e1, e2, h2, and_self, and_true, true_and, and_false, false_and, or_true, true_or, or_false, false_or, not_true_eq_false, not_false_eq_true, if_true, if_false, ne_eq, ite_self, reduceCtorEq, i10, Decidable.not_not]
    exact ⟨I, hm, rfl⟩
noncomputable def sp_hours (A : mI) (x : Int32) : Int32 × mI := if 1 ≤ x ∧ x ≤ 100 then (hrsS (A 94) (cW (clS (9999 - A 94 2) 0 x)) 4 - A 94 4, va_up A 94 (hrsS (A 94) (cW (clS (9999 - A 94 2) 0 x)))) else (BADi, A)
theorem clS_nI {y : Int32} {k : Nat} (hk : k < 2 ^ 30) : ∃ j, j ≤ k ∧ clS y 0 (nI k) = nI j := by
  unfold clS
  split
  · exact ⟨0, by omega, rfl⟩
  · rename_i h1
    split
    · exact ⟨k, Nat.le_refl _, rfl⟩
    · rename_i h2
      have h3 := i_nlt.mp h1
      have h4 := i_nlt.mp h2
      rw [i_le] at h3 h4
      rw [nI_toInt (by omega)] at h4
      obtain ⟨j, hj, rfl⟩ := vp_in_of (x := y) (n := k + 1) (r_vin (by simpa using h3) (by omega)) (by omega)
      exact ⟨j, by omega, rfl⟩
theorem o_M_hours (h : WF S R) (hm : MR I A) (hr : rwOK (A 94)) : ∃ I2, MR I2 (sp_hours A x).2 ∧ rn Ls xs (d + 9) 24 0 [some (.inr (.inl (some 93))), some (.inl x), none] [] (S, I, R) = some (some (.inl (sp_hours A x).1), (S, I2, R)) := by
  have hr2 : rwOK (I 94) := by rw [hm.now]; exact hr
  unfold sp_hours
  by_cases h1 : 1 ≤ x ∧ x ≤ 100
  · obtain ⟨k, hk1, hk2, rfl⟩ := inN (a := 1) (b := 100) (by decide) h1 rfl rfl
    obtain ⟨j, hj, ej⟩ := clS_nI (y := 9999 - A 94 2) (k := k) (by omega)
    obtain ⟨I2, s2, r2⟩ := k_M_goesOn (Ls := Ls) (xs := xs) (d := d + 4) h (show j < 2 ^ 30 by omega) hr2
    have row2 := s2.row
    rw [vu_s] at row2
    refine ⟨I2, ?_, ?_⟩
    · simp only [h1, and_self, and_true, true_and, and_false, false_and, or_true, true_or, or_false, false_or, not_true_eq_false, not_false_eq_true, if_true, if_false, ne_eq, ite_self, reduceCtorEq, i10, Decidable.not_not, ej, nI_clamp (show j < 2 ^ 31 by omega)]
      rw [hm.now] at s2
      exact (hm.up 94 _ (by decide)).sm s2
    · rw [← hm.now] at ej ⊢
      simp only [h1, and_self, and_true, true_and, and_false, false_and, or_true, true_or, or_false, false_or, not_true_eq_false, not_false_eq_true, if_true, if_false, ne_eq, ite_self, reduceCtorEq, i10, Decidable.not_not, e_M_hours_0, e_M_hours_1, e_M_hours_2, e_M_hours_4, e_M_hours_7, e_M_hours_10, e_M_hours_12, e_M_hours_13, e_M_hours_14, e_M_hours_17, e_M_hours_18, e_M_hours_19, e_M_hours_20, e_M_hours_21, e_M_hours_24, e_M_hours_25, e_M_hours_28, e_M_hours_29, e_M_hours_30, e_M_hours_31, e_M_hours_32, e_M_hours_33, e_M_hours_36, e_M_hours_39, e_M_hours_40, e_M_hours_43, e_M_hours_44, e_M_hours_45, e_M_hours_46, e_M_hours_47, k_M_in, k_M_within, rb_i, rb_v, in1, is_93 h, rf_93_0 h, ia94_4 h, ia94_2 h, cl_4, cl_2]
      simp only [clS] at ej
      simp only [ej, r2, rb_v, e_M_hours_0, e_M_hours_1, e_M_hours_2, e_M_hours_4, e_M_hours_7, e_M_hours_10, e_M_hours_12, e_M_hours_13, e_M_hours_14, e_M_hours_17, e_M_hours_18, e_M_hours_19, e_M_hours_20, e_M_hours_21, e_M_hours_24, e_M_hours_25, e_M_hours_28, e_M_hours_29, e_M_hours_30, e_M_hours_31, e_M_hours_32, e_M_hours_33, e_M_hours_36, e_M_hours_39, e_M_hours_40, e_M_hours_43, e_M_hours_44, e_M_hours_45, e_M_hours_46, e_M_hours_47, is_93 h, rf_93_0 h, and_self, and_true, true_and, and_false, false_and, or_true, true_or, or_false, false_or, not_true_eq_false, not_false_eq_true, if_true, if_false, ne_eq, ite_self, reduceCtorEq, i10, Decidable.not_not, ia94_4 h, cl_4, row2, clS, nI_clamp (show j < 2 ^ 31 by omega)]
  · simp only [h1, and_self, and_true, true_and, and_false, false_and, or_true, true_or, or_false, false_or, not_true_eq_false, not_false_eq_true, if_true, if_false, ne_eq, ite_self, reduceCtorEq, i10, Decidable.not_not, e_M_hours_0, e_M_hours_1, e_M_hours_2, e_M_hours_4, e_M_hours_7, e_M_hours_10, e_M_hours_12, e_M_hours_13, e_M_hours_14, e_M_hours_17, e_M_hours_18, e_M_hours_19, e_M_hours_20, e_M_hours_21, e_M_hours_24, e_M_hours_25, e_M_hours_28, e_M_hours_29, e_M_hours_30, e_M_hours_31, e_M_hours_32, e_M_hours_33, e_M_hours_36, e_M_hours_39, e_M_hours_40, e_M_hours_43, e_M_hours_44, e_M_hours_45, e_M_hours_46, e_M_hours_47, k_M_in, rb_i, in1]
    exact ⟨I, hm, rfl⟩
/-- the row that is put aside -/
def thS (a b : Nat → Int32) (k : Nat) : Nat → Int32 := fun i => if i < k then a i else b i
theorem thS_s {a b : Nat → Int32} {k : Nat} : upd (thS a b k) k (a k) = thS a b (k + 1) := by
  funext i
  unfold thS upd
  by_cases h1 : i = k
  · subst h1; simp
  · by_cases h2 : i < k
    · simp [h1, h2, show i < k + 1 by omega]
    · simp [h1, h2, show ¬ i < k + 1 by omega]
theorem thS_0 {a b : Nat → Int32} : thS a b 0 = b := by funext i; simp [thS]
theorem l_M_thinks (h : WF S R) {b : Nat → Int32} : ∀ (j k : Nat), k + j = 92 → rn Ls xs d 128 2 [some (.inr (.inl (some 93))), some (.inl (nI k))] [] (S, va_up I 97 (thS (I 94) b k), R) = some (none, (S, va_up I 97 (thS (I 94) b 92), R)) := by
  intro j
  induction j with
  | zero =>
    intro k hk
    have : k = 92 := by omega
    subst this
    rw [e_M_thinks_2]
    simp only [e_M_thinks_0, e_M_thinks_1, e_M_thinks_3, e_M_thinks_5, e_M_thinks_8, e_M_thinks_9, e_M_thinks_12, e_M_thinks_13, e_M_thinks_14, e_M_thinks_17, e_M_thinks_18, e_M_thinks_19, e_M_thinks_20, e_M_thinks_23, e_M_thinks_26, show ((92 : Int32) ≤ nI 92) by decide, and_self, and_true, true_and, and_false, false_and, or_true, true_or, or_false, false_or, not_true_eq_false, not_false_eq_true, if_true, if_false, ne_eq, ite_self, reduceCtorEq, i10, Decidable.not_not]
  | succ j ih =>
    intro k hk
    have hlt : ¬ (92 : Int32) ≤ nI k := by rw [show (92 : Int32) = nI 92 from rfl, nI_le' (by decide) (by omega)]; omega
    rw [e_M_thinks_2]
    simp only [e_M_thinks_0, e_M_thinks_1, e_M_thinks_3, e_M_thinks_5, e_M_thinks_8, e_M_thinks_9, e_M_thinks_12, e_M_thinks_13, e_M_thinks_14, e_M_thinks_17, e_M_thinks_18, e_M_thinks_19, e_M_thinks_20, e_M_thinks_23, e_M_thinks_26, hlt, and_self, and_true, true_and, and_false, false_and, or_true, true_or, or_false, false_or, not_true_eq_false, not_false_eq_true, if_true, if_false, ne_eq, ite_self, reduceCtorEq, i10, Decidable.not_not, is_93 h, rf_93_0 h, rf_93_4 h, ia_94 h (show k < 1464 by omega), ia_97 h (show k < 92 by omega), nI_clamp (show k < 2 ^ 31 by omega), vu_s, vu_vu, vu_n (show 94 ≠ 97 by decide), thS_s, nI_1]
    exact ih (k + 1) (by omega)
theorem k_M_thinks (h : WF S R) : rn Ls xs d 128 0 [some (.inr (.inl (some 93))), none] [] (S, I, R) = some (none, (S, va_up I 97 (thS (I 94) (I 97) 92), R)) := by
  have r1 := l_M_thinks (Ls := Ls) (xs := xs) (d := d) (I := I) (b := I 97) h 92 0 (by omega)
  rw [thS_0, vu_id] at r1
  have r1 : rn Ls xs d 128 2 [some (.inr (.inl (some 93))), some (.inl 0)] [] (S, I, R) = _ := r1
  simp only [e_M_thinks_0, e_M_thinks_1, r1]
theorem l_M_putsBack (h : WF S R) {b : Nat → Int32} : ∀ (j k : Nat), k + j = 92 → rn Ls xs d 129 2 [some (.inr (.inl (some 93))), some (.inl (nI k))] [] (S, va_up I 94 (thS (I 97) b k), R) = some (none, (S, va_up I 94 (thS (I 97) b 92), R)) := by
  intro j
  induction j with
  | zero =>
    intro k hk
    have : k = 92 := by omega
    subst this
    rw [e_M_putsBack_2]
    simp only [e_M_putsBack_0, e_M_putsBack_1, e_M_putsBack_3, e_M_putsBack_5, e_M_putsBack_8, e_M_putsBack_9, e_M_putsBack_12, e_M_putsBack_13, e_M_putsBack_14, e_M_putsBack_17, e_M_putsBack_18, e_M_putsBack_19, e_M_putsBack_20, e_M_putsBack_23, e_M_putsBack_26, show ((92 : Int32) ≤ nI 92) by decide, and_self, and_true, true_and, and_false, false_and, or_true, true_or, or_false, false_or, not_true_eq_false, not_false_eq_true, if_true, if_false, ne_eq, ite_self, reduceCtorEq, i10, Decidable.not_not]
  | succ j ih =>
    intro k hk
    have hlt : ¬ (92 : Int32) ≤ nI k := by rw [show (92 : Int32) = nI 92 from rfl, nI_le' (by decide) (by omega)]; omega
    rw [e_M_putsBack_2]
    simp only [e_M_putsBack_0, e_M_putsBack_1, e_M_putsBack_3, e_M_putsBack_5, e_M_putsBack_8, e_M_putsBack_9, e_M_putsBack_12, e_M_putsBack_13, e_M_putsBack_14, e_M_putsBack_17, e_M_putsBack_18, e_M_putsBack_19, e_M_putsBack_20, e_M_putsBack_23, e_M_putsBack_26, hlt, and_self, and_true, true_and, and_false, false_and, or_true, true_or, or_false, false_or, not_true_eq_false, not_false_eq_true, if_true, if_false, ne_eq, ite_self, reduceCtorEq, i10, Decidable.not_not, is_93 h, rf_93_0 h, rf_93_4 h, ia_94 h (show k < 1464 by omega), ia_97 h (show k < 92 by omega), nI_clamp (show k < 2 ^ 31 by omega), vu_s, vu_vu, vu_n (show 97 ≠ 94 by decide), thS_s, nI_1]
    exact ih (k + 1) (by omega)
theorem k_M_putsBack (h : WF S R) : rn Ls xs d 129 0 [some (.inr (.inl (some 93))), none] [] (S, I, R) = some (none, (S, va_up I 94 (thS (I 97) (I 94) 92), R)) := by
  have r1 := l_M_putsBack (Ls := Ls) (xs := xs) (d := d) (I := I) (b := I 94) h 92 0 (by omega)
  rw [thS_0, vu_id] at r1
  have r1 : rn Ls xs d 129 2 [some (.inr (.inl (some 93))), some (.inl 0)] [] (S, I, R) = _ := r1
  simp only [e_M_putsBack_0, e_M_putsBack_1, r1]
/-- an hour leaves what lies behind the wrecks -/
theorem up_hi {a : Nat → Int32} {k j : Nat} {x : Int32} (hk : k < 92) (hj : 92 ≤ j) : upd a k x j = a j := up_n (by omega)
theorem comes_hi {a : Nat → Int32} {n j : Nat} {k ht p pc m : Int32} (hn : n < 14) (hj : 92 ≤ j) : comesS a n k ht p pc m j = a j := by
  unfold comesS
  rw [up_hi (by omega) hj, up_hi (by omega) hj, up_hi (by omega) hj, up_hi (by omega) hj, up_hi (by omega) hj, up_hi (by omega) hj, up_hi (by omega) hj]
theorem breaks_hi {a : Nat → Int32} {n w j : Nat} (hw : w < 14) (hj : 92 ≤ j) : breaksS a n w j = a j := by
  unfold breaksS
  split
  · rw [up_hi (by omega) hj, up_hi (by omega) hj]
  · split
    · rw [comes_hi (by assumption) hj, up_hi (by omega) hj, up_hi (by omega) hj]
    · rw [up_hi (by omega) hj, up_hi (by omega) hj]
theorem mt1_hi {a : Nat → Int32} {w o j : Nat} (hw : w < 14) (ho : o < 14) (hj : 92 ≤ j) : mtS1 a w o j = a j := by
  unfold mtS1
  split
  · exact breaks_hi (by split <;> assumption) hj
  · rfl
theorem mt_hi {w i : Nat} (hw : w < 14) (hi : 92 ≤ i) : ∀ (j o : Nat) (a : Nat → Int32), o + j ≤ 14 → mtS a w o j i = a i
  | 0, _, _, _ => rfl
  | j + 1, o, a, h => (mt_hi hw hi j (o + 1) _ (by omega)).trans (mt1_hi hw (by omega) hi)
theorem mtO_hi {n i : Nat} (hn : n ≤ 14) (hi : 92 ≤ i) : ∀ (j w : Nat) (a : Nat → Int32), w + j ≤ n → mtO n a w j i = a i
  | 0, _, _, _ => rfl
  | j + 1, w, a, h => (mtO_hi hn hi j (w + 1) _ (by omega)).trans (mt_hi (by omega) hi _ _ _ (by omega))
theorem go_hi {i : Nat} (hi : 92 ≤ i) : ∀ (j w : Nat) (a : Nat → Int32), w + j ≤ 14 → goS a w j i = a i
  | 0, _, _, _ => rfl
  | j + 1, w, a, h => (go_hi hi j (w + 1) _ (by omega)).trans (up_hi (by omega) hi)
theorem hour_hi {a : Nat → Int32} {i : Nat} (h : rwOK a) (hi : 92 ≤ i) : hourS a i = a i := by
  obtain ⟨⟨n, hn, e1⟩, htx⟩ := id h
  have hcl : (a 1).toNatClampNeg = n := by rw [e1, nI_clamp (by omega)]
  have hok := rwOK_mtO hn n 0 _ (rwOK_go n 0 a h (by omega)) (by omega)
  have hl : lotS (mtO n (goS a 0 n) 0 n) i = a i := by
    have hb : mtO n (goS a 0 n) 0 n i = a i := (mtO_hi hn hi _ _ _ (by omega)).trans (go_hi hi _ _ _ (by omega))
    obtain ⟨⟨m, hm, em⟩, -⟩ := id hok
    unfold lotS
    split
    · rw [up_hi (by decide) hi]; exact hb
    · split
      · rw [up_hi (by decide) hi]; exact hb
      · rename_i h3
        have hm0 : m ≠ 0 := fun q => h3 (by rw [em, q]; decide)
        obtain ⟨w, hw, ew⟩ := rem_nI (zS (zS (mtO n (goS a 0 n) 0 n 0))) (c := m) (by omega) (by omega)
        rw [em, ew, nI_clamp (by omega)]
        unfold sinksS
        split
        · split
          · rw [up_hi (by decide) hi, up_hi (by omega) hi, up_hi (by decide) hi, up_hi (by decide) hi]; exact hb
          · rw [up_hi (by omega) hi, up_hi (by decide) hi, up_hi (by decide) hi]; exact hb
        · rw [up_hi (by decide) hi, up_hi (by decide) hi]; exact hb
  unfold hourS
  rw [hcl, up_hi (by decide) hi]
  exact hl
theorem hrs_hi {a : Nat → Int32} {i : Nat} (h : rwOK a) (hi : 92 ≤ i) : ∀ k, hrsS a k i = a i
  | 0 => rfl
  | k + 1 => (hour_hi (rwOK_hrs h k) hi).trans (hrs_hi h hi k)
/-- what was put aside is put back -/
theorem back_eq {a b c : Nat → Int32} (h : ∀ i, 92 ≤ i → b i = a i) : thS (thS a c 92) b 92 = a := by
  funext i
  unfold thS
  by_cases h1 : i < 92
  · simp [h1]
  · simp [h1, h i (by omega)]
end MT5

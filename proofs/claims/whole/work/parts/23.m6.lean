/-! THE REFERENCE's calls: what will be -/
theorem MR.think {I I2 A : mI} {c g : Nat → Int32} (hm : MR I A) (s : Sm (va_up (va_up I 97 c) 94 g) I2) : MR (va_up I2 94 (I 94)) A := by
  have h1 := (((hm.hid (b := 97) (f := c) (by omega)).up 94 g (by decide)).sm s).up 94 (I 94) (by decide)
  rw [vu_vu, hm.now, vu_id] at h1
  rw [hm.now]
  exact h1
section MT6
variable {Ls : Nat} {xs : Nat → Int32} {d : Nat} {S : mS} {I A : mI} {R : mR} {x y z u v : Int32}
/-- hours that are only thought, and back -/
theorem k_M_back (h : WF S R) {I2 : mI} {c : Nat → Int32} {g : Nat → Int32} (s : Sm (va_up (va_up I 97 (thS (I 94) c 92)) 94 g) I2) (hg : ∀ i, 92 ≤ i → g i = I 94 i) : rn Ls xs d 129 0 [some (.inr (.inl (some 93))), none] [] (S, I2, R) = some (none, (S, va_up I2 94 (I 94), R)) := by
  have e1 : I2 97 = thS (I 94) c 92 := by rw [s 97 (by decide) (by decide), vu_n (by decide), vu_s]
  have e2 : I2 94 = g := by rw [s.row, vu_s]
  rw [k_M_putsBack h, e1, e2, back_eq hg]
noncomputable def sp_behind (A : mI) (x y : Int32) : Int32 × mI := (if (0 ≤ x ∧ x ≤ 100) ∧ 0 ≤ y ∧ (y ≤ 2 ∨ isWr A (y - 3)) then (if y = 0 then hrsS (A 94) (cW x) 4 else if y = 1 then hrsS (A 94) (cW x) 5 else if y = 2 then upsS (hrsS (A 94) (cW x)) 0 0 (cW (hrsS (A 94) (cW x) 1)) 0 else hrsS (A 94) (cW x) (8 + 6 * cW (y - 3) + 2)) else BADi, A)
theorem o_M_behind (h : WF S R) (hm : MR I A) (hr : rwOK (A 94)) : ∃ I2, MR I2 (sp_behind A x y).2 ∧ rn Ls xs (d + 9) 28 0 [some (.inr (.inl (some 93))), some (.inl x), some (.inl y), none] [] (S, I, R) = some (some (.inl (sp_behind A x y).1), (S, I2, R)) := by
  obtain ⟨n, hn, e1⟩ := hr.1
  have e2 : I 94 1 = nI n := by rw [hm.now, e1]
  have hr2 : rwOK (I 94) := by rw [hm.now]; exact hr
  unfold sp_behind
  by_cases h1 : 0 ≤ x ∧ x ≤ 100
  · obtain ⟨k, -, hk2, rfl⟩ := inN (a := 0) (b := 100) (by decide) h1 rfl rfl
    obtain ⟨I2, s2, r2⟩ := k_M_goesOn (Ls := Ls) (xs := xs) (d := d + 4) (I := va_up I 97 (thS (I 94) (I 97) 92)) h (show k < 2 ^ 30 by omega) (by rw [vu_n (by decide)]; exact hr2)
    rw [vu_n (show 94 ≠ 97 by decide)] at s2
    have row2 : I2 94 = hrsS (I 94) k := by rw [s2.row, vu_s]
    have ok2 : rwOK (I2 94) := by rw [row2]; exact rwOK_hrs hr2 k
    have rb := k_M_back (Ls := Ls) (xs := xs) (d := d + 8) h s2 (fun i hi => hrs_hi hr2 hi k)
    have hfin := hm.think s2
    rw [hm.now] at row2
    by_cases h2 : y < 0
    · have h3 : ¬ 0 ≤ y := i_nle.mpr h2
      refine ⟨I, hm, ?_⟩
      simp only [h1, h2, h3, and_self, and_true, true_and, and_false, false_and, or_true, true_or, or_false, false_or, not_true_eq_false, not_false_eq_true, if_true, if_false, ne_eq, ite_self, reduceCtorEq, i10, Decidable.not_not, e_M_behind_0, e_M_behind_1, e_M_behind_2, e_M_behind_4, e_M_behind_7, e_M_behind_10, e_M_behind_11, e_M_behind_14, e_M_behind_15, e_M_behind_16, e_M_behind_19, e_M_behind_20, e_M_behind_21, e_M_behind_22, e_M_behind_23, e_M_behind_26, e_M_behind_29, e_M_behind_31, e_M_behind_32, e_M_behind_33, e_M_behind_36, e_M_behind_37, e_M_behind_38, e_M_behind_41, e_M_behind_42, e_M_behind_45, e_M_behind_46, e_M_behind_49, e_M_behind_50, e_M_behind_51, e_M_behind_54, e_M_behind_55, e_M_behind_56, e_M_behind_59, e_M_behind_60, e_M_behind_63, e_M_behind_64, e_M_behind_65, e_M_behind_68, e_M_behind_69, e_M_behind_70, e_M_behind_73, e_M_behind_74, e_M_behind_75, e_M_behind_78, e_M_behind_81, e_M_behind_82, e_M_behind_83, e_M_behind_84, e_M_behind_85, e_M_behind_86, e_M_behind_89, e_M_behind_90, e_M_behind_91, e_M_behind_94, e_M_behind_95, k_M_in, rb_i, in0]
    · have h3 : 0 ≤ y := i_nlt.mp h2
      by_cases h4 : y ≤ 2
      · refine ⟨_, hfin, ?_⟩
        obtain ⟨j, -, hj2, rfl⟩ := inN (a := 0) (b := 2) (by decide) ⟨h3, h4⟩ rfl rfl
        rcases (show j = 0 ∨ j = 1 ∨ j = 2 by omega) with rfl | rfl | rfl
        · rw [show nI 0 = 0 from rfl] at *
          simp only [h1, h2, h3, h4, and_self, and_true, true_and, and_false, false_and, or_true, true_or, or_false, false_or, not_true_eq_false, not_false_eq_true, if_true, if_false, ne_eq, ite_self, reduceCtorEq, i10, Decidable.not_not, Int32.reduceAdd, Int32.reduceSub, Int32.reduceLT, Int32.reduceLE, Int32.reduceMul, n_0_1, n_0_2, n_0_3, n_0_4, n_0_5, n_0_6, n_0_7, n_0_8, n_0_9, n_1_0, n_1_2, n_1_3, n_1_4, n_1_5, n_1_6, n_1_7, n_1_8, n_1_9, n_2_0, n_2_1, n_2_3, n_2_4, n_2_5, n_2_6, n_2_7, n_2_8, n_2_9, n_3_0, n_3_1, n_3_2, n_3_4, n_3_5, n_3_6, n_3_7, n_3_8, n_3_9, n_4_0, n_4_1, n_4_2, n_4_3, n_4_5, n_4_6, n_4_7, n_4_8, n_4_9, n_5_0, n_5_1, n_5_2, n_5_3, n_5_4, n_5_6, n_5_7, n_5_8, n_5_9, n_6_0, n_6_1, n_6_2, n_6_3, n_6_4, n_6_5, n_6_7, n_6_8, n_6_9, n_7_0, n_7_1, n_7_2, n_7_3, n_7_4, n_7_5, n_7_6, n_7_8, n_7_9, n_8_0, n_8_1, n_8_2, n_8_3, n_8_4, n_8_5, n_8_6, n_8_7, n_8_9, n_9_0, n_9_1, n_9_2, n_9_3, n_9_4, n_9_5, n_9_6, n_9_7, n_9_8, e_M_behind_0, e_M_behind_1, e_M_behind_2, e_M_behind_4, e_M_behind_7, e_M_behind_10, e_M_behind_11, e_M_behind_14, e_M_behind_15, e_M_behind_16, e_M_behind_19, e_M_behind_20, e_M_behind_21, e_M_behind_22, e_M_behind_23, e_M_behind_26, e_M_behind_29, e_M_behind_31, e_M_behind_32, e_M_behind_33, e_M_behind_36, e_M_behind_37, e_M_behind_38, e_M_behind_41, e_M_behind_42, e_M_behind_45, e_M_behind_46, e_M_behind_49, e_M_behind_50, e_M_behind_51, e_M_behind_54, e_M_behind_55, e_M_behind_56, e_M_behind_59, e_M_behind_60, e_M_behind_63, e_M_behind_64, e_M_behind_65, e_M_behind_68, e_M_behind_69, e_M_behind_70, e_M_behind_73, e_M_behind_74, e_M_behind_75, e_M_behind_78, e_M_behind_81, e_M_behind_82, e_M_behind_83, e_M_behind_84, e_M_behind_85, e_M_behind_86, e_M_behind_89, e_M_behind_90, e_M_behind_91, e_M_behind_94, e_M_behind_95, k_M_in, rb_i, rb_v, in0, is_93 h, rf_93_0 h, k_M_thinks h, r2, rb, ia94_4 h, cl_4, row2, nI_clamp (show k < 2 ^ 31 by omega)]
        · rw [show nI 1 = 1 from rfl] at *
          simp only [h1, h2, h3, h4, and_self, and_true, true_and, and_false, false_and, or_true, true_or, or_false, false_or, not_true_eq_false, not_false_eq_true, if_true, if_false, ne_eq, ite_self, reduceCtorEq, i10, Decidable.not_not, Int32.reduceAdd, Int32.reduceSub, Int32.reduceLT, Int32.reduceLE, Int32.reduceMul, n_0_1, n_0_2, n_0_3, n_0_4, n_0_5, n_0_6, n_0_7, n_0_8, n_0_9, n_1_0, n_1_2, n_1_3, n_1_4, n_1_5, n_1_6, n_1_7, n_1_8, n_1_9, n_2_0, n_2_1, n_2_3, n_2_4, n_2_5, n_2_6, n_2_7, n_2_8, n_2_9, n_3_0, n_3_1, n_3_2, n_3_4, n_3_5, n_3_6, n_3_7, n_3_8, n_3_9, n_4_0, n_4_1, n_4_2, n_4_3, n_4_5, n_4_6, n_4_7, n_4_8, n_4_9, n_5_0, n_5_1, n_5_2, n_5_3, n_5_4, n_5_6, n_5_7, n_5_8, n_5_9, n_6_0, n_6_1, n_6_2, n_6_3, n_6_4, n_6_5, n_6_7, n_6_8, n_6_9, n_7_0, n_7_1, n_7_2, n_7_3, n_7_4, n_7_5, n_7_6, n_7_8, n_7_9, n_8_0, n_8_1, n_8_2, n_8_3, n_8_4, n_8_5, n_8_6, n_8_7, n_8_9, n_9_0, n_9_1, n_9_2, n_9_3, n_9_4, n_9_5, n_9_6, n_9_7, n_9_8, e_M_behind_0, e_M_behind_1, e_M_behind_2, e_M_behind_4, e_M_behind_7, e_M_behind_10, e_M_behind_11, e_M_behind_14, e_M_behind_15, e_M_behind_16, e_M_behind_19, e_M_behind_20, e_M_behind_21, e_M_behind_22, e_M_behind_23, e_M_behind_26, e_M_behind_29, e_M_behind_31, e_M_behind_32, e_M_behind_33, e_M_behind_36, e_M_behind_37, e_M_behind_38, e_M_behind_41, e_M_behind_42, e_M_behind_45, e_M_behind_46, e_M_behind_49, e_M_behind_50, e_M_behind_51, e_M_behind_54, e_M_behind_55, e_M_behind_56, e_M_behind_59, e_M_behind_60, e_M_behind_63, e_M_behind_64, e_M_behind_65, e_M_behind_68, e_M_behind_69, e_M_behind_70, e_M_behind_73, e_M_behind_74, e_M_behind_75, e_M_behind_78, e_M_behind_81, e_M_behind_82, e_M_behind_83, e_M_behind_84, e_M_behind_85, e_M_behind_86, e_M_behind_89, e_M_behind_90, e_M_behind_91, e_M_behind_94, e_M_behind_95, k_M_in, rb_i, rb_v, in0, is_93 h, rf_93_0 h, k_M_thinks h, r2, rb, ia94_5 h, cl_5, row2, nI_clamp (show k < 2 ^ 31 by omega)]
        · rw [show nI 2 = 2 from rfl] at *
          simp only [h1, h2, h3, h4, and_self, and_true, true_and, and_false, false_and, or_true, true_or, or_false, false_or, not_true_eq_false, not_false_eq_true, if_true, if_false, ne_eq, ite_self, reduceCtorEq, i10, Decidable.not_not, Int32.reduceAdd, Int32.reduceSub, Int32.reduceLT, Int32.reduceLE, Int32.reduceMul, n_0_1, n_0_2, n_0_3, n_0_4, n_0_5, n_0_6, n_0_7, n_0_8, n_0_9, n_1_0, n_1_2, n_1_3, n_1_4, n_1_5, n_1_6, n_1_7, n_1_8, n_1_9, n_2_0, n_2_1, n_2_3, n_2_4, n_2_5, n_2_6, n_2_7, n_2_8, n_2_9, n_3_0, n_3_1, n_3_2, n_3_4, n_3_5, n_3_6, n_3_7, n_3_8, n_3_9, n_4_0, n_4_1, n_4_2, n_4_3, n_4_5, n_4_6, n_4_7, n_4_8, n_4_9, n_5_0, n_5_1, n_5_2, n_5_3, n_5_4, n_5_6, n_5_7, n_5_8, n_5_9, n_6_0, n_6_1, n_6_2, n_6_3, n_6_4, n_6_5, n_6_7, n_6_8, n_6_9, n_7_0, n_7_1, n_7_2, n_7_3, n_7_4, n_7_5, n_7_6, n_7_8, n_7_9, n_8_0, n_8_1, n_8_2, n_8_3, n_8_4, n_8_5, n_8_6, n_8_7, n_8_9, n_9_0, n_9_1, n_9_2, n_9_3, n_9_4, n_9_5, n_9_6, n_9_7, n_9_8, e_M_behind_0, e_M_behind_1, e_M_behind_2, e_M_behind_4, e_M_behind_7, e_M_behind_10, e_M_behind_11, e_M_behind_14, e_M_behind_15, e_M_behind_16, e_M_behind_19, e_M_behind_20, e_M_behind_21, e_M_behind_22, e_M_behind_23, e_M_behind_26, e_M_behind_29, e_M_behind_31, e_M_behind_32, e_M_behind_33, e_M_behind_36, e_M_behind_37, e_M_behind_38, e_M_behind_41, e_M_behind_42, e_M_behind_45, e_M_behind_46, e_M_behind_49, e_M_behind_50, e_M_behind_51, e_M_behind_54, e_M_behind_55, e_M_behind_56, e_M_behind_59, e_M_behind_60, e_M_behind_63, e_M_behind_64, e_M_behind_65, e_M_behind_68, e_M_behind_69, e_M_behind_70, e_M_behind_73, e_M_behind_74, e_M_behind_75, e_M_behind_78, e_M_behind_81, e_M_behind_82, e_M_behind_83, e_M_behind_84, e_M_behind_85, e_M_behind_86, e_M_behind_89, e_M_behind_90, e_M_behind_91, e_M_behind_94, e_M_behind_95, k_M_in, rb_i, rb_v, in0, is_93 h, rf_93_0 h, k_M_thinks h, r2, rb, k_M_ups h ok2, row2, nI_clamp (show k < 2 ^ 31 by omega)]
      · by_cases h5 : isWr A (y - 3)
        · obtain ⟨w, hw, ew⟩ := isW hn (by rw [← e1]; exact h5)
          have h6 : 0 ≤ y - 3 ∧ y - 3 ≤ nI n - 1 := by rw [isWr, e1] at h5; exact h5
          have n0 : ¬ y = 0 := fun q => h4 (by rw [q]; decide)
          have n1 : ¬ y = 1 := fun q => h4 (by rw [q]; decide)
          have n2 : ¬ y = 2 := fun q => h4 (by rw [q]; decide)
          refine ⟨_, hfin, ?_⟩
          rw [ew] at h6
          simp only [h1, h2, h3, h4, h6, and_self, and_true, true_and, and_false, false_and, or_true, true_or, or_false, false_or, not_true_eq_false, not_false_eq_true, if_true, if_false, ne_eq, ite_self, reduceCtorEq, i10, Decidable.not_not, Int32.reduceAdd, Int32.reduceSub, Int32.reduceLT, Int32.reduceLE, Int32.reduceMul, n_0_1, n_0_2, n_0_3, n_0_4, n_0_5, n_0_6, n_0_7, n_0_8, n_0_9, n_1_0, n_1_2, n_1_3, n_1_4, n_1_5, n_1_6, n_1_7, n_1_8, n_1_9, n_2_0, n_2_1, n_2_3, n_2_4, n_2_5, n_2_6, n_2_7, n_2_8, n_2_9, n_3_0, n_3_1, n_3_2, n_3_4, n_3_5, n_3_6, n_3_7, n_3_8, n_3_9, n_4_0, n_4_1, n_4_2, n_4_3, n_4_5, n_4_6, n_4_7, n_4_8, n_4_9, n_5_0, n_5_1, n_5_2, n_5_3, n_5_4, n_5_6, n_5_7, n_5_8, n_5_9, n_6_0, n_6_1, n_6_2, n_6_3, n_6_4, n_6_5, n_6_7, n_6_8, n_6_9, n_7_0, n_7_1, n_7_2, n_7_3, n_7_4, n_7_5, n_7_6, n_7_8, n_7_9, n_8_0, n_8_1, n_8_2, n_8_3, n_8_4, n_8_5, n_8_6, n_8_7, n_8_9, n_9_0, n_9_1, n_9_2, n_9_3, n_9_4, n_9_5, n_9_6, n_9_7, n_9_8, n0, n1, n2, e_M_behind_0, e_M_behind_1, e_M_behind_2, e_M_behind_4, e_M_behind_7, e_M_behind_10, e_M_behind_11, e_M_behind_14, e_M_behind_15, e_M_behind_16, e_M_behind_19, e_M_behind_20, e_M_behind_21, e_M_behind_22, e_M_behind_23, e_M_behind_26, e_M_behind_29, e_M_behind_31, e_M_behind_32, e_M_behind_33, e_M_behind_36, e_M_behind_37, e_M_behind_38, e_M_behind_41, e_M_behind_42, e_M_behind_45, e_M_behind_46, e_M_behind_49, e_M_behind_50, e_M_behind_51, e_M_behind_54, e_M_behind_55, e_M_behind_56, e_M_behind_59, e_M_behind_60, e_M_behind_63, e_M_behind_64, e_M_behind_65, e_M_behind_68, e_M_behind_69, e_M_behind_70, e_M_behind_73, e_M_behind_74, e_M_behind_75, e_M_behind_78, e_M_behind_81, e_M_behind_82, e_M_behind_83, e_M_behind_84, e_M_behind_85, e_M_behind_86, e_M_behind_89, e_M_behind_90, e_M_behind_91, e_M_behind_94, e_M_behind_95, k_M_in, k_M_isWreck h hn e2, rb_i, rb_v, in0, in1, is_93 h, rf_93_0 h, k_M_thinks h, r2, rb, isWr, ew, e1, k_M_of_2 h (show w < 14 by omega), row2, nI_clamp (show k < 2 ^ 31 by omega), nI_clamp (show w < 2 ^ 31 by omega)]
        · have h6 : ¬ (0 ≤ y - 3 ∧ y - 3 ≤ nI n - 1) := by rw [isWr, e1] at h5; exact h5
          refine ⟨I, hm, ?_⟩
          simp only [h1, h2, h3, h4, h6, and_self, and_true, true_and, and_false, false_and, or_true, true_or, or_false, false_or, not_true_eq_false, not_false_eq_true, if_true, if_false, ne_eq, ite_self, reduceCtorEq, i10, Decidable.not_not, e_M_behind_0, e_M_behind_1, e_M_behind_2, e_M_behind_4, e_M_behind_7, e_M_behind_10, e_M_behind_11, e_M_behind_14, e_M_behind_15, e_M_behind_16, e_M_behind_19, e_M_behind_20, e_M_behind_21, e_M_behind_22, e_M_behind_23, e_M_behind_26, e_M_behind_29, e_M_behind_31, e_M_behind_32, e_M_behind_33, e_M_behind_36, e_M_behind_37, e_M_behind_38, e_M_behind_41, e_M_behind_42, e_M_behind_45, e_M_behind_46, e_M_behind_49, e_M_behind_50, e_M_behind_51, e_M_behind_54, e_M_behind_55, e_M_behind_56, e_M_behind_59, e_M_behind_60, e_M_behind_63, e_M_behind_64, e_M_behind_65, e_M_behind_68, e_M_behind_69, e_M_behind_70, e_M_behind_73, e_M_behind_74, e_M_behind_75, e_M_behind_78, e_M_behind_81, e_M_behind_82, e_M_behind_83, e_M_behind_84, e_M_behind_85, e_M_behind_86, e_M_behind_89, e_M_behind_90, e_M_behind_91, e_M_behind_94, e_M_behind_95, k_M_in, k_M_isWreck h hn e2, rb_i, in0, in1, is_93 h, isWr, e1]
  · refine ⟨I, hm, ?_⟩
    simp only [h1, and_self, and_true, true_and, and_false, false_and, or_true, true_or, or_false, false_or, not_true_eq_false, not_false_eq_true, if_true, if_false, ne_eq, ite_self, reduceCtorEq, i10, Decidable.not_not, e_M_behind_0, e_M_behind_1, e_M_behind_2, e_M_behind_4, e_M_behind_7, e_M_behind_10, e_M_behind_11, e_M_behind_14, e_M_behind_15, e_M_behind_16, e_M_behind_19, e_M_behind_20, e_M_behind_21, e_M_behind_22, e_M_behind_23, e_M_behind_26, e_M_behind_29, e_M_behind_31, e_M_behind_32, e_M_behind_33, e_M_behind_36, e_M_behind_37, e_M_behind_38, e_M_behind_41, e_M_behind_42, e_M_behind_45, e_M_behind_46, e_M_behind_49, e_M_behind_50, e_M_behind_51, e_M_behind_54, e_M_behind_55, e_M_behind_56, e_M_behind_59, e_M_behind_60, e_M_behind_63, e_M_behind_64, e_M_behind_65, e_M_behind_68, e_M_behind_69, e_M_behind_70, e_M_behind_73, e_M_behind_74, e_M_behind_75, e_M_behind_78, e_M_behind_81, e_M_behind_82, e_M_behind_83, e_M_behind_84, e_M_behind_85, e_M_behind_86, e_M_behind_89, e_M_behind_90, e_M_behind_91, e_M_behind_94, e_M_behind_95, k_M_in, rb_i, in0]
/-- the first hour in which something breaks: how many are tried -/
noncomputable def fsS (a : Nat → Int32) : Nat → Nat → Nat
  | 0, k => k
  | j + 1, k => if hrsS a k 4 = a 4 then fsS a j (k + 1) else k
theorem fsS_le (a : Nat → Int32) : ∀ j k, fsS a j k ≤ k + j
  | 0, k => Nat.le_refl _
  | j + 1, k => by
    have := fsS_le a j (k + 1)
    unfold fsS
    split <;> omega
theorem l_M_first (h : WF S R) {a c : Nat → Int32} (hr : rwOK a) : ∀ (j k : Nat) (I2 : mI), k + j = 201 → Sm (va_up (va_up I 97 (thS a c 92)) 94 (hrsS a k)) I2 → ∃ I3, Sm (va_up (va_up I 97 (thS a c 92)) 94 (hrsS a (fsS a j k))) I3 ∧
    rn Ls xs (d + 4) 30 6 [some (.inr (.inl (some 93))), some (.inl (nI k))] [] (S, I2, R) = rn Ls xs (d + 4) 30 38 [some (.inr (.inl (some 93))), some (.inl (nI (fsS a j k)))] [] (S, I3, R) := by
  intro j
  induction j with
  | zero =>
    intro k I2 hk s
    refine ⟨I2, s, ?_⟩
    have : k = 201 := by omega
    subst this
    rw [e_M_first_6]
    simp only [e_M_first_7, e_M_first_10, show ((200 : Int32) < nI 201) by decide, and_self, and_true, true_and, and_false, false_and, or_true, true_or, or_false, false_or, not_true_eq_false, not_false_eq_true, if_true, if_false, ne_eq, ite_self, reduceCtorEq, i10, Decidable.not_not, fsS]
  | succ j ih =>
    intro k I2 hk s
    have e1 : I2 97 4 = a 4 := by rw [s 97 (by decide) (by decide), vu_n (by decide), vu_s]; simp [thS]
    have e2 : I2 94 = hrsS a k := by rw [s.row, vu_s]
    have hlt : ¬ (200 : Int32) < nI k := by rw [show (200 : Int32) = nI 200 from rfl, nI_lt' (by decide) (by omega)]; omega
    have i97 : h_ia S 97 0 4 = true := ia_97 h (n := 4) (by decide)
    by_cases hb : hrsS a k 4 = a 4
    · obtain ⟨I3, s3, r3⟩ := k_M_hour (Ls := Ls) (xs := xs) (d := d) (I := I2) h (by rw [e2]; exact rwOK_hrs hr k)
      rw [e2] at s3
      have s4 : Sm (va_up (va_up I 97 (thS a c 92)) 94 (hrsS a (k + 1))) I3 := by
        have := (s.up (hourS (hrsS a k))).trans' s3
        rw [vu_vu] at this
        exact this
      obtain ⟨I5, s5, r5⟩ := ih (k + 1) I3 (by omega) s4
      refine ⟨I5, by simp only [fsS, hb, and_self, and_true, true_and, and_false, false_and, or_true, true_or, or_false, false_or, not_true_eq_false, not_false_eq_true, if_true, if_false, ne_eq, ite_self, reduceCtorEq, i10, Decidable.not_not]; exact s5, ?_⟩
      rw [e_M_first_6]
      simp only [e_M_first_7, e_M_first_10, e_M_first_13, e_M_first_14, e_M_first_17, e_M_first_18, e_M_first_19, e_M_first_20, e_M_first_23, e_M_first_24, e_M_first_25, e_M_first_28, e_M_first_29, e_M_first_32, e_M_first_35, hlt, and_self, and_true, true_and, and_false, false_and, or_true, true_or, or_false, false_or, not_true_eq_false, not_false_eq_true, if_true, if_false, ne_eq, ite_self, reduceCtorEq, i10, Decidable.not_not, is_93 h, rf_93_0 h, rf_93_4 h, ia94_4 h, i97, cl_4, e1, e2, hb, r3, rb_v, nI_1, r5, fsS]
    · refine ⟨I2, by simp only [fsS, hb, and_self, and_true, true_and, and_false, false_and, or_true, true_or, or_false, false_or, not_true_eq_false, not_false_eq_true, if_true, if_false, ne_eq, ite_self, reduceCtorEq, i10, Decidable.not_not]; exact s, ?_⟩
      rw [e_M_first_6]
      simp only [e_M_first_7, e_M_first_10, e_M_first_13, e_M_first_14, e_M_first_17, e_M_first_18, e_M_first_19, e_M_first_20, e_M_first_23, e_M_first_24, e_M_first_25, e_M_first_28, e_M_first_29, e_M_first_32, e_M_first_35, hlt, and_self, and_true, true_and, and_false, false_and, or_true, true_or, or_false, false_or, not_true_eq_false, not_false_eq_true, if_true, if_false, ne_eq, ite_self, reduceCtorEq, i10, Decidable.not_not, is_93 h, rf_93_0 h, rf_93_4 h, ia94_4 h, i97, cl_4, e1, e2, hb, fsS]
noncomputable def sp_first (A : mI) : Int32 × mI := (if fsS (A 94) 201 0 ≤ 200 then nI (fsS (A 94) 201 0) else -1000000005, A)
theorem o_M_first (h : WF S R) (hm : MR I A) (hr : rwOK (A 94)) : ∃ I2, MR I2 (sp_first A).2 ∧ rn Ls xs (d + 9) 30 0 [some (.inr (.inl (some 93))), none] [] (S, I, R) = some (some (.inl (sp_first A).1), (S, I2, R)) := by
  have hr2 : rwOK (I 94) := by rw [hm.now]; exact hr
  obtain ⟨I2, s2, r2⟩ := l_M_first (Ls := Ls) (xs := xs) (d := d + 5) (I := I) (c := I 97) h hr2 201 0 (va_up I 97 (thS (I 94) (I 97) 92)) (by omega) (by
    have e : va_up (va_up I 97 (thS (I 94) (I 97) 92)) 94 (hrsS (I 94) 0) = va_up I 97 (thS (I 94) (I 97) 92) := by
      have : hrsS (I 94) 0 = va_up I 97 (thS (I 94) (I 97) 92) 94 := by rw [vu_n (by decide)]; rfl
      rw [this, vu_id]
    rw [e]
    exact Sm.rfl')
  have r2 : rn Ls xs (d + 9) 30 6 [some (.inr (.inl (some 93))), some (.inl 0)] [] (S, va_up I 97 (thS (I 94) (I 97) 92), R) = _ := r2
  have rb := k_M_back (Ls := Ls) (xs := xs) (d := d + 8) h s2 (fun i hi => hrs_hi hr2 hi _)
  have hle := fsS_le (I 94) 201 0
  refine ⟨_, hm.think s2, ?_⟩
  unfold sp_first
  rw [← hm.now]
  simp only [e_M_first_0, e_M_first_1, e_M_first_4, e_M_first_5, is_93 h, and_self, and_true, true_and, and_false, false_and, or_true, true_or, or_false, false_or, not_true_eq_false, not_false_eq_true, if_true, if_false, ne_eq, ite_self, reduceCtorEq, i10, Decidable.not_not, k_M_thinks h, rb_v, r2]
  simp only [e_M_first_38, e_M_first_39, e_M_first_42, e_M_first_43, e_M_first_46, e_M_first_49, e_M_first_51, e_M_first_54, e_M_first_55, is_93 h, and_self, and_true, true_and, and_false, false_and, or_true, true_or, or_false, false_or, not_true_eq_false, not_false_eq_true, if_true, if_false, ne_eq, ite_self, reduceCtorEq, i10, Decidable.not_not, rb, rb_v]
  have hc : (nI (fsS (I 94) 201 0) ≤ 200) = (fsS (I 94) 201 0 ≤ 200) := nI_le' (b := 200) (by omega) (by decide)
  simp only [hc, it_i]
end MT6

/-! THE CLASS: wrecks' calls -/
section CRU
variable {Ls : Nat} {xs : Nat → Int32} {d : Nat} {S : mS} {I I2 I3 A : mI} {R R2 R3 : mR} {x y z u v : Int32}
theorem k_hw (h : WF S R) (hc : CR S I R A) : rn Ls xs (d + 1) 100 0 [some (.inr (.inl (some 1))), some (.inl x)] [] (S, I, R) = some (some (.inl (if isWr A x then 1 else 0)), (S, I, R)) := k_S_hasWreck h q1 hc.s
theorem k_hw_y (h : WF S R) (hc : CR S I R A) (hw : isWr A x) : rn Ls xs (d + 1) 100 0 [some (.inr (.inl (some 1))), some (.inl x)] [] (S, I, R) = some (some (.inl 1), (S, I, R)) := by rw [k_hw h hc, if_pos hw]
theorem k_hw_n (h : WF S R) (hc : CR S I R A) (hw : ¬ isWr A x) : rn Ls xs (d + 1) 100 0 [some (.inr (.inl (some 1))), some (.inl x)] [] (S, I, R) = some (some (.inl 0), (S, I, R)) := by rw [k_hw h hc, if_neg hw]
theorem CR.w (hc : CR S I R A) {n w k : Nat} (cn : cW (A 94 1) = n) (hw : w < n) (hk : k < 6) : I (1 + 4 + w) k = A 94 (8 + 6 * w + k) := hc.s.2.1 w k (by omega) hk
theorem k_told (h : WF S R) (hc : CR S I R A) : ∃ I2, (I2 = I ∨ ∃ g, I2 = va_up I 4 g) ∧ rn Ls xs (d + 3) 5 0 [some (.inr (.inl (some 0))), some (.inl x), some (.inl y), none] [] (S, I, R) = some (some (.inl (sp_told A x y).1), (S, I2, R)) := by
  obtain ⟨n, hn, e1, cn⟩ := hc.g.n
  obtain ⟨t, ht, e2⟩ := hc.t
  unfold sp_told
  by_cases hw : isWr A x
  · obtain ⟨w, hwn, rfl⟩ := wr_get hn e1 hw
    have hw14 : w < 14 := by omega
    have wi := q_wi h q1 hw14
    have w0 : I (1 + 4 + w) 0 = A 94 (8 + 6 * w) := hc.w cn hwn (by decide)
    have w1 : I (1 + 4 + w) 1 = A 94 (8 + 6 * w + 1) := hc.w cn hwn (by decide)
    have w2 : I (1 + 4 + w) 2 = A 94 (8 + 6 * w + 2) := hc.w cn hwn (by decide)
    have w3 : I (1 + 4 + w) 3 = A 94 (8 + 6 * w + 3) := hc.w cn hwn (by decide)
    have w4 : I (1 + 4 + w) 4 = A 94 (8 + 6 * w + 4) := hc.w cn hwn (by decide)
    have w5 : I (1 + 4 + w) 5 = A 94 (8 + 6 * w + 5) := hc.w cn hwn (by decide)
    have cw : cW (nI w) = w := nI_clamp (by omega)
    have st : rn Ls xs (d + 3) 5 0 [some (.inr (.inl (some 0))), some (.inl (nI w)), some (.inl y), none] [] (S, I, R) = rn Ls xs (d + 3) 5 25 [some (.inr (.inl (some 0))), some (.inl (nI w)), some (.inl y), some (.inr (.inl (some (1 + 4 + w))))] [.inl y] (S, I, R) := by
      simp only [e_W_told_0, e_W_told_1, e_W_told_4, e_W_told_5, e_W_told_8, e_W_told_11, e_W_told_13, e_W_told_14, e_W_told_15, e_W_told_18, e_W_told_21, e_W_told_22, e_W_told_23, e_W_told_24, is_0 h, rf_0_0 h, is_1 h, and_self, and_true, true_and, and_false, false_and, or_true, true_or, or_false, false_or, not_true_eq_false, not_false_eq_true, if_true, if_false, ne_eq, ite_self, reduceCtorEq, i10, Decidable.not_not, Bool.and_self, Bool.and_true, Bool.true_and, k_hw_y h hc hw, rb_i, t1, q_r0 h q1, q_ia1 h q1 hw14, nI_clamp (show w < 2 ^ 31 by omega), q_w h q1 hw14]
    rw [st, if_pos hw, cw]
    by_cases y6 : y = 6
    · obtain ⟨g, r⟩ := k_S_hardOf (Ls := Ls) (xs := xs) (d := d) h q1 hc.s hc.g cn hwn hw14
      subst y6
      exact ⟨_, Or.inr ⟨g, rfl⟩, by simp only [e_W_told_25, e_W_told_76, e_W_told_77, e_W_told_80, e_W_told_81, e_W_told_82, e_W_told_85, e_W_told_86, e_W_told_87, e_W_told_90, e_W_told_91, e_W_told_92, e_W_told_95, e_W_told_96, e_W_told_97, e_W_told_100, e_W_told_101, e_W_told_102, e_W_told_105, e_W_told_108, e_W_told_109, e_W_told_112, e_W_told_113, e_W_told_114, e_W_told_115, e_W_told_118, e_W_told_119, e_W_told_122, e_W_told_123, e_W_told_124, e_W_told_125, e_W_told_128, e_W_told_131, e_W_told_134, e_W_told_135, e_W_told_136, e_W_told_139, e_W_told_140, e_W_told_142, Int32.reduceAdd, Int32.reduceSub, Int32.reduceLT, Int32.reduceLE, Int32.reduceMul, n_0_1, n_0_2, n_0_3, n_0_4, n_0_5, n_0_6, n_0_7, n_0_8, n_0_9, n_1_0, n_1_2, n_1_3, n_1_4, n_1_5, n_1_6, n_1_7, n_1_8, n_1_9, n_2_0, n_2_1, n_2_3, n_2_4, n_2_5, n_2_6, n_2_7, n_2_8, n_2_9, n_3_0, n_3_1, n_3_2, n_3_4, n_3_5, n_3_6, n_3_7, n_3_8, n_3_9, n_4_0, n_4_1, n_4_2, n_4_3, n_4_5, n_4_6, n_4_7, n_4_8, n_4_9, n_5_0, n_5_1, n_5_2, n_5_3, n_5_4, n_5_6, n_5_7, n_5_8, n_5_9, n_6_0, n_6_1, n_6_2, n_6_3, n_6_4, n_6_5, n_6_7, n_6_8, n_6_9, n_7_0, n_7_1, n_7_2, n_7_3, n_7_4, n_7_5, n_7_6, n_7_8, n_7_9, n_8_0, n_8_1, n_8_2, n_8_3, n_8_4, n_8_5, n_8_6, n_8_7, n_8_9, n_9_0, n_9_1, n_9_2, n_9_3, n_9_4, n_9_5, n_9_6, n_9_7, n_9_8, and_self, and_true, true_and, and_false, false_and, or_true, true_or, or_false, false_or, not_true_eq_false, not_false_eq_true, if_true, if_false, ne_eq, ite_self, reduceCtorEq, i10, Decidable.not_not, Bool.and_self, Bool.and_true, Bool.true_and, is_0 h, rf_0_0 h, is_1 h, r, rb_i]⟩
    · refine ⟨I, Or.inl rfl, ?_⟩
      by_cases y5 : y = 5
      · subst y5
        rcases okF5 (hc.g.2 w 5 (by omega) (by decide)) with e | e
        · simp only [e_W_told_25, e_W_told_76, e_W_told_77, e_W_told_80, e_W_told_81, e_W_told_82, e_W_told_85, e_W_told_86, e_W_told_87, e_W_told_90, e_W_told_91, e_W_told_92, e_W_told_95, e_W_told_96, e_W_told_97, e_W_told_100, e_W_told_101, e_W_told_102, e_W_told_105, e_W_told_108, e_W_told_109, e_W_told_112, e_W_told_113, e_W_told_114, e_W_told_115, e_W_told_118, e_W_told_119, e_W_told_122, e_W_told_123, e_W_told_124, e_W_told_125, e_W_told_128, e_W_told_131, e_W_told_134, e_W_told_135, e_W_told_136, e_W_told_139, e_W_told_140, e_W_told_142, Int32.reduceAdd, Int32.reduceSub, Int32.reduceLT, Int32.reduceLE, Int32.reduceMul, n_0_1, n_0_2, n_0_3, n_0_4, n_0_5, n_0_6, n_0_7, n_0_8, n_0_9, n_1_0, n_1_2, n_1_3, n_1_4, n_1_5, n_1_6, n_1_7, n_1_8, n_1_9, n_2_0, n_2_1, n_2_3, n_2_4, n_2_5, n_2_6, n_2_7, n_2_8, n_2_9, n_3_0, n_3_1, n_3_2, n_3_4, n_3_5, n_3_6, n_3_7, n_3_8, n_3_9, n_4_0, n_4_1, n_4_2, n_4_3, n_4_5, n_4_6, n_4_7, n_4_8, n_4_9, n_5_0, n_5_1, n_5_2, n_5_3, n_5_4, n_5_6, n_5_7, n_5_8, n_5_9, n_6_0, n_6_1, n_6_2, n_6_3, n_6_4, n_6_5, n_6_7, n_6_8, n_6_9, n_7_0, n_7_1, n_7_2, n_7_3, n_7_4, n_7_5, n_7_6, n_7_8, n_7_9, n_8_0, n_8_1, n_8_2, n_8_3, n_8_4, n_8_5, n_8_6, n_8_7, n_8_9, n_9_0, n_9_1, n_9_2, n_9_3, n_9_4, n_9_5, n_9_6, n_9_7, n_9_8, and_self, and_true, true_and, and_false, false_and, or_true, true_or, or_false, false_or, not_true_eq_false, not_false_eq_true, if_true, if_false, ne_eq, ite_self, reduceCtorEq, i10, Decidable.not_not, Bool.and_self, Bool.and_true, Bool.true_and, wi, w5, e]
        · simp only [e_W_told_25, e_W_told_76, e_W_told_77, e_W_told_80, e_W_told_81, e_W_told_82, e_W_told_85, e_W_told_86, e_W_told_87, e_W_told_90, e_W_told_91, e_W_told_92, e_W_told_95, e_W_told_96, e_W_told_97, e_W_told_100, e_W_told_101, e_W_told_102, e_W_told_105, e_W_told_108, e_W_told_109, e_W_told_112, e_W_told_113, e_W_told_114, e_W_told_115, e_W_told_118, e_W_told_119, e_W_told_122, e_W_told_123, e_W_told_124, e_W_told_125, e_W_told_128, e_W_told_131, e_W_told_134, e_W_told_135, e_W_told_136, e_W_told_139, e_W_told_140, e_W_told_142, Int32.reduceAdd, Int32.reduceSub, Int32.reduceLT, Int32.reduceLE, Int32.reduceMul, n_0_1, n_0_2, n_0_3, n_0_4, n_0_5, n_0_6, n_0_7, n_0_8, n_0_9, n_1_0, n_1_2, n_1_3, n_1_4, n_1_5, n_1_6, n_1_7, n_1_8, n_1_9, n_2_0, n_2_1, n_2_3, n_2_4, n_2_5, n_2_6, n_2_7, n_2_8, n_2_9, n_3_0, n_3_1, n_3_2, n_3_4, n_3_5, n_3_6, n_3_7, n_3_8, n_3_9, n_4_0, n_4_1, n_4_2, n_4_3, n_4_5, n_4_6, n_4_7, n_4_8, n_4_9, n_5_0, n_5_1, n_5_2, n_5_3, n_5_4, n_5_6, n_5_7, n_5_8, n_5_9, n_6_0, n_6_1, n_6_2, n_6_3, n_6_4, n_6_5, n_6_7, n_6_8, n_6_9, n_7_0, n_7_1, n_7_2, n_7_3, n_7_4, n_7_5, n_7_6, n_7_8, n_7_9, n_8_0, n_8_1, n_8_2, n_8_3, n_8_4, n_8_5, n_8_6, n_8_7, n_8_9, n_9_0, n_9_1, n_9_2, n_9_3, n_9_4, n_9_5, n_9_6, n_9_7, n_9_8, and_self, and_true, true_and, and_false, false_and, or_true, true_or, or_false, false_or, not_true_eq_false, not_false_eq_true, if_true, if_false, ne_eq, ite_self, reduceCtorEq, i10, Decidable.not_not, Bool.and_self, Bool.and_true, Bool.true_and, wi, w5, e]
      · simp only [e_W_told_25, e_W_told_76, e_W_told_77, e_W_told_80, e_W_told_81, e_W_told_82, e_W_told_85, e_W_told_86, e_W_told_87, e_W_told_90, e_W_told_91, e_W_told_92, e_W_told_95, e_W_told_96, e_W_told_97, e_W_told_100, e_W_told_101, e_W_told_102, e_W_told_105, e_W_told_108, e_W_told_109, e_W_told_112, e_W_told_113, e_W_told_114, e_W_told_115, e_W_told_118, e_W_told_119, e_W_told_122, e_W_told_123, e_W_told_124, e_W_told_125, e_W_told_128, e_W_told_131, e_W_told_134, e_W_told_135, e_W_told_136, e_W_told_139, e_W_told_140, e_W_told_142, Int32.reduceAdd, Int32.reduceSub, Int32.reduceLT, Int32.reduceLE, Int32.reduceMul, n_0_1, n_0_2, n_0_3, n_0_4, n_0_5, n_0_6, n_0_7, n_0_8, n_0_9, n_1_0, n_1_2, n_1_3, n_1_4, n_1_5, n_1_6, n_1_7, n_1_8, n_1_9, n_2_0, n_2_1, n_2_3, n_2_4, n_2_5, n_2_6, n_2_7, n_2_8, n_2_9, n_3_0, n_3_1, n_3_2, n_3_4, n_3_5, n_3_6, n_3_7, n_3_8, n_3_9, n_4_0, n_4_1, n_4_2, n_4_3, n_4_5, n_4_6, n_4_7, n_4_8, n_4_9, n_5_0, n_5_1, n_5_2, n_5_3, n_5_4, n_5_6, n_5_7, n_5_8, n_5_9, n_6_0, n_6_1, n_6_2, n_6_3, n_6_4, n_6_5, n_6_7, n_6_8, n_6_9, n_7_0, n_7_1, n_7_2, n_7_3, n_7_4, n_7_5, n_7_6, n_7_8, n_7_9, n_8_0, n_8_1, n_8_2, n_8_3, n_8_4, n_8_5, n_8_6, n_8_7, n_8_9, n_9_0, n_9_1, n_9_2, n_9_3, n_9_4, n_9_5, n_9_6, n_9_7, n_9_8, and_self, and_true, true_and, and_false, false_and, or_true, true_or, or_false, false_or, not_true_eq_false, not_false_eq_true, if_true, if_false, ne_eq, ite_self, reduceCtorEq, i10, Decidable.not_not, Bool.and_self, Bool.and_true, Bool.true_and, wi, w0, w1, w2, w3, w4, is_0 h, rf_0_0 h, is_1 h, hc.s.f9, k_K_goesAt wi w0 w3 e2 (show t < 2 ^ 30 by omega), k_K_worth wi w0 w4, rb_i, y5, y6, it_i]
  · refine ⟨I, Or.inl rfl, ?_⟩
    rw [if_neg hw]
    simp only [e_W_told_0, e_W_told_1, e_W_told_4, e_W_told_5, e_W_told_8, e_W_told_11, e_W_told_13, is_0 h, rf_0_0 h, is_1 h, and_self, and_true, true_and, and_false, false_and, or_true, true_or, or_false, false_or, not_true_eq_false, not_false_eq_true, if_true, if_false, ne_eq, ite_self, reduceCtorEq, i10, Decidable.not_not, Bool.and_self, Bool.and_true, Bool.true_and, k_hw_n h hc hw, rb_i]
theorem cw_told (h : WF S R) (hc : CR S I R A) : COp S I R (sp_told A x y) (rn Ls xs (d + 9) 5 0 [some (.inr (.inl (some 0))), some (.inl x), some (.inl y), none] [] (S, I, R)) := by
  obtain ⟨I2, h2, r⟩ := k_told (Ls := Ls) (xs := xs) (d := d + 6) (x := x) (y := y) h hc
  rcases h2 with rfl | ⟨g, rfl⟩
  · exact COp.same h hc r
  · exact COp.st h hc r
theorem cw_as (h : WF S R) (hc : CR S I R A) : COp S I R (sp_as A x y) (rn Ls xs (d + 9) 7 0 [some (.inr (.inl (some 0))), some (.inl x), some (.inl y), none] [] (S, I, R)) := by
  obtain ⟨n, hn, e1, cn⟩ := hc.g.n
  unfold sp_as
  by_cases hw : isWr A x
  · by_cases hy : in05 y = true
    · have hy' : 0 ≤ y ∧ y ≤ 5 := by simpa [in05] using hy
      obtain ⟨w, hwn, rfl⟩ := wr_get hn e1 hw
      have hw14 : w < 14 := by omega
      have wi := q_wi h q1 hw14
      have w0 : I (1 + 4 + w) 0 = A 94 (8 + 6 * w) := hc.w cn hwn (by decide)
      have w4 : I (1 + 4 + w) 4 = A 94 (8 + 6 * w + 4) := hc.w cn hwn (by decide)
      have cw : cW (nI w) = w := nI_clamp (by omega)
      have r := k_K_isOf (Ls := Ls) (xs := xs) (d := d + 8) (I := I) (R := R) (x := y) wi (by rw [w0]; exact hc.g.2 w 0 (by omega) (by decide)) hy
      rw [if_pos ⟨hw, hy'⟩, cw]
      refine COp.same h hc ?_
      by_cases hu : undS (A 94 (8 + 6 * w)) y = true
      · rw [if_pos (of_decide_eq_true hu)]
        rw [w0, if_pos hu] at r
        simp only [e_W_as_0, e_W_as_1, e_W_as_4, e_W_as_5, e_W_as_8, e_W_as_11, e_W_as_12, e_W_as_15, e_W_as_18, e_W_as_20, e_W_as_21, e_W_as_22, e_W_as_25, e_W_as_28, e_W_as_29, e_W_as_30, e_W_as_31, e_W_as_32, e_W_as_33, e_W_as_36, e_W_as_39, e_W_as_40, e_W_as_43, e_W_as_46, e_W_as_48, is_0 h, rf_0_0 h, is_1 h, and_self, and_true, true_and, and_false, false_and, or_true, true_or, or_false, false_or, not_true_eq_false, not_false_eq_true, if_true, if_false, ne_eq, ite_self, reduceCtorEq, i10, Decidable.not_not, Bool.and_self, Bool.and_true, Bool.true_and, k_hw_y h hc hw, hy, k_W_isKind, rb_i, t1, q_r0 h q1, q_ia1 h q1 hw14, nI_clamp (show w < 2 ^ 31 by omega), q_w h q1 hw14, wi, r, w4]
      · rw [if_neg (fun q => hu (decide_eq_true q))]
        rw [w0, if_neg hu] at r
        simp only [e_W_as_0, e_W_as_1, e_W_as_4, e_W_as_5, e_W_as_8, e_W_as_11, e_W_as_12, e_W_as_15, e_W_as_18, e_W_as_20, e_W_as_21, e_W_as_22, e_W_as_25, e_W_as_28, e_W_as_29, e_W_as_30, e_W_as_31, e_W_as_32, e_W_as_33, e_W_as_36, e_W_as_39, e_W_as_40, e_W_as_43, e_W_as_46, e_W_as_48, is_0 h, rf_0_0 h, is_1 h, and_self, and_true, true_and, and_false, false_and, or_true, true_or, or_false, false_or, not_true_eq_false, not_false_eq_true, if_true, if_false, ne_eq, ite_self, reduceCtorEq, i10, Decidable.not_not, Bool.and_self, Bool.and_true, Bool.true_and, k_hw_y h hc hw, hy, k_W_isKind, rb_i, t1, q_r0 h q1, q_ia1 h q1 hw14, nI_clamp (show w < 2 ^ 31 by omega), q_w h q1 hw14, wi, r, w4]
    · rw [if_neg (fun q => hy (by simpa [in05] using q.2))]
      exact COp.same h hc (by simp only [e_W_as_0, e_W_as_1, e_W_as_4, e_W_as_5, e_W_as_8, e_W_as_11, e_W_as_12, e_W_as_15, e_W_as_18, e_W_as_20, is_0 h, rf_0_0 h, is_1 h, and_self, and_true, true_and, and_false, false_and, or_true, true_or, or_false, false_or, not_true_eq_false, not_false_eq_true, if_true, if_false, ne_eq, ite_self, reduceCtorEq, i10, Decidable.not_not, Bool.and_self, Bool.and_true, Bool.true_and, k_hw_y h hc hw, hy, k_W_isKind, rb_i, t1])
  · rw [if_neg (fun q => hw q.1)]
    exact COp.same h hc (by simp only [e_W_as_0, e_W_as_1, e_W_as_4, e_W_as_5, e_W_as_8, e_W_as_11, e_W_as_12, e_W_as_15, e_W_as_18, e_W_as_20, is_0 h, rf_0_0 h, is_1 h, and_self, and_true, true_and, and_false, false_and, or_true, true_or, or_false, false_or, not_true_eq_false, not_false_eq_true, if_true, if_false, ne_eq, ite_self, reduceCtorEq, i10, Decidable.not_not, Bool.and_self, Bool.and_true, Bool.true_and, k_hw_n h hc hw, rb_i, t1])
theorem cw_turns (h : WF S R) (hc : CR S I R A) : COp S I R (sp_turns A x y) (rn Ls xs (d + 9) 9 0 [some (.inr (.inl (some 0))), some (.inl x), some (.inl y), none, none] [] (S, I, R)) := by
  obtain ⟨n, hn, e1, cn⟩ := hc.g.n
  unfold sp_turns
  by_cases hw : isWr A x
  · by_cases hy : in05 y = true
    · have hy' : 0 ≤ y ∧ y ≤ 5 := by simpa [in05] using hy
      obtain ⟨w, hwn, rfl⟩ := wr_get hn e1 hw
      have hw14 : w < 14 := by omega
      have wi := q_wi h q1 hw14
      have w0 : I (1 + 4 + w) 0 = A 94 (8 + 6 * w) := hc.w cn hwn (by decide)
      have cw : cW (nI w) = w := nI_clamp (by omega)
      rw [if_pos ⟨hw, hy'⟩, cw]
      refine COp.now h hc (hc.s.setW q1 hw14 (show 0 < 6 by decide)) (gh_fld (k := 0) hc.gg (by omega) (by decide) hy') (Fq.rfl'.up (by omega) (by omega)) ?_
      simp only [e_W_turns_0, e_W_turns_1, e_W_turns_4, e_W_turns_5, e_W_turns_8, e_W_turns_11, e_W_turns_12, e_W_turns_15, e_W_turns_18, e_W_turns_20, e_W_turns_21, e_W_turns_22, e_W_turns_25, e_W_turns_28, e_W_turns_29, e_W_turns_30, e_W_turns_31, e_W_turns_32, e_W_turns_35, e_W_turns_37, e_W_turns_38, e_W_turns_39, e_W_turns_42, e_W_turns_44, is_0 h, rf_0_0 h, is_1 h, and_self, and_true, true_and, and_false, false_and, or_true, true_or, or_false, false_or, not_true_eq_false, not_false_eq_true, if_true, if_false, ne_eq, ite_self, reduceCtorEq, i10, Decidable.not_not, Bool.and_self, Bool.and_true, Bool.true_and, k_hw_y h hc hw, hy, k_W_isKind, rb_i, t1, q_r0 h q1, q_ia1 h q1 hw14, nI_clamp (show w < 2 ^ 31 by omega), q_w h q1 hw14, wi, w0]
    · rw [if_neg (fun q => hy (by simpa [in05] using q.2))]
      exact COp.same h hc (by simp only [e_W_turns_0, e_W_turns_1, e_W_turns_4, e_W_turns_5, e_W_turns_8, e_W_turns_11, e_W_turns_12, e_W_turns_15, e_W_turns_18, e_W_turns_20, is_0 h, rf_0_0 h, is_1 h, and_self, and_true, true_and, and_false, false_and, or_true, true_or, or_false, false_or, not_true_eq_false, not_false_eq_true, if_true, if_false, ne_eq, ite_self, reduceCtorEq, i10, Decidable.not_not, Bool.and_self, Bool.and_true, Bool.true_and, k_hw_y h hc hw, hy, k_W_isKind, rb_i, t1])
  · rw [if_neg (fun q => hw q.1)]
    exact COp.same h hc (by simp only [e_W_turns_0, e_W_turns_1, e_W_turns_4, e_W_turns_5, e_W_turns_8, e_W_turns_11, e_W_turns_12, e_W_turns_15, e_W_turns_18, e_W_turns_20, is_0 h, rf_0_0 h, is_1 h, and_self, and_true, true_and, and_false, false_and, or_true, true_or, or_false, false_or, not_true_eq_false, not_false_eq_true, if_true, if_false, ne_eq, ite_self, reduceCtorEq, i10, Decidable.not_not, Bool.and_self, Bool.and_true, Bool.true_and, k_hw_n h hc hw, rb_i, t1])
theorem cw_sweep (h : WF S R) (hc : CR S I R A) : COp S I R (sp_sweep A x) (rn Ls xs (d + 9) 13 0 [some (.inr (.inl (some 0))), some (.inl x), none] [] (S, I, R)) := by
  obtain ⟨n, hn, e1, cn⟩ := hc.g.n
  unfold sp_sweep
  by_cases hw : isWr A x
  · obtain ⟨w, hwn, rfl⟩ := wr_get hn e1 hw
    have hw14 : w < 14 := by omega
    have wi := q_wi h q1 hw14
    have w4 : I (1 + 4 + w) 4 = A 94 (8 + 6 * w + 4) := hc.w cn hwn (by decide)
    have w5 : I (1 + 4 + w) 5 = A 94 (8 + 6 * w + 5) := hc.w cn hwn (by decide)
    have cw : cW (nI w) = w := nI_clamp (by omega)
    rw [if_pos hw, cw]
    rcases okF5 (hc.g.2 w 5 (by omega) (by decide)) with e | e
    · rw [if_neg (by rw [e]; decide)]
      exact COp.same h hc (by simp only [e_W_sweep_0, e_W_sweep_1, e_W_sweep_4, e_W_sweep_5, e_W_sweep_8, e_W_sweep_11, e_W_sweep_13, e_W_sweep_14, e_W_sweep_15, e_W_sweep_18, e_W_sweep_21, e_W_sweep_22, e_W_sweep_23, e_W_sweep_24, e_W_sweep_25, e_W_sweep_28, e_W_sweep_31, e_W_sweep_33, e_W_sweep_34, e_W_sweep_35, e_W_sweep_36, e_W_sweep_39, e_W_sweep_40, e_W_sweep_43, e_W_sweep_44, e_W_sweep_47, e_W_sweep_48, e_W_sweep_49, e_W_sweep_52, e_W_sweep_53, e_W_sweep_56, is_0 h, rf_0_0 h, is_1 h, and_self, and_true, true_and, and_false, false_and, or_true, true_or, or_false, false_or, not_true_eq_false, not_false_eq_true, if_true, if_false, ne_eq, ite_self, reduceCtorEq, i10, Decidable.not_not, Bool.and_self, Bool.and_true, Bool.true_and, k_hw_y h hc hw, rb_i, t1, q_r0 h q1, q_ia1 h q1 hw14, nI_clamp (show w < 2 ^ 31 by omega), q_w h q1 hw14, wi, w5, e])
    · rw [if_pos e]
      have s2 := (hc.s.setW q1 hw14 (show 5 < 6 by decide) (x := 0)).set8 q1 (x := A 94 6 + 1)
      rw [vu_n (show 1 ≠ 1 + 4 + w by omega)] at s2
      refine COp.now h hc s2 (gh_upd (gh_fld (k := 5) hc.gg (by omega) (by decide) (Or.inl rfl)) (by decide) (by decide) (by decide) (by decide) (by decide)) ((Fq.rfl'.up (by omega) (by omega)).up (by omega) (by omega)) ?_
      simp only [e_W_sweep_0, e_W_sweep_1, e_W_sweep_4, e_W_sweep_5, e_W_sweep_8, e_W_sweep_11, e_W_sweep_13, e_W_sweep_14, e_W_sweep_15, e_W_sweep_18, e_W_sweep_21, e_W_sweep_22, e_W_sweep_23, e_W_sweep_24, e_W_sweep_25, e_W_sweep_28, e_W_sweep_31, e_W_sweep_33, e_W_sweep_34, e_W_sweep_35, e_W_sweep_36, e_W_sweep_39, e_W_sweep_40, e_W_sweep_43, e_W_sweep_44, e_W_sweep_47, e_W_sweep_48, e_W_sweep_49, e_W_sweep_52, e_W_sweep_53, e_W_sweep_56, is_0 h, rf_0_0 h, is_1 h, and_self, and_true, true_and, and_false, false_and, or_true, true_or, or_false, false_or, not_true_eq_false, not_false_eq_true, if_true, if_false, ne_eq, ite_self, reduceCtorEq, i10, Decidable.not_not, Bool.and_self, Bool.and_true, Bool.true_and, k_hw_y h hc hw, rb_i, t1, q_r0 h q1, q_ia1 h q1 hw14, nI_clamp (show w < 2 ^ 31 by omega), q_w h q1 hw14, wi, w5, e, bo_0, vu_n (show 1 ≠ 1 + 4 + w by omega), hc.s.f8, vu_n (show 1 + 4 + w ≠ 1 by omega), vu_s, up_n (show 4 ≠ 5 by decide), w4]
  · rw [if_neg hw]
    exact COp.same h hc (by simp only [e_W_sweep_0, e_W_sweep_1, e_W_sweep_4, e_W_sweep_5, e_W_sweep_8, e_W_sweep_11, e_W_sweep_13, is_0 h, rf_0_0 h, is_1 h, and_self, and_true, true_and, and_false, false_and, or_true, true_or, or_false, false_or, not_true_eq_false, not_false_eq_true, if_true, if_false, ne_eq, ite_self, reduceCtorEq, i10, Decidable.not_not, Bool.and_self, Bool.and_true, Bool.true_and, k_hw_n h hc hw, rb_i, t1])
theorem cw_drag (h : WF S R) (hc : CR S I R A) : COp S I R (sp_drag A x) (rn Ls xs (d + 9) 15 0 [some (.inr (.inl (some 0))), some (.inl x), none] [] (S, I, R)) := by
  unfold sp_drag
  by_cases hx : 0 ≤ x ∧ x ≤ 100
  · rw [if_pos hx]
    refine COp.now h hc (hc.s.set5 q1) (gh_upd hc.gg (by decide) (by decide) (by decide) (by decide) (by decide)) (Fq.rfl'.up (by omega) (by omega)) ?_
    simp only [e_W_drag_0, e_W_drag_1, e_W_drag_2, e_W_drag_4, e_W_drag_7, e_W_drag_10, e_W_drag_12, e_W_drag_13, e_W_drag_14, e_W_drag_17, e_W_drag_20, e_W_drag_21, e_W_drag_22, e_W_drag_25, e_W_drag_26, e_W_drag_29, e_W_drag_30, is_0 h, rf_0_0 h, is_1 h, and_self, and_true, true_and, and_false, false_and, or_true, true_or, or_false, false_or, not_true_eq_false, not_false_eq_true, if_true, if_false, ne_eq, ite_self, reduceCtorEq, i10, Decidable.not_not, Bool.and_self, Bool.and_true, Bool.true_and, k_W_within, hx, rb_i, t1, hc.s.f5]
  · rw [if_neg hx]
    exact COp.same h hc (by simp only [e_W_drag_0, e_W_drag_1, e_W_drag_2, e_W_drag_4, e_W_drag_7, e_W_drag_10, e_W_drag_12, e_W_drag_13, e_W_drag_14, e_W_drag_17, e_W_drag_20, e_W_drag_21, e_W_drag_22, e_W_drag_25, e_W_drag_26, e_W_drag_29, e_W_drag_30, and_self, and_true, true_and, and_false, false_and, or_true, true_or, or_false, false_or, not_true_eq_false, not_false_eq_true, if_true, if_false, ne_eq, ite_self, reduceCtorEq, i10, Decidable.not_not, Bool.and_self, Bool.and_true, Bool.true_and, k_W_within, hx, rb_i, t1])
theorem cw_seed (h : WF S R) (hc : CR S I R A) : COp S I R (sp_seed A x) (rn Ls xs (d + 9) 21 0 [some (.inr (.inl (some 0))), some (.inl x), none] [] (S, I, R)) := by
  unfold sp_seed
  refine COp.now h hc (hc.s.set10 q1) (gh_upd hc.gg (by decide) (by decide) (by decide) (by decide) (by decide)) (Fq.rfl'.up (by omega) (by omega)) ?_
  simp only [e_W_seed_0, e_W_seed_1, e_W_seed_4, e_W_seed_7, e_W_seed_8, e_W_seed_9, e_W_seed_12, e_W_seed_13, e_W_seed_16, e_W_seed_17, is_0 h, rf_0_0 h, is_1 h, and_self, and_true, true_and, and_false, false_and, or_true, true_or, or_false, false_or, not_true_eq_false, not_false_eq_true, if_true, if_false, ne_eq, ite_self, reduceCtorEq, i10, Decidable.not_not, Bool.and_self, Bool.and_true, Bool.true_and, hc.s.f10]
theorem l_W_at (h : WF S R) (hc : CR S I R A) {n : Nat} (hn : n ≤ 14) (e1 : A 94 1 = nI n) : ∀ (j w : Nat) (s : Int32) (l5 : Option mV), w + j = n → rn Ls xs d 17 25 [some (.inr (.inl (some 0))), some (.inl x), some (.inl y), some (.inl s), some (.inl (nI w)), l5] [] (S, I, R) = some (some (.inl (atS (A 94) x y w j s)), (S, I, R)) := by
  have cn : cW (A 94 1) = n := by rw [e1, cW, nI_clamp (by omega)]
  intro j
  induction j with
  | zero =>
    intro w s l5 hw
    have : w = n := by omega
    subst this
    rw [e_W_at_25]
    simp only [e_W_at_0, e_W_at_1, e_W_at_2, e_W_at_4, e_W_at_7, e_W_at_10, e_W_at_11, e_W_at_14, e_W_at_17, e_W_at_19, e_W_at_20, e_W_at_21, e_W_at_22, e_W_at_23, e_W_at_27, e_W_at_28, e_W_at_31, e_W_at_34, e_W_at_37, e_W_at_38, e_W_at_41, e_W_at_44, e_W_at_46, e_W_at_47, e_W_at_49, e_W_at_51, e_W_at_54, e_W_at_57, e_W_at_59, e_W_at_62, e_W_at_63, e_W_at_66, e_W_at_68, e_W_at_71, e_W_at_72, e_W_at_75, e_W_at_76, e_W_at_77, e_W_at_79, e_W_at_80, e_W_at_81, e_W_at_82, e_W_at_85, e_W_at_88, e_W_at_89, is_0 h, rf_0_0 h, is_1 h, hc.s.f3, e1, nI_le' (show w < 2 ^ 31 by omega) (show w < 2 ^ 31 by omega), Nat.le_refl, if_true, atS]
  | succ j ih =>
    intro w s l5 hw
    have hw14 : w < 14 := by omega
    have wi := q_wi h q1 hw14
    have w1 : I (1 + 4 + w) 1 = A 94 (8 + 6 * w + 1) := hc.w cn (by omega) (by decide)
    have w2 : I (1 + 4 + w) 2 = A 94 (8 + 6 * w + 2) := hc.w cn (by omega) (by decide)
    have w5 : I (1 + 4 + w) 5 = A 94 (8 + 6 * w + 5) := hc.w cn (by omega) (by decide)
    rw [e_W_at_25]
    unfold atS
    rw [← ih (w + 1) _ (some (.inr (.inl (some (1 + 4 + w))))) (by omega)]
    rcases okF5 (hc.g.2 w 5 (by omega) (by decide)) with e | e
    · simp only [e_W_at_0, e_W_at_1, e_W_at_2, e_W_at_4, e_W_at_7, e_W_at_10, e_W_at_11, e_W_at_14, e_W_at_17, e_W_at_19, e_W_at_20, e_W_at_21, e_W_at_22, e_W_at_23, e_W_at_27, e_W_at_28, e_W_at_31, e_W_at_34, e_W_at_37, e_W_at_38, e_W_at_41, e_W_at_44, e_W_at_46, e_W_at_47, e_W_at_49, e_W_at_51, e_W_at_54, e_W_at_57, e_W_at_59, e_W_at_62, e_W_at_63, e_W_at_66, e_W_at_68, e_W_at_71, e_W_at_72, e_W_at_75, e_W_at_76, e_W_at_77, e_W_at_79, e_W_at_80, e_W_at_81, e_W_at_82, e_W_at_85, e_W_at_88, e_W_at_89, is_0 h, rf_0_0 h, is_1 h, hc.s.f3, e1, nI_le' (show n < 2 ^ 31 by omega) (show w < 2 ^ 31 by omega), show ¬ n ≤ w by omega, and_self, and_true, true_and, and_false, false_and, or_true, true_or, or_false, false_or, not_true_eq_false, not_false_eq_true, if_true, if_false, ne_eq, ite_self, reduceCtorEq, i10, Decidable.not_not, Bool.and_self, Bool.and_true, Bool.true_and, q_r0 h q1, q_ia1 h q1 hw14, nI_clamp (show w < 2 ^ 31 by omega), q_w h q1 hw14, wi, w5, e, show ¬ (0 : Int32) = 1 by decide, or_z, nI_1]
    · by_cases hh : A 94 (8 + 6 * w + 1) = x
      · by_cases hp : A 94 (8 + 6 * w + 2) = y
        · simp only [e_W_at_0, e_W_at_1, e_W_at_2, e_W_at_4, e_W_at_7, e_W_at_10, e_W_at_11, e_W_at_14, e_W_at_17, e_W_at_19, e_W_at_20, e_W_at_21, e_W_at_22, e_W_at_23, e_W_at_27, e_W_at_28, e_W_at_31, e_W_at_34, e_W_at_37, e_W_at_38, e_W_at_41, e_W_at_44, e_W_at_46, e_W_at_47, e_W_at_49, e_W_at_51, e_W_at_54, e_W_at_57, e_W_at_59, e_W_at_62, e_W_at_63, e_W_at_66, e_W_at_68, e_W_at_71, e_W_at_72, e_W_at_75, e_W_at_76, e_W_at_77, e_W_at_79, e_W_at_80, e_W_at_81, e_W_at_82, e_W_at_85, e_W_at_88, e_W_at_89, is_0 h, rf_0_0 h, is_1 h, hc.s.f3, e1, nI_le' (show n < 2 ^ 31 by omega) (show w < 2 ^ 31 by omega), show ¬ n ≤ w by omega, and_self, and_true, true_and, and_false, false_and, or_true, true_or, or_false, false_or, not_true_eq_false, not_false_eq_true, if_true, if_false, ne_eq, ite_self, reduceCtorEq, i10, Decidable.not_not, Bool.and_self, Bool.and_true, Bool.true_and, q_r0 h q1, q_ia1 h q1 hw14, nI_clamp (show w < 2 ^ 31 by omega), q_w h q1 hw14, wi, w5, w1, w2, e, t1, hh, hp, nI_1]
        · simp only [e_W_at_0, e_W_at_1, e_W_at_2, e_W_at_4, e_W_at_7, e_W_at_10, e_W_at_11, e_W_at_14, e_W_at_17, e_W_at_19, e_W_at_20, e_W_at_21, e_W_at_22, e_W_at_23, e_W_at_27, e_W_at_28, e_W_at_31, e_W_at_34, e_W_at_37, e_W_at_38, e_W_at_41, e_W_at_44, e_W_at_46, e_W_at_47, e_W_at_49, e_W_at_51, e_W_at_54, e_W_at_57, e_W_at_59, e_W_at_62, e_W_at_63, e_W_at_66, e_W_at_68, e_W_at_71, e_W_at_72, e_W_at_75, e_W_at_76, e_W_at_77, e_W_at_79, e_W_at_80, e_W_at_81, e_W_at_82, e_W_at_85, e_W_at_88, e_W_at_89, is_0 h, rf_0_0 h, is_1 h, hc.s.f3, e1, nI_le' (show n < 2 ^ 31 by omega) (show w < 2 ^ 31 by omega), show ¬ n ≤ w by omega, and_self, and_true, true_and, and_false, false_and, or_true, true_or, or_false, false_or, not_true_eq_false, not_false_eq_true, if_true, if_false, ne_eq, ite_self, reduceCtorEq, i10, Decidable.not_not, Bool.and_self, Bool.and_true, Bool.true_and, q_r0 h q1, q_ia1 h q1 hw14, nI_clamp (show w < 2 ^ 31 by omega), q_w h q1 hw14, wi, w5, w1, w2, e, t1, hh, hp, or_z, nI_1]
      · simp only [e_W_at_0, e_W_at_1, e_W_at_2, e_W_at_4, e_W_at_7, e_W_at_10, e_W_at_11, e_W_at_14, e_W_at_17, e_W_at_19, e_W_at_20, e_W_at_21, e_W_at_22, e_W_at_23, e_W_at_27, e_W_at_28, e_W_at_31, e_W_at_34, e_W_at_37, e_W_at_38, e_W_at_41, e_W_at_44, e_W_at_46, e_W_at_47, e_W_at_49, e_W_at_51, e_W_at_54, e_W_at_57, e_W_at_59, e_W_at_62, e_W_at_63, e_W_at_66, e_W_at_68, e_W_at_71, e_W_at_72, e_W_at_75, e_W_at_76, e_W_at_77, e_W_at_79, e_W_at_80, e_W_at_81, e_W_at_82, e_W_at_85, e_W_at_88, e_W_at_89, is_0 h, rf_0_0 h, is_1 h, hc.s.f3, e1, nI_le' (show n < 2 ^ 31 by omega) (show w < 2 ^ 31 by omega), show ¬ n ≤ w by omega, and_self, and_true, true_and, and_false, false_and, or_true, true_or, or_false, false_or, not_true_eq_false, not_false_eq_true, if_true, if_false, ne_eq, ite_self, reduceCtorEq, i10, Decidable.not_not, Bool.and_self, Bool.and_true, Bool.true_and, q_r0 h q1, q_ia1 h q1 hw14, nI_clamp (show w < 2 ^ 31 by omega), q_w h q1 hw14, wi, w5, w1, e, t1, hh, or_z, nI_1]
theorem cw_at (h : WF S R) (hc : CR S I R A) : COp S I R (sp_at A x y) (rn Ls xs (d + 9) 17 0 [some (.inr (.inl (some 0))), some (.inl x), some (.inl y), none, none, none] [] (S, I, R)) := by
  obtain ⟨n, hn, e1, cn⟩ := hc.g.n
  unfold sp_at
  refine COp.same h hc ?_
  by_cases hx : 0 ≤ x ∧ x ≤ 7
  · by_cases hy : 0 ≤ y ∧ y ≤ 29
    · have l : rn Ls xs (d + 9) 17 25 [some (.inr (.inl (some 0))), some (.inl x), some (.inl y), some (.inl 0), some (.inl 0), none] [] (S, I, R) = _ := l_W_at (Ls := Ls) (xs := xs) (d := d + 9) (x := x) (y := y) h hc hn e1 n 0 0 none (by omega)
      rw [if_pos ⟨hx, hy⟩, cn]
      simp only [e_W_at_0, e_W_at_1, e_W_at_2, e_W_at_4, e_W_at_7, e_W_at_10, e_W_at_11, e_W_at_14, e_W_at_17, e_W_at_19, e_W_at_20, e_W_at_21, e_W_at_22, e_W_at_23, and_self, and_true, true_and, and_false, false_and, or_true, true_or, or_false, false_or, not_true_eq_false, not_false_eq_true, if_true, if_false, ne_eq, ite_self, reduceCtorEq, i10, Decidable.not_not, Bool.and_self, Bool.and_true, Bool.true_and, k_W_within, k_W_isPlace, hx, hy, rb_i, t1, l]
    · rw [if_neg (fun q => hy q.2)]
      simp only [e_W_at_0, e_W_at_1, e_W_at_2, e_W_at_4, e_W_at_7, e_W_at_10, e_W_at_11, e_W_at_14, e_W_at_17, e_W_at_19, e_W_at_20, e_W_at_21, e_W_at_22, e_W_at_23, and_self, and_true, true_and, and_false, false_and, or_true, true_or, or_false, false_or, not_true_eq_false, not_false_eq_true, if_true, if_false, ne_eq, ite_self, reduceCtorEq, i10, Decidable.not_not, Bool.and_self, Bool.and_true, Bool.true_and, k_W_within, k_W_isPlace, hx, hy, rb_i, t1]
  · rw [if_neg (fun q => hx q.1)]
    simp only [e_W_at_0, e_W_at_1, e_W_at_2, e_W_at_4, e_W_at_7, e_W_at_10, e_W_at_11, e_W_at_14, e_W_at_17, e_W_at_19, e_W_at_20, e_W_at_21, e_W_at_22, e_W_at_23, and_self, and_true, true_and, and_false, false_and, or_true, true_or, or_false, false_or, not_true_eq_false, not_false_eq_true, if_true, if_false, ne_eq, ite_self, reduceCtorEq, i10, Decidable.not_not, Bool.and_self, Bool.and_true, Bool.true_and, k_W_within, k_W_isPlace, hx, rb_i, t1]
theorem cw_sky (h : WF S R) (hc : CR S I R A) : COp S I R (sp_sky A x) (rn Ls xs (d + 9) 25 0 [some (.inr (.inl (some 0))), some (.inl x)] [] (S, I, R)) := by
  unfold sp_sky
  refine COp.same h hc ?_
  simp only [e_W_sky_0, e_W_sky_1, e_W_sky_40, e_W_sky_41, e_W_sky_44, e_W_sky_47, e_W_sky_48, e_W_sky_49, e_W_sky_52, e_W_sky_55, e_W_sky_56, e_W_sky_57, e_W_sky_60, e_W_sky_63, e_W_sky_64, e_W_sky_65, e_W_sky_68, e_W_sky_71, e_W_sky_72, e_W_sky_73, e_W_sky_76, e_W_sky_79, e_W_sky_80, e_W_sky_81, e_W_sky_84, e_W_sky_87, e_W_sky_88, e_W_sky_90, is_0 h, rf_0_0 h, is_1 h, and_self, and_true, true_and, and_false, false_and, or_true, true_or, or_false, false_or, not_true_eq_false, not_false_eq_true, if_true, if_false, ne_eq, ite_self, reduceCtorEq, i10, Decidable.not_not, Bool.and_self, Bool.and_true, Bool.true_and, hc.s.f6, hc.s.f7, hc.s.f8, k_S_upSet h q1 hc.s hc.g, k_S_upMass h q1 hc.s hc.g, k_S_upHeights h q1 hc.s hc.g, rb_i, it_i]
end CRU

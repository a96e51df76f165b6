/-! THE CLASS: sums over a sky; one sky becomes as another -/
theorem or_z (x : Int32) : x ||| 0 = x := by
  apply Int32.toBitVec_inj.mp
  rw [Int32.toBitVec_or]
  exact BitVec.or_zero
section CT8
variable {Ls : Nat} {xs : Nat → Int32} {d : Nat} {S : mS} {I : mI} {R : mR} {x y z : Int32} {H : mH} {p q : Nat} {a : Nat → Int32}
theorem l_S_upSet (h : WF S R) (hq : isQ q) {n : Nat} (hn : n ≤ 14) (hs : SkR S I R q a) (hg : gd a) (e1 : a 1 = nI n) : ∀ (j w : Nat) (s : Int32), w + j = n → rn Ls xs d 122 4 [some (.inr (.inl (some q))), some (.inl s), some (.inl (nI w))] [] (S, I, R) = some (some (.inl (upsS a 1 w j s)), (S, I, R)) := by
  have cn : cW (a 1) = n := by rw [e1, cW, nI_clamp (by omega)]
  intro j
  induction j with
  | zero =>
    intro w s hw
    have : w = n := by omega
    subst this
    rw [e_S_upSet_4]
    simp only [e_S_upSet_0, e_S_upSet_1, e_S_upSet_2, e_S_upSet_3, e_S_upSet_5, e_S_upSet_6, e_S_upSet_9, e_S_upSet_12, e_S_upSet_13, e_S_upSet_16, e_S_upSet_17, e_S_upSet_18, e_S_upSet_21, e_S_upSet_24, e_S_upSet_25, e_S_upSet_26, e_S_upSet_27, e_S_upSet_28, e_S_upSet_29, e_S_upSet_30, e_S_upSet_33, e_S_upSet_36, e_S_upSet_37, q_is h hq, if_true, hs.f3, e1, nI_le' (show w < 2 ^ 31 by omega) (show w < 2 ^ 31 by omega), Nat.le_refl, upsS]
  | succ j ih =>
    intro w s hw
    have hw14 : w < 14 := by omega
    have wi := q_wi h hq hw14
    have w5 : I (q + 4 + w) 5 = a (8 + 6 * w + 5) := hs.2.1 w 5 (by omega) (by omega)
    have ih1 := ih (w + 1) (upsS1 a 1 w s) (by omega)
    rw [e_S_upSet_4, show upsS a 1 w (j + 1) s = upsS a 1 (w + 1) j (upsS1 a 1 w s) from rfl, ← ih1]
    rcases okF5 (hg.2 w 5 (by omega) (by decide)) with e | e
    · simp only [e_S_upSet_0, e_S_upSet_1, e_S_upSet_2, e_S_upSet_3, e_S_upSet_5, e_S_upSet_6, e_S_upSet_9, e_S_upSet_12, e_S_upSet_13, e_S_upSet_16, e_S_upSet_17, e_S_upSet_18, e_S_upSet_21, e_S_upSet_24, e_S_upSet_25, e_S_upSet_26, e_S_upSet_27, e_S_upSet_28, e_S_upSet_29, e_S_upSet_30, e_S_upSet_33, e_S_upSet_36, e_S_upSet_37, q_is h hq, and_self, and_true, true_and, and_false, false_and, or_true, true_or, or_false, false_or, not_true_eq_false, not_false_eq_true, if_true, if_false, ne_eq, ite_self, reduceCtorEq, i10, Decidable.not_not, Bool.and_self, Bool.and_true, Bool.true_and, hs.f3, e1, nI_le' (show n < 2 ^ 31 by omega) (show w < 2 ^ 31 by omega), show ¬ n ≤ w by omega, q_r0 h hq, q_ia1 h hq hw14, nI_clamp (show w < 2 ^ 31 by omega), q_w h hq hw14, wi, w5, e, upsS1, Int32.reduceAdd, Int32.reduceSub, Int32.reduceLT, Int32.reduceLE, Int32.reduceMul, n_0_1, n_0_2, n_0_3, n_0_4, n_0_5, n_0_6, n_0_7, n_0_8, n_0_9, n_1_0, n_1_2, n_1_3, n_1_4, n_1_5, n_1_6, n_1_7, n_1_8, n_1_9, n_2_0, n_2_1, n_2_3, n_2_4, n_2_5, n_2_6, n_2_7, n_2_8, n_2_9, n_3_0, n_3_1, n_3_2, n_3_4, n_3_5, n_3_6, n_3_7, n_3_8, n_3_9, n_4_0, n_4_1, n_4_2, n_4_3, n_4_5, n_4_6, n_4_7, n_4_8, n_4_9, n_5_0, n_5_1, n_5_2, n_5_3, n_5_4, n_5_6, n_5_7, n_5_8, n_5_9, n_6_0, n_6_1, n_6_2, n_6_3, n_6_4, n_6_5, n_6_7, n_6_8, n_6_9, n_7_0, n_7_1, n_7_2, n_7_3, n_7_4, n_7_5, n_7_6, n_7_8, n_7_9, n_8_0, n_8_1, n_8_2, n_8_3, n_8_4, n_8_5, n_8_6, n_8_7, n_8_9, n_9_0, n_9_1, n_9_2, n_9_3, n_9_4, n_9_5, n_9_6, n_9_7, n_9_8, or_z, Int32.add_zero, nI_1]
    · simp only [e_S_upSet_0, e_S_upSet_1, e_S_upSet_2, e_S_upSet_3, e_S_upSet_5, e_S_upSet_6, e_S_upSet_9, e_S_upSet_12, e_S_upSet_13, e_S_upSet_16, e_S_upSet_17, e_S_upSet_18, e_S_upSet_21, e_S_upSet_24, e_S_upSet_25, e_S_upSet_26, e_S_upSet_27, e_S_upSet_28, e_S_upSet_29, e_S_upSet_30, e_S_upSet_33, e_S_upSet_36, e_S_upSet_37, q_is h hq, and_self, and_true, true_and, and_false, false_and, or_true, true_or, or_false, false_or, not_true_eq_false, not_false_eq_true, if_true, if_false, ne_eq, ite_self, reduceCtorEq, i10, Decidable.not_not, Bool.and_self, Bool.and_true, Bool.true_and, hs.f3, e1, nI_le' (show n < 2 ^ 31 by omega) (show w < 2 ^ 31 by omega), show ¬ n ≤ w by omega, q_r0 h hq, q_ia1 h hq hw14, nI_clamp (show w < 2 ^ 31 by omega), q_w h hq hw14, wi, w5, e, upsS1, Int32.reduceAdd, Int32.reduceSub, Int32.reduceLT, Int32.reduceLE, Int32.reduceMul, n_0_1, n_0_2, n_0_3, n_0_4, n_0_5, n_0_6, n_0_7, n_0_8, n_0_9, n_1_0, n_1_2, n_1_3, n_1_4, n_1_5, n_1_6, n_1_7, n_1_8, n_1_9, n_2_0, n_2_1, n_2_3, n_2_4, n_2_5, n_2_6, n_2_7, n_2_8, n_2_9, n_3_0, n_3_1, n_3_2, n_3_4, n_3_5, n_3_6, n_3_7, n_3_8, n_3_9, n_4_0, n_4_1, n_4_2, n_4_3, n_4_5, n_4_6, n_4_7, n_4_8, n_4_9, n_5_0, n_5_1, n_5_2, n_5_3, n_5_4, n_5_6, n_5_7, n_5_8, n_5_9, n_6_0, n_6_1, n_6_2, n_6_3, n_6_4, n_6_5, n_6_7, n_6_8, n_6_9, n_7_0, n_7_1, n_7_2, n_7_3, n_7_4, n_7_5, n_7_6, n_7_8, n_7_9, n_8_0, n_8_1, n_8_2, n_8_3, n_8_4, n_8_5, n_8_6, n_8_7, n_8_9, n_9_0, n_9_1, n_9_2, n_9_3, n_9_4, n_9_5, n_9_6, n_9_7, n_9_8, or_z, Int32.add_zero, nI_1]
theorem k_S_upSet (h : WF S R) (hq : isQ q) (hs : SkR S I R q a) (hg : gd a) : rn Ls xs d 122 0 [some (.inr (.inl (some q))), none, none] [] (S, I, R) = some (some (.inl (upsS a 1 0 (cW (a 1)) 0)), (S, I, R)) := by
  obtain ⟨n, hn, e1, cn⟩ := hg.n
  have r : rn Ls xs d 122 4 [some (.inr (.inl (some q))), some (.inl 0), some (.inl 0)] [] (S, I, R) = _ := l_S_upSet (Ls := Ls) (xs := xs) (d := d) h hq hn hs hg e1 n 0 0 (by omega)
  rw [cn]
  simp only [e_S_upSet_0, e_S_upSet_1, e_S_upSet_2, e_S_upSet_3, r]
theorem l_S_upMass (h : WF S R) (hq : isQ q) {n : Nat} (hn : n ≤ 14) (hs : SkR S I R q a) (hg : gd a) (e1 : a 1 = nI n) : ∀ (j w : Nat) (s : Int32), w + j = n → rn Ls xs d 123 4 [some (.inr (.inl (some q))), some (.inl s), some (.inl (nI w))] [] (S, I, R) = some (some (.inl (upsS a 2 w j s)), (S, I, R)) := by
  have cn : cW (a 1) = n := by rw [e1, cW, nI_clamp (by omega)]
  intro j
  induction j with
  | zero =>
    intro w s hw
    have : w = n := by omega
    subst this
    rw [e_S_upMass_4]
    simp only [e_S_upMass_0, e_S_upMass_1, e_S_upMass_2, e_S_upMass_3, e_S_upMass_5, e_S_upMass_6, e_S_upMass_9, e_S_upMass_12, e_S_upMass_13, e_S_upMass_14, e_S_upMass_17, e_S_upMass_18, e_S_upMass_19, e_S_upMass_22, e_S_upMass_25, e_S_upMass_26, e_S_upMass_29, e_S_upMass_30, e_S_upMass_31, e_S_upMass_34, e_S_upMass_37, e_S_upMass_38, e_S_upMass_39, e_S_upMass_40, e_S_upMass_43, e_S_upMass_46, e_S_upMass_47, q_is h hq, if_true, hs.f3, e1, nI_le' (show w < 2 ^ 31 by omega) (show w < 2 ^ 31 by omega), Nat.le_refl, upsS]
  | succ j ih =>
    intro w s hw
    have hw14 : w < 14 := by omega
    have wi := q_wi h hq hw14
    have w4 : I (q + 4 + w) 4 = a (8 + 6 * w + 4) := hs.2.1 w 4 (by omega) (by omega)
    have w5 : I (q + 4 + w) 5 = a (8 + 6 * w + 5) := hs.2.1 w 5 (by omega) (by omega)
    have ih1 := ih (w + 1) (upsS1 a 2 w s) (by omega)
    rw [e_S_upMass_4, show upsS a 2 w (j + 1) s = upsS a 2 (w + 1) j (upsS1 a 2 w s) from rfl, ← ih1]
    rcases okF5 (hg.2 w 5 (by omega) (by decide)) with e | e
    · simp only [e_S_upMass_0, e_S_upMass_1, e_S_upMass_2, e_S_upMass_3, e_S_upMass_5, e_S_upMass_6, e_S_upMass_9, e_S_upMass_12, e_S_upMass_13, e_S_upMass_14, e_S_upMass_17, e_S_upMass_18, e_S_upMass_19, e_S_upMass_22, e_S_upMass_25, e_S_upMass_26, e_S_upMass_29, e_S_upMass_30, e_S_upMass_31, e_S_upMass_34, e_S_upMass_37, e_S_upMass_38, e_S_upMass_39, e_S_upMass_40, e_S_upMass_43, e_S_upMass_46, e_S_upMass_47, q_is h hq, and_self, and_true, true_and, and_false, false_and, or_true, true_or, or_false, false_or, not_true_eq_false, not_false_eq_true, if_true, if_false, ne_eq, ite_self, reduceCtorEq, i10, Decidable.not_not, Bool.and_self, Bool.and_true, Bool.true_and, hs.f3, e1, nI_le' (show n < 2 ^ 31 by omega) (show w < 2 ^ 31 by omega), show ¬ n ≤ w by omega, q_r0 h hq, q_ia1 h hq hw14, nI_clamp (show w < 2 ^ 31 by omega), q_w h hq hw14, wi, w4, w5, e, upsS1, Int32.reduceAdd, Int32.reduceSub, Int32.reduceLT, Int32.reduceLE, Int32.reduceMul, n_0_1, n_0_2, n_0_3, n_0_4, n_0_5, n_0_6, n_0_7, n_0_8, n_0_9, n_1_0, n_1_2, n_1_3, n_1_4, n_1_5, n_1_6, n_1_7, n_1_8, n_1_9, n_2_0, n_2_1, n_2_3, n_2_4, n_2_5, n_2_6, n_2_7, n_2_8, n_2_9, n_3_0, n_3_1, n_3_2, n_3_4, n_3_5, n_3_6, n_3_7, n_3_8, n_3_9, n_4_0, n_4_1, n_4_2, n_4_3, n_4_5, n_4_6, n_4_7, n_4_8, n_4_9, n_5_0, n_5_1, n_5_2, n_5_3, n_5_4, n_5_6, n_5_7, n_5_8, n_5_9, n_6_0, n_6_1, n_6_2, n_6_3, n_6_4, n_6_5, n_6_7, n_6_8, n_6_9, n_7_0, n_7_1, n_7_2, n_7_3, n_7_4, n_7_5, n_7_6, n_7_8, n_7_9, n_8_0, n_8_1, n_8_2, n_8_3, n_8_4, n_8_5, n_8_6, n_8_7, n_8_9, n_9_0, n_9_1, n_9_2, n_9_3, n_9_4, n_9_5, n_9_6, n_9_7, n_9_8, or_z, Int32.add_zero, nI_1]
    · simp only [e_S_upMass_0, e_S_upMass_1, e_S_upMass_2, e_S_upMass_3, e_S_upMass_5, e_S_upMass_6, e_S_upMass_9, e_S_upMass_12, e_S_upMass_13, e_S_upMass_14, e_S_upMass_17, e_S_upMass_18, e_S_upMass_19, e_S_upMass_22, e_S_upMass_25, e_S_upMass_26, e_S_upMass_29, e_S_upMass_30, e_S_upMass_31, e_S_upMass_34, e_S_upMass_37, e_S_upMass_38, e_S_upMass_39, e_S_upMass_40, e_S_upMass_43, e_S_upMass_46, e_S_upMass_47, q_is h hq, and_self, and_true, true_and, and_false, false_and, or_true, true_or, or_false, false_or, not_true_eq_false, not_false_eq_true, if_true, if_false, ne_eq, ite_self, reduceCtorEq, i10, Decidable.not_not, Bool.and_self, Bool.and_true, Bool.true_and, hs.f3, e1, nI_le' (show n < 2 ^ 31 by omega) (show w < 2 ^ 31 by omega), show ¬ n ≤ w by omega, q_r0 h hq, q_ia1 h hq hw14, nI_clamp (show w < 2 ^ 31 by omega), q_w h hq hw14, wi, w4, w5, e, upsS1, Int32.reduceAdd, Int32.reduceSub, Int32.reduceLT, Int32.reduceLE, Int32.reduceMul, n_0_1, n_0_2, n_0_3, n_0_4, n_0_5, n_0_6, n_0_7, n_0_8, n_0_9, n_1_0, n_1_2, n_1_3, n_1_4, n_1_5, n_1_6, n_1_7, n_1_8, n_1_9, n_2_0, n_2_1, n_2_3, n_2_4, n_2_5, n_2_6, n_2_7, n_2_8, n_2_9, n_3_0, n_3_1, n_3_2, n_3_4, n_3_5, n_3_6, n_3_7, n_3_8, n_3_9, n_4_0, n_4_1, n_4_2, n_4_3, n_4_5, n_4_6, n_4_7, n_4_8, n_4_9, n_5_0, n_5_1, n_5_2, n_5_3, n_5_4, n_5_6, n_5_7, n_5_8, n_5_9, n_6_0, n_6_1, n_6_2, n_6_3, n_6_4, n_6_5, n_6_7, n_6_8, n_6_9, n_7_0, n_7_1, n_7_2, n_7_3, n_7_4, n_7_5, n_7_6, n_7_8, n_7_9, n_8_0, n_8_1, n_8_2, n_8_3, n_8_4, n_8_5, n_8_6, n_8_7, n_8_9, n_9_0, n_9_1, n_9_2, n_9_3, n_9_4, n_9_5, n_9_6, n_9_7, n_9_8, or_z, Int32.add_zero, nI_1]
theorem k_S_upMass (h : WF S R) (hq : isQ q) (hs : SkR S I R q a) (hg : gd a) : rn Ls xs d 123 0 [some (.inr (.inl (some q))), none, none] [] (S, I, R) = some (some (.inl (upsS a 2 0 (cW (a 1)) 0)), (S, I, R)) := by
  obtain ⟨n, hn, e1, cn⟩ := hg.n
  have r : rn Ls xs d 123 4 [some (.inr (.inl (some q))), some (.inl 0), some (.inl 0)] [] (S, I, R) = _ := l_S_upMass (Ls := Ls) (xs := xs) (d := d) h hq hn hs hg e1 n 0 0 (by omega)
  rw [cn]
  simp only [e_S_upMass_0, e_S_upMass_1, e_S_upMass_2, e_S_upMass_3, r]
theorem l_S_upHeights (h : WF S R) (hq : isQ q) {n : Nat} (hn : n ≤ 14) (hs : SkR S I R q a) (hg : gd a) (e1 : a 1 = nI n) : ∀ (j w : Nat) (s : Int32), w + j = n → rn Ls xs d 124 4 [some (.inr (.inl (some q))), some (.inl s), some (.inl (nI w))] [] (S, I, R) = some (some (.inl (upsS a 3 w j s)), (S, I, R)) := by
  have cn : cW (a 1) = n := by rw [e1, cW, nI_clamp (by omega)]
  intro j
  induction j with
  | zero =>
    intro w s hw
    have : w = n := by omega
    subst this
    rw [e_S_upHeights_4]
    simp only [e_S_upHeights_0, e_S_upHeights_1, e_S_upHeights_2, e_S_upHeights_3, e_S_upHeights_5, e_S_upHeights_6, e_S_upHeights_9, e_S_upHeights_12, e_S_upHeights_13, e_S_upHeights_14, e_S_upHeights_17, e_S_upHeights_18, e_S_upHeights_19, e_S_upHeights_22, e_S_upHeights_25, e_S_upHeights_26, e_S_upHeights_27, e_S_upHeights_30, e_S_upHeights_31, e_S_upHeights_32, e_S_upHeights_35, e_S_upHeights_36, e_S_upHeights_39, e_S_upHeights_40, e_S_upHeights_41, e_S_upHeights_42, e_S_upHeights_45, e_S_upHeights_48, e_S_upHeights_49, q_is h hq, if_true, hs.f3, e1, nI_le' (show w < 2 ^ 31 by omega) (show w < 2 ^ 31 by omega), Nat.le_refl, upsS]
  | succ j ih =>
    intro w s hw
    have hw14 : w < 14 := by omega
    have wi := q_wi h hq hw14
    have w1 : I (q + 4 + w) 1 = a (8 + 6 * w + 1) := hs.2.1 w 1 (by omega) (by omega)
    have w5 : I (q + 4 + w) 5 = a (8 + 6 * w + 5) := hs.2.1 w 5 (by omega) (by omega)
    have ih1 := ih (w + 1) (upsS1 a 3 w s) (by omega)
    rw [e_S_upHeights_4, show upsS a 3 w (j + 1) s = upsS a 3 (w + 1) j (upsS1 a 3 w s) from rfl, ← ih1]
    rcases okF5 (hg.2 w 5 (by omega) (by decide)) with e | e
    · simp only [e_S_upHeights_0, e_S_upHeights_1, e_S_upHeights_2, e_S_upHeights_3, e_S_upHeights_5, e_S_upHeights_6, e_S_upHeights_9, e_S_upHeights_12, e_S_upHeights_13, e_S_upHeights_14, e_S_upHeights_17, e_S_upHeights_18, e_S_upHeights_19, e_S_upHeights_22, e_S_upHeights_25, e_S_upHeights_26, e_S_upHeights_27, e_S_upHeights_30, e_S_upHeights_31, e_S_upHeights_32, e_S_upHeights_35, e_S_upHeights_36, e_S_upHeights_39, e_S_upHeights_40, e_S_upHeights_41, e_S_upHeights_42, e_S_upHeights_45, e_S_upHeights_48, e_S_upHeights_49, q_is h hq, and_self, and_true, true_and, and_false, false_and, or_true, true_or, or_false, false_or, not_true_eq_false, not_false_eq_true, if_true, if_false, ne_eq, ite_self, reduceCtorEq, i10, Decidable.not_not, Bool.and_self, Bool.and_true, Bool.true_and, hs.f3, e1, nI_le' (show n < 2 ^ 31 by omega) (show w < 2 ^ 31 by omega), show ¬ n ≤ w by omega, q_r0 h hq, q_ia1 h hq hw14, nI_clamp (show w < 2 ^ 31 by omega), q_w h hq hw14, wi, w1, w5, e, upsS1, Int32.reduceAdd, Int32.reduceSub, Int32.reduceLT, Int32.reduceLE, Int32.reduceMul, n_0_1, n_0_2, n_0_3, n_0_4, n_0_5, n_0_6, n_0_7, n_0_8, n_0_9, n_1_0, n_1_2, n_1_3, n_1_4, n_1_5, n_1_6, n_1_7, n_1_8, n_1_9, n_2_0, n_2_1, n_2_3, n_2_4, n_2_5, n_2_6, n_2_7, n_2_8, n_2_9, n_3_0, n_3_1, n_3_2, n_3_4, n_3_5, n_3_6, n_3_7, n_3_8, n_3_9, n_4_0, n_4_1, n_4_2, n_4_3, n_4_5, n_4_6, n_4_7, n_4_8, n_4_9, n_5_0, n_5_1, n_5_2, n_5_3, n_5_4, n_5_6, n_5_7, n_5_8, n_5_9, n_6_0, n_6_1, n_6_2, n_6_3, n_6_4, n_6_5, n_6_7, n_6_8, n_6_9, n_7_0, n_7_1, n_7_2, n_7_3, n_7_4, n_7_5, n_7_6, n_7_8, n_7_9, n_8_0, n_8_1, n_8_2, n_8_3, n_8_4, n_8_5, n_8_6, n_8_7, n_8_9, n_9_0, n_9_1, n_9_2, n_9_3, n_9_4, n_9_5, n_9_6, n_9_7, n_9_8, or_z, Int32.add_zero, nI_1]
    · simp only [e_S_upHeights_0, e_S_upHeights_1, e_S_upHeights_2, e_S_upHeights_3, e_S_upHeights_5, e_S_upHeights_6, e_S_upHeights_9, e_S_upHeights_12, e_S_upHeights_13, e_S_upHeights_14, e_S_upHeights_17, e_S_upHeights_18, e_S_upHeights_19, e_S_upHeights_22, e_S_upHeights_25, e_S_upHeights_26, e_S_upHeights_27, e_S_upHeights_30, e_S_upHeights_31, e_S_upHeights_32, e_S_upHeights_35, e_S_upHeights_36, e_S_upHeights_39, e_S_upHeights_40, e_S_upHeights_41, e_S_upHeights_42, e_S_upHeights_45, e_S_upHeights_48, e_S_upHeights_49, q_is h hq, and_self, and_true, true_and, and_false, false_and, or_true, true_or, or_false, false_or, not_true_eq_false, not_false_eq_true, if_true, if_false, ne_eq, ite_self, reduceCtorEq, i10, Decidable.not_not, Bool.and_self, Bool.and_true, Bool.true_and, hs.f3, e1, nI_le' (show n < 2 ^ 31 by omega) (show w < 2 ^ 31 by omega), show ¬ n ≤ w by omega, q_r0 h hq, q_ia1 h hq hw14, nI_clamp (show w < 2 ^ 31 by omega), q_w h hq hw14, wi, w1, w5, e, upsS1, Int32.reduceAdd, Int32.reduceSub, Int32.reduceLT, Int32.reduceLE, Int32.reduceMul, n_0_1, n_0_2, n_0_3, n_0_4, n_0_5, n_0_6, n_0_7, n_0_8, n_0_9, n_1_0, n_1_2, n_1_3, n_1_4, n_1_5, n_1_6, n_1_7, n_1_8, n_1_9, n_2_0, n_2_1, n_2_3, n_2_4, n_2_5, n_2_6, n_2_7, n_2_8, n_2_9, n_3_0, n_3_1, n_3_2, n_3_4, n_3_5, n_3_6, n_3_7, n_3_8, n_3_9, n_4_0, n_4_1, n_4_2, n_4_3, n_4_5, n_4_6, n_4_7, n_4_8, n_4_9, n_5_0, n_5_1, n_5_2, n_5_3, n_5_4, n_5_6, n_5_7, n_5_8, n_5_9, n_6_0, n_6_1, n_6_2, n_6_3, n_6_4, n_6_5, n_6_7, n_6_8, n_6_9, n_7_0, n_7_1, n_7_2, n_7_3, n_7_4, n_7_5, n_7_6, n_7_8, n_7_9, n_8_0, n_8_1, n_8_2, n_8_3, n_8_4, n_8_5, n_8_6, n_8_7, n_8_9, n_9_0, n_9_1, n_9_2, n_9_3, n_9_4, n_9_5, n_9_6, n_9_7, n_9_8, or_z, Int32.add_zero, nI_1]
theorem k_S_upHeights (h : WF S R) (hq : isQ q) (hs : SkR S I R q a) (hg : gd a) : rn Ls xs d 124 0 [some (.inr (.inl (some q))), none, none] [] (S, I, R) = some (some (.inl (upsS a 3 0 (cW (a 1)) 0)), (S, I, R)) := by
  obtain ⟨n, hn, e1, cn⟩ := hg.n
  have r : rn Ls xs d 124 4 [some (.inr (.inl (some q))), some (.inl 0), some (.inl 0)] [] (S, I, R) = _ := l_S_upHeights (Ls := Ls) (xs := xs) (d := d) h hq hn hs hg e1 n 0 0 (by omega)
  rw [cn]
  simp only [e_S_upHeights_0, e_S_upHeights_1, e_S_upHeights_2, e_S_upHeights_3, r]
theorem l_S_upPlaceSum (h : WF S R) (hq : isQ q) {n : Nat} (hn : n ≤ 14) (hs : SkR S I R q a) (hg : gd a) (e1 : a 1 = nI n) : ∀ (j w : Nat) (s : Int32), w + j = n → rn Ls xs d 207 4 [some (.inr (.inl (some q))), some (.inl s), some (.inl (nI w))] [] (S, I, R) = some (some (.inl (upsS a 4 w j s)), (S, I, R)) := by
  have cn : cW (a 1) = n := by rw [e1, cW, nI_clamp (by omega)]
  intro j
  induction j with
  | zero =>
    intro w s hw
    have : w = n := by omega
    subst this
    rw [e_S_upPlaceSum_4]
    simp only [e_S_upPlaceSum_0, e_S_upPlaceSum_1, e_S_upPlaceSum_2, e_S_upPlaceSum_3, e_S_upPlaceSum_5, e_S_upPlaceSum_6, e_S_upPlaceSum_9, e_S_upPlaceSum_12, e_S_upPlaceSum_13, e_S_upPlaceSum_14, e_S_upPlaceSum_17, e_S_upPlaceSum_18, e_S_upPlaceSum_19, e_S_upPlaceSum_22, e_S_upPlaceSum_25, e_S_upPlaceSum_26, e_S_upPlaceSum_29, e_S_upPlaceSum_30, e_S_upPlaceSum_31, e_S_upPlaceSum_34, e_S_upPlaceSum_37, e_S_upPlaceSum_38, e_S_upPlaceSum_39, e_S_upPlaceSum_40, e_S_upPlaceSum_43, e_S_upPlaceSum_46, e_S_upPlaceSum_47, q_is h hq, if_true, hs.f3, e1, nI_le' (show w < 2 ^ 31 by omega) (show w < 2 ^ 31 by omega), Nat.le_refl, upsS]
  | succ j ih =>
    intro w s hw
    have hw14 : w < 14 := by omega
    have wi := q_wi h hq hw14
    have w2 : I (q + 4 + w) 2 = a (8 + 6 * w + 2) := hs.2.1 w 2 (by omega) (by omega)
    have w5 : I (q + 4 + w) 5 = a (8 + 6 * w + 5) := hs.2.1 w 5 (by omega) (by omega)
    have ih1 := ih (w + 1) (upsS1 a 4 w s) (by omega)
    rw [e_S_upPlaceSum_4, show upsS a 4 w (j + 1) s = upsS a 4 (w + 1) j (upsS1 a 4 w s) from rfl, ← ih1]
    rcases okF5 (hg.2 w 5 (by omega) (by decide)) with e | e
    · simp only [e_S_upPlaceSum_0, e_S_upPlaceSum_1, e_S_upPlaceSum_2, e_S_upPlaceSum_3, e_S_upPlaceSum_5, e_S_upPlaceSum_6, e_S_upPlaceSum_9, e_S_upPlaceSum_12, e_S_upPlaceSum_13, e_S_upPlaceSum_14, e_S_upPlaceSum_17, e_S_upPlaceSum_18, e_S_upPlaceSum_19, e_S_upPlaceSum_22, e_S_upPlaceSum_25, e_S_upPlaceSum_26, e_S_upPlaceSum_29, e_S_upPlaceSum_30, e_S_upPlaceSum_31, e_S_upPlaceSum_34, e_S_upPlaceSum_37, e_S_upPlaceSum_38, e_S_upPlaceSum_39, e_S_upPlaceSum_40, e_S_upPlaceSum_43, e_S_upPlaceSum_46, e_S_upPlaceSum_47, q_is h hq, and_self, and_true, true_and, and_false, false_and, or_true, true_or, or_false, false_or, not_true_eq_false, not_false_eq_true, if_true, if_false, ne_eq, ite_self, reduceCtorEq, i10, Decidable.not_not, Bool.and_self, Bool.and_true, Bool.true_and, hs.f3, e1, nI_le' (show n < 2 ^ 31 by omega) (show w < 2 ^ 31 by omega), show ¬ n ≤ w by omega, q_r0 h hq, q_ia1 h hq hw14, nI_clamp (show w < 2 ^ 31 by omega), q_w h hq hw14, wi, w2, w5, e, upsS1, Int32.reduceAdd, Int32.reduceSub, Int32.reduceLT, Int32.reduceLE, Int32.reduceMul, n_0_1, n_0_2, n_0_3, n_0_4, n_0_5, n_0_6, n_0_7, n_0_8, n_0_9, n_1_0, n_1_2, n_1_3, n_1_4, n_1_5, n_1_6, n_1_7, n_1_8, n_1_9, n_2_0, n_2_1, n_2_3, n_2_4, n_2_5, n_2_6, n_2_7, n_2_8, n_2_9, n_3_0, n_3_1, n_3_2, n_3_4, n_3_5, n_3_6, n_3_7, n_3_8, n_3_9, n_4_0, n_4_1, n_4_2, n_4_3, n_4_5, n_4_6, n_4_7, n_4_8, n_4_9, n_5_0, n_5_1, n_5_2, n_5_3, n_5_4, n_5_6, n_5_7, n_5_8, n_5_9, n_6_0, n_6_1, n_6_2, n_6_3, n_6_4, n_6_5, n_6_7, n_6_8, n_6_9, n_7_0, n_7_1, n_7_2, n_7_3, n_7_4, n_7_5, n_7_6, n_7_8, n_7_9, n_8_0, n_8_1, n_8_2, n_8_3, n_8_4, n_8_5, n_8_6, n_8_7, n_8_9, n_9_0, n_9_1, n_9_2, n_9_3, n_9_4, n_9_5, n_9_6, n_9_7, n_9_8, or_z, Int32.add_zero, nI_1]
    · simp only [e_S_upPlaceSum_0, e_S_upPlaceSum_1, e_S_upPlaceSum_2, e_S_upPlaceSum_3, e_S_upPlaceSum_5, e_S_upPlaceSum_6, e_S_upPlaceSum_9, e_S_upPlaceSum_12, e_S_upPlaceSum_13, e_S_upPlaceSum_14, e_S_upPlaceSum_17, e_S_upPlaceSum_18, e_S_upPlaceSum_19, e_S_upPlaceSum_22, e_S_upPlaceSum_25, e_S_upPlaceSum_26, e_S_upPlaceSum_29, e_S_upPlaceSum_30, e_S_upPlaceSum_31, e_S_upPlaceSum_34, e_S_upPlaceSum_37, e_S_upPlaceSum_38, e_S_upPlaceSum_39, e_S_upPlaceSum_40, e_S_upPlaceSum_43, e_S_upPlaceSum_46, e_S_upPlaceSum_47, q_is h hq, and_self, and_true, true_and, and_false, false_and, or_true, true_or, or_false, false_or, not_true_eq_false, not_false_eq_true, if_true, if_false, ne_eq, ite_self, reduceCtorEq, i10, Decidable.not_not, Bool.and_self, Bool.and_true, Bool.true_and, hs.f3, e1, nI_le' (show n < 2 ^ 31 by omega) (show w < 2 ^ 31 by omega), show ¬ n ≤ w by omega, q_r0 h hq, q_ia1 h hq hw14, nI_clamp (show w < 2 ^ 31 by omega), q_w h hq hw14, wi, w2, w5, e, upsS1, Int32.reduceAdd, Int32.reduceSub, Int32.reduceLT, Int32.reduceLE, Int32.reduceMul, n_0_1, n_0_2, n_0_3, n_0_4, n_0_5, n_0_6, n_0_7, n_0_8, n_0_9, n_1_0, n_1_2, n_1_3, n_1_4, n_1_5, n_1_6, n_1_7, n_1_8, n_1_9, n_2_0, n_2_1, n_2_3, n_2_4, n_2_5, n_2_6, n_2_7, n_2_8, n_2_9, n_3_0, n_3_1, n_3_2, n_3_4, n_3_5, n_3_6, n_3_7, n_3_8, n_3_9, n_4_0, n_4_1, n_4_2, n_4_3, n_4_5, n_4_6, n_4_7, n_4_8, n_4_9, n_5_0, n_5_1, n_5_2, n_5_3, n_5_4, n_5_6, n_5_7, n_5_8, n_5_9, n_6_0, n_6_1, n_6_2, n_6_3, n_6_4, n_6_5, n_6_7, n_6_8, n_6_9, n_7_0, n_7_1, n_7_2, n_7_3, n_7_4, n_7_5, n_7_6, n_7_8, n_7_9, n_8_0, n_8_1, n_8_2, n_8_3, n_8_4, n_8_5, n_8_6, n_8_7, n_8_9, n_9_0, n_9_1, n_9_2, n_9_3, n_9_4, n_9_5, n_9_6, n_9_7, n_9_8, or_z, Int32.add_zero, nI_1]
theorem k_S_upPlaceSum (h : WF S R) (hq : isQ q) (hs : SkR S I R q a) (hg : gd a) : rn Ls xs d 207 0 [some (.inr (.inl (some q))), none, none] [] (S, I, R) = some (some (.inl (upsS a 4 0 (cW (a 1)) 0)), (S, I, R)) := by
  obtain ⟨n, hn, e1, cn⟩ := hg.n
  have r : rn Ls xs d 207 4 [some (.inr (.inl (some q))), some (.inl 0), some (.inl 0)] [] (S, I, R) = _ := l_S_upPlaceSum (Ls := Ls) (xs := xs) (d := d) h hq hn hs hg e1 n 0 0 (by omega)
  rw [cn]
  simp only [e_S_upPlaceSum_0, e_S_upPlaceSum_1, e_S_upPlaceSum_2, e_S_upPlaceSum_3, r]
theorem l_S_upPlaces (h : WF S R) (hq : isQ q) {n : Nat} (hn : n ≤ 14) (hs : SkR S I R q a) (hg : gd a) (e1 : a 1 = nI n) : ∀ (j w : Nat) (s : Int32), w + j = n → rn Ls xs d 186 4 [some (.inr (.inl (some q))), some (.inl s), some (.inl (nI w))] [] (S, I, R) = some (some (.inl (uaS a w j s)), (S, I, R)) := by
  have cn : cW (a 1) = n := by rw [e1, cW, nI_clamp (by omega)]
  intro j
  induction j with
  | zero =>
    intro w s hw
    have : w = n := by omega
    subst this
    rw [e_S_upPlaces_4]
    simp only [e_S_upPlaces_0, e_S_upPlaces_1, e_S_upPlaces_2, e_S_upPlaces_3, e_S_upPlaces_5, e_S_upPlaces_6, e_S_upPlaces_9, e_S_upPlaces_12, e_S_upPlaces_13, e_S_upPlaces_14, e_S_upPlaces_17, e_S_upPlaces_18, e_S_upPlaces_19, e_S_upPlaces_22, e_S_upPlaces_25, e_S_upPlaces_26, e_S_upPlaces_27, e_S_upPlaces_30, e_S_upPlaces_31, e_S_upPlaces_32, e_S_upPlaces_35, e_S_upPlaces_36, e_S_upPlaces_39, e_S_upPlaces_40, e_S_upPlaces_41, e_S_upPlaces_42, e_S_upPlaces_45, e_S_upPlaces_48, e_S_upPlaces_49, q_is h hq, if_true, hs.f3, e1, nI_le' (show w < 2 ^ 31 by omega) (show w < 2 ^ 31 by omega), Nat.le_refl, uaS]
  | succ j ih =>
    intro w s hw
    have hw14 : w < 14 := by omega
    have wi := q_wi h hq hw14
    have w2 : I (q + 4 + w) 2 = a (8 + 6 * w + 2) := hs.2.1 w 2 (by omega) (by omega)
    have w5 : I (q + 4 + w) 5 = a (8 + 6 * w + 5) := hs.2.1 w 5 (by omega) (by omega)
    have ih1 := ih (w + 1) (s ||| (if a (8 + 6 * w + 5) = 1 then (1 : Int32) <<< (a (8 + 6 * w + 2) &&& 31) else 0)) (by omega)
    rw [e_S_upPlaces_4, show uaS a w (j + 1) s = uaS a (w + 1) j (s ||| (if a (8 + 6 * w + 5) = 1 then (1 : Int32) <<< (a (8 + 6 * w + 2) &&& 31) else 0)) from rfl, ← ih1]
    rcases okF5 (hg.2 w 5 (by omega) (by decide)) with e | e
    · simp only [e_S_upPlaces_0, e_S_upPlaces_1, e_S_upPlaces_2, e_S_upPlaces_3, e_S_upPlaces_5, e_S_upPlaces_6, e_S_upPlaces_9, e_S_upPlaces_12, e_S_upPlaces_13, e_S_upPlaces_14, e_S_upPlaces_17, e_S_upPlaces_18, e_S_upPlaces_19, e_S_upPlaces_22, e_S_upPlaces_25, e_S_upPlaces_26, e_S_upPlaces_27, e_S_upPlaces_30, e_S_upPlaces_31, e_S_upPlaces_32, e_S_upPlaces_35, e_S_upPlaces_36, e_S_upPlaces_39, e_S_upPlaces_40, e_S_upPlaces_41, e_S_upPlaces_42, e_S_upPlaces_45, e_S_upPlaces_48, e_S_upPlaces_49, q_is h hq, and_self, and_true, true_and, and_false, false_and, or_true, true_or, or_false, false_or, not_true_eq_false, not_false_eq_true, if_true, if_false, ne_eq, ite_self, reduceCtorEq, i10, Decidable.not_not, Bool.and_self, Bool.and_true, Bool.true_and, hs.f3, e1, nI_le' (show n < 2 ^ 31 by omega) (show w < 2 ^ 31 by omega), show ¬ n ≤ w by omega, q_r0 h hq, q_ia1 h hq hw14, nI_clamp (show w < 2 ^ 31 by omega), q_w h hq hw14, wi, w2, w5, e, Int32.reduceAdd, Int32.reduceSub, Int32.reduceLT, Int32.reduceLE, Int32.reduceMul, n_0_1, n_0_2, n_0_3, n_0_4, n_0_5, n_0_6, n_0_7, n_0_8, n_0_9, n_1_0, n_1_2, n_1_3, n_1_4, n_1_5, n_1_6, n_1_7, n_1_8, n_1_9, n_2_0, n_2_1, n_2_3, n_2_4, n_2_5, n_2_6, n_2_7, n_2_8, n_2_9, n_3_0, n_3_1, n_3_2, n_3_4, n_3_5, n_3_6, n_3_7, n_3_8, n_3_9, n_4_0, n_4_1, n_4_2, n_4_3, n_4_5, n_4_6, n_4_7, n_4_8, n_4_9, n_5_0, n_5_1, n_5_2, n_5_3, n_5_4, n_5_6, n_5_7, n_5_8, n_5_9, n_6_0, n_6_1, n_6_2, n_6_3, n_6_4, n_6_5, n_6_7, n_6_8, n_6_9, n_7_0, n_7_1, n_7_2, n_7_3, n_7_4, n_7_5, n_7_6, n_7_8, n_7_9, n_8_0, n_8_1, n_8_2, n_8_3, n_8_4, n_8_5, n_8_6, n_8_7, n_8_9, n_9_0, n_9_1, n_9_2, n_9_3, n_9_4, n_9_5, n_9_6, n_9_7, n_9_8, or_z, Int32.add_zero, nI_1]
    · simp only [e_S_upPlaces_0, e_S_upPlaces_1, e_S_upPlaces_2, e_S_upPlaces_3, e_S_upPlaces_5, e_S_upPlaces_6, e_S_upPlaces_9, e_S_upPlaces_12, e_S_upPlaces_13, e_S_upPlaces_14, e_S_upPlaces_17, e_S_upPlaces_18, e_S_upPlaces_19, e_S_upPlaces_22, e_S_upPlaces_25, e_S_upPlaces_26, e_S_upPlaces_27, e_S_upPlaces_30, e_S_upPlaces_31, e_S_upPlaces_32, e_S_upPlaces_35, e_S_upPlaces_36, e_S_upPlaces_39, e_S_upPlaces_40, e_S_upPlaces_41, e_S_upPlaces_42, e_S_upPlaces_45, e_S_upPlaces_48, e_S_upPlaces_49, q_is h hq, and_self, and_true, true_and, and_false, false_and, or_true, true_or, or_false, false_or, not_true_eq_false, not_false_eq_true, if_true, if_false, ne_eq, ite_self, reduceCtorEq, i10, Decidable.not_not, Bool.and_self, Bool.and_true, Bool.true_and, hs.f3, e1, nI_le' (show n < 2 ^ 31 by omega) (show w < 2 ^ 31 by omega), show ¬ n ≤ w by omega, q_r0 h hq, q_ia1 h hq hw14, nI_clamp (show w < 2 ^ 31 by omega), q_w h hq hw14, wi, w2, w5, e, Int32.reduceAdd, Int32.reduceSub, Int32.reduceLT, Int32.reduceLE, Int32.reduceMul, n_0_1, n_0_2, n_0_3, n_0_4, n_0_5, n_0_6, n_0_7, n_0_8, n_0_9, n_1_0, n_1_2, n_1_3, n_1_4, n_1_5, n_1_6, n_1_7, n_1_8, n_1_9, n_2_0, n_2_1, n_2_3, n_2_4, n_2_5, n_2_6, n_2_7, n_2_8, n_2_9, n_3_0, n_3_1, n_3_2, n_3_4, n_3_5, n_3_6, n_3_7, n_3_8, n_3_9, n_4_0, n_4_1, n_4_2, n_4_3, n_4_5, n_4_6, n_4_7, n_4_8, n_4_9, n_5_0, n_5_1, n_5_2, n_5_3, n_5_4, n_5_6, n_5_7, n_5_8, n_5_9, n_6_0, n_6_1, n_6_2, n_6_3, n_6_4, n_6_5, n_6_7, n_6_8, n_6_9, n_7_0, n_7_1, n_7_2, n_7_3, n_7_4, n_7_5, n_7_6, n_7_8, n_7_9, n_8_0, n_8_1, n_8_2, n_8_3, n_8_4, n_8_5, n_8_6, n_8_7, n_8_9, n_9_0, n_9_1, n_9_2, n_9_3, n_9_4, n_9_5, n_9_6, n_9_7, n_9_8, or_z, Int32.add_zero, nI_1]
theorem k_S_upPlaces (h : WF S R) (hq : isQ q) (hs : SkR S I R q a) (hg : gd a) : rn Ls xs d 186 0 [some (.inr (.inl (some q))), none, none] [] (S, I, R) = some (some (.inl (uaS a 0 (cW (a 1)) 0)), (S, I, R)) := by
  obtain ⟨n, hn, e1, cn⟩ := hg.n
  have r : rn Ls xs d 186 4 [some (.inr (.inl (some q))), some (.inl 0), some (.inl 0)] [] (S, I, R) = _ := l_S_upPlaces (Ls := Ls) (xs := xs) (d := d) h hq hn hs hg e1 n 0 0 (by omega)
  rw [cn]
  simp only [e_S_upPlaces_0, e_S_upPlaces_1, e_S_upPlaces_2, e_S_upPlaces_3, r]
theorem h_bo_ok {x : Int32} (h : okF 5 x) : h_bo x = true := by rcases okF5 h with rfl | rfl <;> rfl
theorem k_K_becomeAs {o : Nat} (hp : h_is S p 7 6 = true) (ho : h_is S o 7 6 = true) (hpo : o ≠ p) (h5 : h_bo (I o 5) = true) : rn Ls xs d 166 0 [some (.inr (.inl (some p))), some (.inr (.inl (some o)))] [] (S, I, R) = some (none, (S, va_up I p (upd (upd (upd (upd (upd (upd (I p) 0 (I o 0)) 1 (I o 1)) 2 (I o 2)) 3 (I o 3)) 4 (I o 4)) 5 (I o 5)), R)) := by
  simp only [e_K_becomeAs_0, e_K_becomeAs_1, e_K_becomeAs_2, e_K_becomeAs_5, e_K_becomeAs_8, e_K_becomeAs_9, e_K_becomeAs_10, e_K_becomeAs_13, e_K_becomeAs_16, e_K_becomeAs_17, e_K_becomeAs_18, e_K_becomeAs_21, e_K_becomeAs_24, e_K_becomeAs_25, e_K_becomeAs_26, e_K_becomeAs_29, e_K_becomeAs_32, e_K_becomeAs_33, e_K_becomeAs_34, e_K_becomeAs_37, e_K_becomeAs_40, e_K_becomeAs_41, e_K_becomeAs_42, e_K_becomeAs_45, e_K_becomeAs_48, hp, ho, and_self, and_true, true_and, and_false, false_and, or_true, true_or, or_false, false_or, not_true_eq_false, not_false_eq_true, if_true, if_false, ne_eq, ite_self, reduceCtorEq, i10, Decidable.not_not, Bool.and_self, Bool.and_true, Bool.true_and, vu_s, vu_vu, vu_n hpo, h5]
/-- the refs of some texts are copied -/
def cpR (R : mR) (q q2 t : Nat) : mR := va_up R (q + 2) (fun i => if i < t then R (q2 + 2) i else R (q + 2) i)
theorem cpR_0 {R : mR} {q q2 : Nat} : cpR R q q2 0 = R := by
  funext b
  unfold cpR
  by_cases hb : b = q + 2
  · subst hb
    rw [va_up_s]
    funext i
    rw [if_neg (by omega)]
  · rw [va_up_n _ _ hb]
theorem cpR_s {R : mR} {q q2 t : Nat} (hne : q2 ≠ q) : va_up (cpR R q q2 t) (q + 2) (va_up (cpR R q q2 t (q + 2)) t (R (q2 + 2) t)) = cpR R q q2 (t + 1) := by
  funext b
  unfold cpR
  by_cases hb : b = q + 2
  · subst hb
    rw [va_up_s, va_up_s, va_up_s]
    funext i
    by_cases hi : i = t
    · subst hi
      rw [va_up_s, if_pos (by omega)]
    · rw [va_up_n _ _ hi]
      by_cases h2 : i < t
      · rw [if_pos h2, if_pos (by omega)]
      · rw [if_neg h2, if_neg (by omega)]
  · rw [va_up_n _ _ hb, va_up_n _ _ hb, va_up_n _ _ hb]
theorem cpR_o {R : mR} {q q2 t b : Nat} (hb : b ≠ q + 2) : cpR R q q2 t b = R b := va_up_n _ _ hb
theorem rt_no : ∀ e ∈ rt_, e.1.1 ≠ 3 ∧ e.1.1 ≠ 21 ∧ e.1.1 ≠ 40 := by decide
theorem WF.re {R2 : mR} (h : WF S R) (hq : isQ q) (h2 : ∀ b, b ≠ q + 2 → R2 b = R b) : WF S R2 := by
  refine ⟨h.1, h.2.1, fun e he => ?_⟩
  have := rt_no e he
  rw [h2 e.1.1 (by rcases hq with rfl | rfl | rfl <;> omega)]
  exact h.2.2 e he
theorem TxR.re {I2 : mI} {R2 : mR} {o : mr} {t : Nat} (h : TxR S I R o a t) (hI : ∀ c, 118 ≤ c → I2 c = I c) (hR : ∀ c, 118 ≤ c → R2 c = R c) : TxR S I2 R2 o a t := by
  obtain ⟨p, r, m, h1, h2, h3, h4, h5, h6, h7, h8, h9, h10⟩ := h
  exact ⟨p, r, m, h1, h2, h3, h4, by rw [hI p h2]; exact h5, by rw [hI p h2]; exact h6, by rw [hR p h2]; exact h7, h8, h9, fun j hj => by rw [hI r h3.1]; exact h10 j hj⟩
/-- another sky keeps -/
theorem SkR.ot {I2 : mI} {R2 : mR} {q2 : Nat} (hs : SkR S I R q2 a) (hq : isQ q) (hq2 : isQ q2) (hne : q2 ≠ q) (hn : cW (a 1) ≤ 14) (hI : Fq q I I2) (hR : ∀ b, b ≠ q + 2 → R2 b = R b) : SkR S I2 R2 q2 a := by
  have e1 : I2 q2 = I q2 := hI q2 (by rcases hq with rfl | rfl | rfl <;> rcases hq2 with rfl | rfl | rfl <;> omega)
  have hql := hq.le
  refine ⟨by rw [e1]; exact hs.1, fun w k hw hk => ?_, fun t ht => ?_⟩
  · rw [hI (q2 + 4 + w) (by rcases hq with rfl | rfl | rfl <;> rcases hq2 with rfl | rfl | rfl <;> omega)]
    exact hs.2.1 w k hw hk
  · rw [hR (q2 + 2) (by omega)]
    exact (hs.2.2 t ht).re (fun c hc => hI c (by omega)) (fun c hc => hR c (by omega))
theorem l_S_become1 (h : WF S R) (hq : isQ q) {q2 : Nat} (hq2 : isQ q2) (hne : q2 ≠ q) {n : Nat} (hn : n ≤ 14) (hs : SkR S I R q2 a) (hg : gd a) (e1 : a 1 = nI n) : ∀ (j w : Nat) (J : mI), w + j = n → Fq q I J → J q = I q → (∀ v k, v < w → k < 6 → J (q + 4 + v) k = a (8 + 6 * v + k)) → ∃ J2, (Fq q I J2 ∧ J2 q = I q ∧ ∀ v k, v < n → k < 6 → J2 (q + 4 + v) k = a (8 + 6 * v + k)) ∧ rn Ls xs (d + 1) 172 2 [some (.inr (.inl (some q))), some (.inr (.inl (some q2))), some (.inl (nI w))] [] (S, J, R) = rn Ls xs (d + 1) 172 31 [some (.inr (.inl (some q))), some (.inr (.inl (some q2))), some (.inl (nI n))] [] (S, J2, R) := by
  have hql := hq.le
  have hql2 := hq2.le
  have cn : cW (a 1) = n := by rw [e1, cW, nI_clamp (by omega)]
  have f0 : ∀ {J : mI}, Fq q I J → J q2 = I q2 := fun {J} hf => hf q2 (by rcases hq with rfl | rfl | rfl <;> rcases hq2 with rfl | rfl | rfl <;> omega)
  intro j
  induction j with
  | zero =>
    intro w J hw hf hJ hc
    have : w = n := by omega
    subst this
    refine ⟨J, ⟨hf, hJ, hc⟩, ?_⟩
    rw [e_S_becomeAs_2]
    simp only [e_S_becomeAs_3, e_S_becomeAs_4, e_S_becomeAs_7, q_is h hq2, if_true, f0 hf, hs.f3, e1, nI_le' (show w < 2 ^ 31 by omega) (show w < 2 ^ 31 by omega), Nat.le_refl]
  | succ j ih =>
    intro w J hw hf hJ hc
    have hw14 : w < 14 := by omega
    have wi := q_wi h hq hw14
    have wi2 := q_wi h hq2 hw14
    have d2 : q2 + 4 + w < q ∨ q + 18 ≤ q2 + 4 + w := by rcases hq with rfl | rfl | rfl <;> rcases hq2 with rfl | rfl | rfl <;> omega
    have fw : ∀ k, k < 6 → J (q2 + 4 + w) k = a (8 + 6 * w + k) := fun k hk => by rw [hf (q2 + 4 + w) d2]; exact hs.2.1 w k (by omega) hk
    have kb := k_K_becomeAs (Ls := Ls) (xs := xs) (d := d) (I := J) (R := R) wi wi2 (show q2 + 4 + w ≠ q + 4 + w by omega) (by rw [fw 5 (by decide)]; exact h_bo_ok (hg.2 w 5 (by omega) (by decide)))
    obtain ⟨J2, g2, r2⟩ := ih (w + 1) (va_up J (q + 4 + w) (upd (upd (upd (upd (upd (upd (J (q + 4 + w)) 0 (J (q2 + 4 + w) 0)) 1 (J (q2 + 4 + w) 1)) 2 (J (q2 + 4 + w) 2)) 3 (J (q2 + 4 + w) 3)) 4 (J (q2 + 4 + w) 4)) 5 (J (q2 + 4 + w) 5))) (by omega) (hf.up (by omega) (by omega)) (by rw [vu_n (by omega)]; exact hJ) (by
      intro v k hv hk
      by_cases e : v = w
      · subst e
        rw [vu_s, ← fw k hk]
        rcases (show k = 0 ∨ k = 1 ∨ k = 2 ∨ k = 3 ∨ k = 4 ∨ k = 5 by omega) with rfl | rfl | rfl | rfl | rfl | rfl <;> simp [upd]
      · rw [vu_n (by omega)]
        exact hc v k (by omega) hk)
    refine ⟨J2, g2, ?_⟩
    rw [e_S_becomeAs_2, ← r2]
    simp only [e_S_becomeAs_3, e_S_becomeAs_4, e_S_becomeAs_7, e_S_becomeAs_10, e_S_becomeAs_11, e_S_becomeAs_14, e_S_becomeAs_15, e_S_becomeAs_16, e_S_becomeAs_17, e_S_becomeAs_20, e_S_becomeAs_21, e_S_becomeAs_22, e_S_becomeAs_25, e_S_becomeAs_28, q_is h hq2, q_is h hq, and_self, and_true, true_and, and_false, false_and, or_true, true_or, or_false, false_or, not_true_eq_false, not_false_eq_true, if_true, if_false, ne_eq, ite_self, reduceCtorEq, i10, Decidable.not_not, Bool.and_self, Bool.and_true, Bool.true_and, f0 hf, hs.f3, e1, nI_le' (show n < 2 ^ 31 by omega) (show w < 2 ^ 31 by omega), show ¬ n ≤ w by omega, q_r0 h hq, q_r0 h hq2, q_ia1 h hq hw14, q_ia1 h hq2 hw14, nI_clamp (show w < 2 ^ 31 by omega), q_w h hq hw14, q_w h hq2 hw14, wi, wi2, kb, rb_v, nI_1]
theorem l_S_become2 {J : mI} (h : WF S R) (hq : isQ q) {q2 : Nat} (hq2 : isQ q2) (hne : q2 ≠ q) {n : Nat} (hn : n ≤ 14) (hJ : J q2 4 = nI n) (ht : ∀ t, t < n → ∃ p, R (q2 + 2) t = .inl (some p) ∧ h_is S p 6 3 = true) : ∀ (j w : Nat), w + j = n → rn Ls xs d 172 33 [some (.inr (.inl (some q))), some (.inr (.inl (some q2))), some (.inl (nI w))] [] (S, J, cpR R q q2 w) = rn Ls xs d 172 59 [some (.inr (.inl (some q))), some (.inr (.inl (some q2))), some (.inl (nI n))] [] (S, J, cpR R q q2 n) := by
  have hql := hq.le
  have hql2 := hq2.le
  intro j
  induction j with
  | zero =>
    intro w hw
    have : w = n := by omega
    subst this
    rw [e_S_becomeAs_33]
    simp only [e_S_becomeAs_34, e_S_becomeAs_35, e_S_becomeAs_38, q_is h hq2, if_true, hJ, nI_le' (show w < 2 ^ 31 by omega) (show w < 2 ^ 31 by omega), Nat.le_refl]
  | succ j ih =>
    intro w hw
    have h2 : WF S (cpR R q q2 w) := h.re hq (fun b hb => cpR_o hb)
    obtain ⟨p, hp1, hp2⟩ := ht w (by omega)
    have e2 : cpR R q q2 w (q2 + 2) w = .inl (some p) := by rw [cpR_o (by omega)]; exact hp1
    have cs := cpR_s (R := R) (t := w) hne
    rw [hp1] at cs
    rw [e_S_becomeAs_33, ← ih (w + 1) (by omega)]
    simp only [e_S_becomeAs_34, e_S_becomeAs_35, e_S_becomeAs_38, e_S_becomeAs_41, e_S_becomeAs_42, e_S_becomeAs_45, e_S_becomeAs_46, e_S_becomeAs_47, e_S_becomeAs_50, e_S_becomeAs_51, e_S_becomeAs_52, e_S_becomeAs_53, e_S_becomeAs_56, q_is h hq2, q_is h hq, and_self, and_true, true_and, and_false, false_and, or_true, true_or, or_false, false_or, not_true_eq_false, not_false_eq_true, if_true, if_false, ne_eq, ite_self, reduceCtorEq, i10, Decidable.not_not, Bool.and_self, Bool.and_true, Bool.true_and, hJ, nI_le' (show n < 2 ^ 31 by omega) (show w < 2 ^ 31 by omega), show ¬ n ≤ w by omega, q_r1 h2 hq, q_r1 h2 hq2, q_ia2 h hq (show w < 14 by omega), q_ia2 h hq2 (show w < 14 by omega), nI_clamp (show w < 2 ^ 31 by omega), e2, hp2, cs, nI_1]
/-- one sky becomes as another -/
theorem k_S_becomeAs (h : WF S R) (hq : isQ q) {q2 : Nat} (hq2 : isQ q2) (hne : q2 ≠ q) (hs : SkR S I R q2 a) (hg : gd a) : ∃ I2 R2, SkR S I2 R2 q a ∧ Fq q I I2 ∧ (∀ b, b ≠ q + 2 → R2 b = R b) ∧ WF S R2 ∧ rn Ls xs (d + 1) 172 0 [some (.inr (.inl (some q))), some (.inr (.inl (some q2))), none] [] (S, I, R) = some (none, (S, I2, R2)) := by
  have hql := hq.le
  have hql2 := hq2.le
  obtain ⟨n, hn, e1, cn⟩ := hg.n
  obtain ⟨m, hm, e7, htx⟩ := hg.1.2
  have c7 : cW (a 7) = m := by rw [cW, e7, nI_clamp (by omega)]
  obtain ⟨J, ⟨f1, j1, j2⟩, r1⟩ := l_S_become1 (Ls := Ls) (xs := xs) (d := d) h hq hq2 hne hn hs hg e1 n 0 I (by omega) Fq.rfl' rfl (fun v k hv _ => absurd hv (by omega))
  have r1 : rn Ls xs (d + 1) 172 2 [some (.inr (.inl (some q))), some (.inr (.inl (some q2))), some (.inl 0)] [] (S, I, R) = _ := r1
  have jq : J q2 = I q2 := f1 q2 (by rcases hq with rfl | rfl | rfl <;> rcases hq2 with rfl | rfl | rfl <;> omega)
  have r2 := l_S_become2 (Ls := Ls) (xs := xs) (d := d + 1) (J := J) h hq hq2 hne hm (by rw [jq, hs.f4, e7]) (fun t ht => by
    obtain ⟨p, h1, h2, -⟩ := (hs.2.2 t (by omega)).adr
    exact ⟨p, h1, h2⟩) m 0 (by omega)
  rw [cpR_0] at r2
  have r2 : rn Ls xs (d + 1) 172 33 [some (.inr (.inl (some q))), some (.inr (.inl (some q2))), some (.inl 0)] [] (S, J, R) = _ := r2
  have hw2 : WF S (cpR R q q2 m) := h.re hq (fun b hb => cpR_o hb)
  obtain ⟨I2, hI2, r3⟩ : ∃ I2, I2 = va_up J q (upd (upd (upd (upd (upd (upd (upd (upd (J q) 3 (a 1)) 4 (a 7)) 5 (a 3)) 6 (a 4)) 7 (a 5)) 8 (a 6)) 9 (a 2)) 10 (a 0)) ∧ rn Ls xs (d + 1) 172 59 [some (.inr (.inl (some q))), some (.inr (.inl (some q2))), some (.inl (nI m))] [] (S, J, cpR R q q2 m) = some (none, (S, I2, cpR R q q2 m)) := by
    refine ⟨_, rfl, ?_⟩
    simp only [e_S_becomeAs_59, e_S_becomeAs_60, e_S_becomeAs_61, e_S_becomeAs_64, e_S_becomeAs_67, e_S_becomeAs_68, e_S_becomeAs_69, e_S_becomeAs_72, e_S_becomeAs_75, e_S_becomeAs_76, e_S_becomeAs_77, e_S_becomeAs_80, e_S_becomeAs_83, e_S_becomeAs_84, e_S_becomeAs_85, e_S_becomeAs_88, e_S_becomeAs_91, e_S_becomeAs_92, e_S_becomeAs_93, e_S_becomeAs_96, e_S_becomeAs_99, e_S_becomeAs_100, e_S_becomeAs_101, e_S_becomeAs_104, e_S_becomeAs_107, e_S_becomeAs_108, e_S_becomeAs_109, e_S_becomeAs_112, e_S_becomeAs_115, e_S_becomeAs_116, e_S_becomeAs_117, e_S_becomeAs_120, e_S_becomeAs_123, q_is h hq, q_is h hq2, and_self, and_true, true_and, and_false, false_and, or_true, true_or, or_false, false_or, not_true_eq_false, not_false_eq_true, if_true, if_false, ne_eq, ite_self, reduceCtorEq, i10, Decidable.not_not, Bool.and_self, Bool.and_true, Bool.true_and, vu_s, vu_vu, vu_n hne, jq, hs.f3, hs.f4, hs.f5, hs.f6, hs.f7, hs.f8, hs.f9, hs.f10]
  refine ⟨I2, cpR R q q2 m, ⟨?_, ?_, ?_⟩, ?_, fun b hb => cpR_o hb, hw2, ?_⟩
  · rw [hI2, vu_s]
    simp [upd]
  · intro w k hw hk
    rw [hI2, vu_n (by omega)]
    exact j2 w k (by omega) hk
  · intro t ht
    have e : cpR R q q2 m (q + 2) t = R (q2 + 2) t := by
      unfold cpR
      rw [va_up_s, if_pos (by omega)]
    rw [e]
    exact (hs.2.2 t ht).re (fun c hc => by rw [hI2, vu_n (by omega)]; exact f1 c (by omega)) (fun c hc => cpR_o (by omega))
  · rw [hI2]
    exact f1.up (by omega) (by omega)
  · simp only [e_S_becomeAs_0, e_S_becomeAs_1, r1]
    simp only [e_S_becomeAs_31, e_S_becomeAs_32, r2, r3]
end CT8

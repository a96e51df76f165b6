/-! THE CLASS: what will be -/
section CRW
variable {Ls : Nat} {xs : Nat → Int32} {d : Nat} {S : mS} {I I2 I3 A : mI} {R R2 R3 : mR} {x y z u v : Int32}
theorem cw_behind (h : WF S R) (hc : CR S I R A) : COp S I R (sp_behind A x y) (rn Ls xs (d + 9) 27 0 [some (.inr (.inl (some 0))), some (.inl x), some (.inl y), none] [] (S, I, R)) := by
  obtain ⟨n, hn, e1, cn⟩ := hc.g.n
  obtain ⟨t, ht, e2⟩ := hc.t
  have e2n : (2 : Int32) + nI n = nI (n + 2) := by rw [Int32.add_comm]; exact nI_add n 2
  unfold sp_behind
  by_cases hx : 0 ≤ x ∧ x ≤ 100
  · have hx2 := hx
    obtain ⟨k, -, hk2, rfl⟩ := inN (a := 0) (b := 100) (by decide) hx rfl rfl
    have ck : cW (nI k) = k := nI_clamp (by omega)
    by_cases hy : 0 ≤ y ∧ y ≤ nI (n + 2)
    · have hy2 := hy
      obtain ⟨j, -, hj, rfl⟩ := inN (a := 0) (b := n + 2) (by omega) hy rfl (nI_toInt (by omega))
      obtain ⟨I2, R2, s2, f2, r2⟩ := k_F_behindHours (Ls := Ls) (xs := xs) (d := d + 3) (n := k) h p1 (show t + k < 2 ^ 30 by omega) hc.s hc.g e2
      have w2 := h.ff f2
      have st : rn Ls xs (d + 9) 27 0 [some (.inr (.inl (some 0))), some (.inl (nI k)), some (.inl (nI j)), none] [] (S, I, R) = rn Ls xs (d + 9) 27 44 [some (.inr (.inl (some 0))), some (.inl (nI k)), some (.inl (nI j)), some (.inr (.inl (some 38)))] [.inl (nI j)] (S, I2, R2) := by
        simp only [e_W_behind_0, e_W_behind_1, e_W_behind_2, e_W_behind_4, e_W_behind_7, e_W_behind_10, e_W_behind_11, e_W_behind_12, e_W_behind_13, e_W_behind_14, e_W_behind_17, e_W_behind_20, e_W_behind_21, e_W_behind_24, e_W_behind_27, e_W_behind_29, e_W_behind_30, e_W_behind_31, e_W_behind_34, e_W_behind_35, e_W_behind_38, e_W_behind_39, e_W_behind_42, e_W_behind_43, is_0 h, rf_0_0 h, rf_0_2 h, is_1 h, is_37 h, and_self, and_true, true_and, and_false, false_and, or_true, true_or, or_false, false_or, not_true_eq_false, not_false_eq_true, if_true, if_false, ne_eq, ite_self, reduceCtorEq, i10, Decidable.not_not, Bool.and_self, Bool.and_true, Bool.true_and, k_W_within, hx2, rb_i, t1, hc.s.f3, e1, e2n, hy2, r2, rb_r]
      rw [st]
      by_cases hj2 : j ≤ 2
      · rw [if_pos ⟨hx2, hy2.1, Or.inl (show nI j ≤ 2 from nI_le (b := 2) hj2 (by omega))⟩, ck]
        refine COp.ff h hc f2 ?_
        obtain ⟨m, hm, em, cm⟩ := (gd_hrs hc.g k).n
        have bc := ups_cnt (a := hrsS (A 94) k) (n := m) hm
        rcases (show j = 0 ∨ j = 1 ∨ j = 2 by omega) with rfl | rfl | rfl
        · rw [show nI 0 = 0 from rfl]; simp only [e_W_behind_44, e_W_behind_72, e_W_behind_73, e_W_behind_76, e_W_behind_77, e_W_behind_78, e_W_behind_81, e_W_behind_82, e_W_behind_83, e_W_behind_86, e_W_behind_89, e_W_behind_90, e_W_behind_91, e_W_behind_94, e_W_behind_95, e_W_behind_96, e_W_behind_97, e_W_behind_98, e_W_behind_101, Int32.reduceAdd, Int32.reduceSub, Int32.reduceLT, Int32.reduceLE, Int32.reduceMul, n_0_1, n_0_2, n_0_3, n_0_4, n_0_5, n_0_6, n_0_7, n_0_8, n_0_9, n_1_0, n_1_2, n_1_3, n_1_4, n_1_5, n_1_6, n_1_7, n_1_8, n_1_9, n_2_0, n_2_1, n_2_3, n_2_4, n_2_5, n_2_6, n_2_7, n_2_8, n_2_9, n_3_0, n_3_1, n_3_2, n_3_4, n_3_5, n_3_6, n_3_7, n_3_8, n_3_9, n_4_0, n_4_1, n_4_2, n_4_3, n_4_5, n_4_6, n_4_7, n_4_8, n_4_9, n_5_0, n_5_1, n_5_2, n_5_3, n_5_4, n_5_6, n_5_7, n_5_8, n_5_9, n_6_0, n_6_1, n_6_2, n_6_3, n_6_4, n_6_5, n_6_7, n_6_8, n_6_9, n_7_0, n_7_1, n_7_2, n_7_3, n_7_4, n_7_5, n_7_6, n_7_8, n_7_9, n_8_0, n_8_1, n_8_2, n_8_3, n_8_4, n_8_5, n_8_6, n_8_7, n_8_9, n_9_0, n_9_1, n_9_2, n_9_3, n_9_4, n_9_5, n_9_6, n_9_7, n_9_8, and_self, and_true, true_and, and_false, false_and, or_true, true_or, or_false, false_or, not_true_eq_false, not_false_eq_true, if_true, if_false, ne_eq, ite_self, reduceCtorEq, i10, Decidable.not_not, Bool.and_self, Bool.and_true, Bool.true_and, is_38 h, s2.f6]
        · rw [show nI 1 = 1 from rfl]; simp only [e_W_behind_44, e_W_behind_72, e_W_behind_73, e_W_behind_76, e_W_behind_77, e_W_behind_78, e_W_behind_81, e_W_behind_82, e_W_behind_83, e_W_behind_86, e_W_behind_89, e_W_behind_90, e_W_behind_91, e_W_behind_94, e_W_behind_95, e_W_behind_96, e_W_behind_97, e_W_behind_98, e_W_behind_101, Int32.reduceAdd, Int32.reduceSub, Int32.reduceLT, Int32.reduceLE, Int32.reduceMul, n_0_1, n_0_2, n_0_3, n_0_4, n_0_5, n_0_6, n_0_7, n_0_8, n_0_9, n_1_0, n_1_2, n_1_3, n_1_4, n_1_5, n_1_6, n_1_7, n_1_8, n_1_9, n_2_0, n_2_1, n_2_3, n_2_4, n_2_5, n_2_6, n_2_7, n_2_8, n_2_9, n_3_0, n_3_1, n_3_2, n_3_4, n_3_5, n_3_6, n_3_7, n_3_8, n_3_9, n_4_0, n_4_1, n_4_2, n_4_3, n_4_5, n_4_6, n_4_7, n_4_8, n_4_9, n_5_0, n_5_1, n_5_2, n_5_3, n_5_4, n_5_6, n_5_7, n_5_8, n_5_9, n_6_0, n_6_1, n_6_2, n_6_3, n_6_4, n_6_5, n_6_7, n_6_8, n_6_9, n_7_0, n_7_1, n_7_2, n_7_3, n_7_4, n_7_5, n_7_6, n_7_8, n_7_9, n_8_0, n_8_1, n_8_2, n_8_3, n_8_4, n_8_5, n_8_6, n_8_7, n_8_9, n_9_0, n_9_1, n_9_2, n_9_3, n_9_4, n_9_5, n_9_6, n_9_7, n_9_8, and_self, and_true, true_and, and_false, false_and, or_true, true_or, or_false, false_or, not_true_eq_false, not_false_eq_true, if_true, if_false, ne_eq, ite_self, reduceCtorEq, i10, Decidable.not_not, Bool.and_self, Bool.and_true, Bool.true_and, is_38 h, s2.f7]
        · rw [show nI 2 = 2 from rfl]; simp only [e_W_behind_44, e_W_behind_72, e_W_behind_73, e_W_behind_76, e_W_behind_77, e_W_behind_78, e_W_behind_81, e_W_behind_82, e_W_behind_83, e_W_behind_86, e_W_behind_89, e_W_behind_90, e_W_behind_91, e_W_behind_94, e_W_behind_95, e_W_behind_96, e_W_behind_97, e_W_behind_98, e_W_behind_101, Int32.reduceAdd, Int32.reduceSub, Int32.reduceLT, Int32.reduceLE, Int32.reduceMul, n_0_1, n_0_2, n_0_3, n_0_4, n_0_5, n_0_6, n_0_7, n_0_8, n_0_9, n_1_0, n_1_2, n_1_3, n_1_4, n_1_5, n_1_6, n_1_7, n_1_8, n_1_9, n_2_0, n_2_1, n_2_3, n_2_4, n_2_5, n_2_6, n_2_7, n_2_8, n_2_9, n_3_0, n_3_1, n_3_2, n_3_4, n_3_5, n_3_6, n_3_7, n_3_8, n_3_9, n_4_0, n_4_1, n_4_2, n_4_3, n_4_5, n_4_6, n_4_7, n_4_8, n_4_9, n_5_0, n_5_1, n_5_2, n_5_3, n_5_4, n_5_6, n_5_7, n_5_8, n_5_9, n_6_0, n_6_1, n_6_2, n_6_3, n_6_4, n_6_5, n_6_7, n_6_8, n_6_9, n_7_0, n_7_1, n_7_2, n_7_3, n_7_4, n_7_5, n_7_6, n_7_8, n_7_9, n_8_0, n_8_1, n_8_2, n_8_3, n_8_4, n_8_5, n_8_6, n_8_7, n_8_9, n_9_0, n_9_1, n_9_2, n_9_3, n_9_4, n_9_5, n_9_6, n_9_7, n_9_8, and_self, and_true, true_and, and_false, false_and, or_true, true_or, or_false, false_or, not_true_eq_false, not_false_eq_true, if_true, if_false, ne_eq, ite_self, reduceCtorEq, i10, Decidable.not_not, Bool.and_self, Bool.and_true, Bool.true_and, is_38 h, k_S_upSet w2 q38 s2 (gd_hrs hc.g k), rb_i, k_J_bitCount, cm, bc]
      · have js : nI j - 3 = nI (j - 3) := pk_sub (b := 3) (by omega)
        have wr : isWr A (nI j - 3) := by
          show 0 ≤ nI j - 3 ∧ nI j - 3 ≤ A 94 1 - 1
          rw [js, e1, in_iff (by omega) (by omega)]
          omega
        have cj : cW (nI j - 3) = j - 3 := by rw [js]; exact nI_clamp (by omega)
        have n0 : ¬ nI j = 0 := by rw [show (0 : Int32) = nI 0 from rfl, nI_eq' (by omega) (by decide)]; omega
        have n1 : ¬ nI j = 1 := by rw [show (1 : Int32) = nI 1 from rfl, nI_eq' (by omega) (by decide)]; omega
        have n2 : ¬ nI j = 2 := by rw [show (2 : Int32) = nI 2 from rfl, nI_eq' (by omega) (by decide)]; omega
        obtain ⟨m, m1, m2, m3⟩ := hrs_1 hc.g e1 hn k
        have cm : cW (hrsS (A 94) k 1) = m := by rw [m3, cW, nI_clamp (by omega)]
        have wp : I2 (38 + 4 + (j - 3)) 2 = hrsS (A 94) k (8 + 6 * (j - 3) + 2) := s2.2.1 (j - 3) 2 (by omega) (by decide)
        have j14 : j - 3 < 14 := by omega
        rw [if_pos ⟨hx2, hy2.1, Or.inr wr⟩, if_neg n0, if_neg n1, if_neg n2, cj, ck]
        refine COp.ff h hc f2 ?_
        simp only [e_W_behind_44, e_W_behind_72, e_W_behind_73, e_W_behind_76, e_W_behind_77, e_W_behind_78, e_W_behind_81, e_W_behind_82, e_W_behind_83, e_W_behind_86, e_W_behind_89, e_W_behind_90, e_W_behind_91, e_W_behind_94, e_W_behind_95, e_W_behind_96, e_W_behind_97, e_W_behind_98, e_W_behind_101, n0, n1, n2, and_self, and_true, true_and, and_false, false_and, or_true, true_or, or_false, false_or, not_true_eq_false, not_false_eq_true, if_true, if_false, ne_eq, ite_self, reduceCtorEq, i10, Decidable.not_not, Bool.and_self, Bool.and_true, Bool.true_and, is_38 h, q_r0 w2 q38, js, q_ia1 h q38 j14, nI_clamp (show j - 3 < 2 ^ 31 by omega), q_w w2 q38 j14, q_wi h q38 j14, wp]
    · have hy3 : ¬ (0 ≤ y ∧ (y ≤ 2 ∨ isWr A (y - 3))) := by
        intro q
        apply hy
        refine ⟨q.1, ?_⟩
        obtain ⟨j, hj, rfl⟩ := nn (i_nlt.mpr q.1)
        rw [nI_le' hj (by omega)]
        rcases q.2 with q2 | q2
        · rw [show (2 : Int32) = nI 2 from rfl, nI_le' hj (by decide)] at q2
          omega
        · have q3 : 0 ≤ nI j - 3 ∧ nI j - 3 ≤ A 94 1 - 1 := q2
          have z0 : Int32.toInt 0 = 0 := rfl
          rw [e1, i_le, i_le, show nI n - 1 = nI n - nI 1 from rfl, show nI j - 3 = nI j - nI 3 from rfl, sub_toInt hj (by decide), sub_toInt (by omega) (by decide), z0] at q3
          omega
      rw [if_neg (fun q => hy3 q.2)]
      exact COp.same h hc (by simp only [e_W_behind_0, e_W_behind_1, e_W_behind_2, e_W_behind_4, e_W_behind_7, e_W_behind_10, e_W_behind_11, e_W_behind_12, e_W_behind_13, e_W_behind_14, e_W_behind_17, e_W_behind_20, e_W_behind_21, e_W_behind_24, e_W_behind_27, e_W_behind_29, is_0 h, rf_0_0 h, is_1 h, and_self, and_true, true_and, and_false, false_and, or_true, true_or, or_false, false_or, not_true_eq_false, not_false_eq_true, if_true, if_false, ne_eq, ite_self, reduceCtorEq, i10, Decidable.not_not, Bool.and_self, Bool.and_true, Bool.true_and, k_W_within, hx2, rb_i, t1, hc.s.f3, e1, e2n, hy])
  · rw [if_neg (fun q => hx q.1)]
    exact COp.same h hc (by simp only [e_W_behind_0, e_W_behind_1, e_W_behind_2, e_W_behind_4, e_W_behind_7, e_W_behind_10, e_W_behind_11, e_W_behind_12, e_W_behind_13, e_W_behind_14, e_W_behind_17, e_W_behind_20, e_W_behind_21, e_W_behind_24, e_W_behind_27, e_W_behind_29, and_self, and_true, true_and, and_false, false_and, or_true, true_or, or_false, false_or, not_true_eq_false, not_false_eq_true, if_true, if_false, ne_eq, ite_self, reduceCtorEq, i10, Decidable.not_not, Bool.and_self, Bool.and_true, Bool.true_and, k_W_within, hx, rb_i, t1])
theorem CR.b (hc : CR S I R A) : ∃ b, b < 2 ^ 29 ∧ A 94 4 = nI b := by
  obtain ⟨-, t, h1, h2, b, h3, h4⟩ := hc.1.2
  exact ⟨b, by omega, h4⟩
theorem cw_first (h : WF S R) (hc : CR S I R A) : COp S I R (sp_first A) (rn Ls xs (d + 9) 29 0 [some (.inr (.inl (some 0)))] [] (S, I, R)) := by
  obtain ⟨t, ht, e2⟩ := hc.t
  obtain ⟨b, hb, e4⟩ := hc.b
  unfold sp_first
  obtain ⟨I2, R2, f2, r2⟩ := k_F_firstBreak (Ls := Ls) (xs := xs) (d := d + 3) h p1 hc.s hc.g (show t < 2 ^ 29 by omega) hb e2 e4
  exact COp.ff h hc f2 (by simp only [e_W_first_0, e_W_first_1, e_W_first_4, e_W_first_5, e_W_first_8, e_W_first_11, is_0 h, rf_0_0 h, rf_0_2 h, is_37 h, and_self, and_true, true_and, and_false, false_and, or_true, true_or, or_false, false_or, not_true_eq_false, not_false_eq_true, if_true, if_false, ne_eq, ite_self, reduceCtorEq, i10, Decidable.not_not, Bool.and_self, Bool.and_true, Bool.true_and, r2, rb_i])
theorem cw_hole (h : WF S R) (hc : CR S I R A) : COp S I R (sp_hole A x) (rn Ls xs (d + 9) 31 0 [some (.inr (.inl (some 0))), some (.inl x)] [] (S, I, R)) := by
  obtain ⟨t, ht, e2⟩ := hc.t
  unfold sp_hole
  by_cases hx : 0 ≤ x ∧ x ≤ 29
  · obtain ⟨I2, R2, f2, b2, r2⟩ := k_F_findHoles (Ls := Ls) (xs := xs) (d := d + 3) h p1 hc.s hc.g (show t < 2 ^ 29 by omega) e2
    have w2 := h.ff f2
    rw [if_pos hx]
    exact COp.ff h hc f2 (by simp only [e_W_hole_0, e_W_hole_1, e_W_hole_4, e_W_hole_7, e_W_hole_9, e_W_hole_10, e_W_hole_11, e_W_hole_14, e_W_hole_15, e_W_hole_18, e_W_hole_21, e_W_hole_22, e_W_hole_25, e_W_hole_26, e_W_hole_29, is_0 h, rf_0_0 h, rf_0_2 h, rf_0_2 w2, is_37 h, and_self, and_true, true_and, and_false, false_and, or_true, true_or, or_false, false_or, not_true_eq_false, not_false_eq_true, if_true, if_false, ne_eq, ite_self, reduceCtorEq, i10, Decidable.not_not, Bool.and_self, Bool.and_true, Bool.true_and, k_W_isPlace, hx, rb_i, t1, r2, rb_v, k_F_holeOver w2 b2])
  · rw [if_neg hx]
    exact COp.same h hc (by simp only [e_W_hole_0, e_W_hole_1, e_W_hole_4, e_W_hole_7, e_W_hole_9, e_W_hole_10, e_W_hole_11, e_W_hole_14, e_W_hole_15, e_W_hole_18, e_W_hole_21, e_W_hole_22, e_W_hole_25, e_W_hole_26, e_W_hole_29, and_self, and_true, true_and, and_false, false_and, or_true, true_or, or_false, false_or, not_true_eq_false, not_false_eq_true, if_true, if_false, ne_eq, ite_self, reduceCtorEq, i10, Decidable.not_not, Bool.and_self, Bool.and_true, Bool.true_and, k_W_isPlace, hx, rb_i, t1])
theorem l_W_open (h : WF S R) {V : Nat → Nat → Int32} (hb : ∀ k, k ≤ 60 → I 56 k = metS V k 0 8 0) : ∀ (j p : Nat) (s : Int32), p + j = 30 → rn Ls xs (d + 1) 33 28 [some (.inr (.inl (some 0))), some (.inl x), some (.inl s), some (.inl (nI p))] [] (S, I, R) = some (some (.inl (opS V x p j s)), (S, I, R)) := by
  intro j
  induction j with
  | zero =>
    intro p s hp
    have : p = 30 := by omega
    subst this
    rw [e_W_open_28]
    simp only [e_W_open_0, e_W_open_1, e_W_open_2, e_W_open_4, e_W_open_7, e_W_open_10, e_W_open_12, e_W_open_13, e_W_open_14, e_W_open_17, e_W_open_18, e_W_open_21, e_W_open_24, e_W_open_25, e_W_open_26, e_W_open_27, e_W_open_29, e_W_open_31, e_W_open_34, e_W_open_35, e_W_open_38, e_W_open_39, e_W_open_42, e_W_open_43, e_W_open_46, e_W_open_49, e_W_open_52, e_W_open_55, e_W_open_56, show (30 : Int32) ≤ nI 30 from (by decide), if_true, opS]
  | succ j ih =>
    intro p s hp
    have l30 : ¬ (30 : Int32) ≤ nI p := by rw [show (30 : Int32) = nI 30 from rfl, nI_le' (by decide) (by omega)]; omega
    rw [e_W_open_28]
    unfold opS
    rw [← ih (p + 1) _ (by omega)]
    by_cases hl : hlS V (nI p) 0 61 = x
    · simp only [e_W_open_0, e_W_open_1, e_W_open_2, e_W_open_4, e_W_open_7, e_W_open_10, e_W_open_12, e_W_open_13, e_W_open_14, e_W_open_17, e_W_open_18, e_W_open_21, e_W_open_24, e_W_open_25, e_W_open_26, e_W_open_27, e_W_open_29, e_W_open_31, e_W_open_34, e_W_open_35, e_W_open_38, e_W_open_39, e_W_open_42, e_W_open_43, e_W_open_46, e_W_open_49, e_W_open_52, e_W_open_55, e_W_open_56, l30, and_self, and_true, true_and, and_false, false_and, or_true, true_or, or_false, false_or, not_true_eq_false, not_false_eq_true, if_true, if_false, ne_eq, ite_self, reduceCtorEq, i10, Decidable.not_not, Bool.and_self, Bool.and_true, Bool.true_and, is_0 h, rf_0_2 h, is_37 h, k_F_holeOver h hb, rb_i, hl, nI_1]
    · simp only [e_W_open_0, e_W_open_1, e_W_open_2, e_W_open_4, e_W_open_7, e_W_open_10, e_W_open_12, e_W_open_13, e_W_open_14, e_W_open_17, e_W_open_18, e_W_open_21, e_W_open_24, e_W_open_25, e_W_open_26, e_W_open_27, e_W_open_29, e_W_open_31, e_W_open_34, e_W_open_35, e_W_open_38, e_W_open_39, e_W_open_42, e_W_open_43, e_W_open_46, e_W_open_49, e_W_open_52, e_W_open_55, e_W_open_56, l30, and_self, and_true, true_and, and_false, false_and, or_true, true_or, or_false, false_or, not_true_eq_false, not_false_eq_true, if_true, if_false, ne_eq, ite_self, reduceCtorEq, i10, Decidable.not_not, Bool.and_self, Bool.and_true, Bool.true_and, is_0 h, rf_0_2 h, is_37 h, k_F_holeOver h hb, rb_i, hl, Int32.add_zero, nI_1]
theorem cw_open (h : WF S R) (hc : CR S I R A) : COp S I R (sp_open A x) (rn Ls xs (d + 9) 33 0 [some (.inr (.inl (some 0))), some (.inl x), none, none] [] (S, I, R)) := by
  obtain ⟨t, ht, e2⟩ := hc.t
  unfold sp_open
  by_cases hx : 0 ≤ x ∧ x ≤ 60
  · obtain ⟨I2, R2, f2, b2, r2⟩ := k_F_findHoles (Ls := Ls) (xs := xs) (d := d + 3) h p1 hc.s hc.g (show t < 2 ^ 29 by omega) e2
    have w2 := h.ff f2
    rw [if_pos hx]
    have l : rn Ls xs (d + 9) 33 28 [some (.inr (.inl (some 0))), some (.inl x), some (.inl 0), some (.inl 0)] [] (S, I2, R2) = _ := l_W_open (Ls := Ls) (xs := xs) (d := d + 8) (x := x) w2 b2 30 0 0 (by omega)
    exact COp.ff h hc f2 (by simp only [e_W_open_0, e_W_open_1, e_W_open_2, e_W_open_4, e_W_open_7, e_W_open_10, e_W_open_12, e_W_open_13, e_W_open_14, e_W_open_17, e_W_open_18, e_W_open_21, e_W_open_24, e_W_open_25, e_W_open_26, e_W_open_27, is_0 h, rf_0_0 h, rf_0_2 h, is_37 h, and_self, and_true, true_and, and_false, false_and, or_true, true_or, or_false, false_or, not_true_eq_false, not_false_eq_true, if_true, if_false, ne_eq, ite_self, reduceCtorEq, i10, Decidable.not_not, Bool.and_self, Bool.and_true, Bool.true_and, k_W_within, hx, rb_i, t1, r2, rb_v, l])
  · rw [if_neg hx]
    exact COp.same h hc (by simp only [e_W_open_0, e_W_open_1, e_W_open_2, e_W_open_4, e_W_open_7, e_W_open_10, e_W_open_12, and_self, and_true, true_and, and_false, false_and, or_true, true_or, or_false, false_or, not_true_eq_false, not_false_eq_true, if_true, if_false, ne_eq, ite_self, reduceCtorEq, i10, Decidable.not_not, Bool.and_self, Bool.and_true, Bool.true_and, k_W_within, hx, rb_i, t1])
theorem cw_best (h : WF S R) (hc : CR S I R A) : COp S I R (sp_best A x y) (rn Ls xs (d + 9) 35 0 [some (.inr (.inl (some 0))), some (.inl x), some (.inl y)] [] (S, I, R)) := by
  obtain ⟨t, ht, e2⟩ := hc.t
  unfold sp_best
  by_cases hx : 1 ≤ x ∧ x ≤ 60
  · by_cases hy : 0 ≤ y ∧ y ≤ 1
    · have hx2 := hx
      obtain ⟨k, -, hk2, rfl⟩ := inN (a := 1) (b := 60) (by decide) hx rfl rfl
      have ck : cW (nI k) = k := nI_clamp (by omega)
      obtain ⟨I2, R2, f2, c2, r2⟩ := k_F_chooseSweep (Ls := Ls) (xs := xs) (d := d + 3) (m := k) h p1 hc.s hc.g (show t + k < 2 ^ 30 by omega) e2
      have w2 := h.ff f2
      have tl := k_F_toldOf (Ls := Ls) (xs := xs) (d := d + 8) (y := y) (I := I2) w2
      rw [told_A c2] at tl
      rw [if_pos ⟨hx2, hy⟩, ck]
      exact COp.ff h hc f2 (by simp only [e_W_best_0, e_W_best_1, e_W_best_2, e_W_best_4, e_W_best_7, e_W_best_10, e_W_best_11, e_W_best_12, e_W_best_13, e_W_best_16, e_W_best_19, e_W_best_21, e_W_best_22, e_W_best_23, e_W_best_26, e_W_best_27, e_W_best_30, e_W_best_31, e_W_best_34, e_W_best_35, e_W_best_38, e_W_best_39, e_W_best_42, is_0 h, rf_0_0 h, rf_0_2 h, rf_0_2 w2, is_37 h, and_self, and_true, true_and, and_false, false_and, or_true, true_or, or_false, false_or, not_true_eq_false, not_false_eq_true, if_true, if_false, ne_eq, ite_self, reduceCtorEq, i10, Decidable.not_not, Bool.and_self, Bool.and_true, Bool.true_and, k_W_within, hx2, hy, rb_i, t1, r2, rb_v, tl])
    · rw [if_neg (fun q => hy q.2)]
      exact COp.same h hc (by simp only [e_W_best_0, e_W_best_1, e_W_best_2, e_W_best_4, e_W_best_7, e_W_best_10, e_W_best_11, e_W_best_12, e_W_best_13, e_W_best_16, e_W_best_19, e_W_best_21, e_W_best_22, e_W_best_23, e_W_best_26, e_W_best_27, e_W_best_30, e_W_best_31, e_W_best_34, e_W_best_35, e_W_best_38, e_W_best_39, e_W_best_42, and_self, and_true, true_and, and_false, false_and, or_true, true_or, or_false, false_or, not_true_eq_false, not_false_eq_true, if_true, if_false, ne_eq, ite_self, reduceCtorEq, i10, Decidable.not_not, Bool.and_self, Bool.and_true, Bool.true_and, k_W_within, hx, hy, rb_i, t1])
  · rw [if_neg (fun q => hx q.1)]
    exact COp.same h hc (by simp only [e_W_best_0, e_W_best_1, e_W_best_2, e_W_best_4, e_W_best_7, e_W_best_10, e_W_best_11, e_W_best_12, e_W_best_13, e_W_best_16, e_W_best_19, e_W_best_21, e_W_best_22, e_W_best_23, e_W_best_26, e_W_best_27, e_W_best_30, e_W_best_31, e_W_best_34, e_W_best_35, e_W_best_38, e_W_best_39, e_W_best_42, and_self, and_true, true_and, and_false, false_and, or_true, true_or, or_false, false_or, not_true_eq_false, not_false_eq_true, if_true, if_false, ne_eq, ite_self, reduceCtorEq, i10, Decidable.not_not, Bool.and_self, Bool.and_true, Bool.true_and, k_W_within, hx, rb_i, t1])
theorem cw_push (h : WF S R) (hc : CR S I R A) : COp S I R (sp_push A x y z) (rn Ls xs (d + 9) 37 0 [some (.inr (.inl (some 0))), some (.inl x), some (.inl y), some (.inl z)] [] (S, I, R)) := by
  obtain ⟨n, hn, e1, cn⟩ := hc.g.n
  obtain ⟨t, ht, e2⟩ := hc.t
  unfold sp_push
  by_cases hw : isWr A x
  · by_cases hy : 1 ≤ y ∧ y ≤ 60
    · by_cases hz : 0 ≤ z ∧ z ≤ 1
      · have hw2 := hw
        have hy2 := hy
        obtain ⟨w, hwn, rfl⟩ := wr_get hn e1 hw
        obtain ⟨k, -, hk2, rfl⟩ := inN (a := 1) (b := 60) (by decide) hy rfl rfl
        have cw : cW (nI w) = w := nI_clamp (by omega)
        have ck : cW (nI k) = k := nI_clamp (by omega)
        obtain ⟨I2, R2, f2, c2, r2⟩ := k_F_choosePace (Ls := Ls) (xs := xs) (d := d + 3) (m := k) h p1 hc.s hc.g (show t + k < 2 ^ 30 by omega) hn e1 e2 hwn
        have w2 := h.ff f2
        have tl := k_F_toldOf (Ls := Ls) (xs := xs) (d := d + 8) (y := z) (I := I2) w2
        rw [told_Q c2] at tl
        rw [if_pos ⟨hw2, hy2, hz⟩, ck, cw]
        exact COp.ff h hc f2 (by simp only [e_W_push_0, e_W_push_1, e_W_push_4, e_W_push_5, e_W_push_8, e_W_push_11, e_W_push_12, e_W_push_13, e_W_push_15, e_W_push_18, e_W_push_21, e_W_push_22, e_W_push_23, e_W_push_24, e_W_push_27, e_W_push_30, e_W_push_32, e_W_push_33, e_W_push_34, e_W_push_37, e_W_push_38, e_W_push_41, e_W_push_42, e_W_push_43, e_W_push_46, e_W_push_47, e_W_push_50, e_W_push_51, e_W_push_54, is_0 h, rf_0_0 h, rf_0_2 h, rf_0_2 w2, is_1 h, is_37 h, and_self, and_true, true_and, and_false, false_and, or_true, true_or, or_false, false_or, not_true_eq_false, not_false_eq_true, if_true, if_false, ne_eq, ite_self, reduceCtorEq, i10, Decidable.not_not, Bool.and_self, Bool.and_true, Bool.true_and, k_hw_y h hc hw2, k_W_within, hy2, hz, rb_i, t1, r2, rb_v, tl])
      · rw [if_neg (fun q => hz q.2.2)]
        exact COp.same h hc (by simp only [e_W_push_0, e_W_push_1, e_W_push_4, e_W_push_5, e_W_push_8, e_W_push_11, e_W_push_12, e_W_push_13, e_W_push_15, e_W_push_18, e_W_push_21, e_W_push_22, e_W_push_23, e_W_push_24, e_W_push_27, e_W_push_30, e_W_push_32, e_W_push_33, e_W_push_34, e_W_push_37, e_W_push_38, e_W_push_41, e_W_push_42, e_W_push_43, e_W_push_46, e_W_push_47, e_W_push_50, e_W_push_51, e_W_push_54, is_0 h, rf_0_0 h, is_1 h, and_self, and_true, true_and, and_false, false_and, or_true, true_or, or_false, false_or, not_true_eq_false, not_false_eq_true, if_true, if_false, ne_eq, ite_self, reduceCtorEq, i10, Decidable.not_not, Bool.and_self, Bool.and_true, Bool.true_and, k_hw_y h hc hw, k_W_within, hy, hz, rb_i, t1])
    · rw [if_neg (fun q => hy q.2.1)]
      exact COp.same h hc (by simp only [e_W_push_0, e_W_push_1, e_W_push_4, e_W_push_5, e_W_push_8, e_W_push_11, e_W_push_12, e_W_push_13, e_W_push_15, e_W_push_18, e_W_push_21, e_W_push_22, e_W_push_23, e_W_push_24, e_W_push_27, e_W_push_30, e_W_push_32, e_W_push_33, e_W_push_34, e_W_push_37, e_W_push_38, e_W_push_41, e_W_push_42, e_W_push_43, e_W_push_46, e_W_push_47, e_W_push_50, e_W_push_51, e_W_push_54, is_0 h, rf_0_0 h, is_1 h, and_self, and_true, true_and, and_false, false_and, or_true, true_or, or_false, false_or, not_true_eq_false, not_false_eq_true, if_true, if_false, ne_eq, ite_self, reduceCtorEq, i10, Decidable.not_not, Bool.and_self, Bool.and_true, Bool.true_and, k_hw_y h hc hw, k_W_within, hy, rb_i, t1])
  · rw [if_neg (fun q => hw q.1)]
    exact COp.same h hc (by simp only [e_W_push_0, e_W_push_1, e_W_push_4, e_W_push_5, e_W_push_8, e_W_push_11, e_W_push_12, e_W_push_13, e_W_push_15, e_W_push_18, e_W_push_21, e_W_push_22, e_W_push_23, e_W_push_24, e_W_push_27, e_W_push_30, e_W_push_32, e_W_push_33, e_W_push_34, e_W_push_37, e_W_push_38, e_W_push_41, e_W_push_42, e_W_push_43, e_W_push_46, e_W_push_47, e_W_push_50, e_W_push_51, e_W_push_54, is_0 h, rf_0_0 h, is_1 h, and_self, and_true, true_and, and_false, false_and, or_true, true_or, or_false, false_or, not_true_eq_false, not_false_eq_true, if_true, if_false, ne_eq, ite_self, reduceCtorEq, i10, Decidable.not_not, Bool.and_self, Bool.and_true, Bool.true_and, k_hw_n h hc hw, rb_i, t1])
theorem cw_under (h : WF S R) (hc : CR S I R A) : COp S I R (sp_under A x y) (rn Ls xs (d + 9) 39 0 [some (.inr (.inl (some 0))), some (.inl x), some (.inl y)] [] (S, I, R)) := by
  obtain ⟨t, ht, e2⟩ := hc.t
  unfold sp_under
  by_cases hx : 1 ≤ x ∧ x ≤ 100
  · by_cases hy : 0 ≤ y ∧ y ≤ 1
    · have hx2 := hx
      obtain ⟨k, -, hk2, rfl⟩ := inN (a := 1) (b := 100) (by decide) hx rfl rfl
      have ck : cW (nI k) = k := nI_clamp (by omega)
      obtain ⟨I2, R2, f2, c3, c4, r2⟩ := k_F_choosePlaceUnder (Ls := Ls) (xs := xs) (d := d + 3) (n := k) h p1 hc.s hc.g (show t + k < 2 ^ 30 by omega) e2
      have w2 := h.ff f2
      have tl := k_F_toldOf (Ls := Ls) (xs := xs) (d := d + 8) (y := y) (I := I2) w2
      rw [c3, c4] at tl
      rw [if_pos ⟨hx2, hy⟩, ck]
      exact COp.ff h hc f2 (by simp only [e_W_under_0, e_W_under_1, e_W_under_2, e_W_under_4, e_W_under_7, e_W_under_10, e_W_under_11, e_W_under_12, e_W_under_13, e_W_under_16, e_W_under_19, e_W_under_21, e_W_under_22, e_W_under_23, e_W_under_26, e_W_under_27, e_W_under_30, e_W_under_31, e_W_under_34, e_W_under_35, e_W_under_38, e_W_under_39, e_W_under_42, is_0 h, rf_0_0 h, rf_0_2 h, rf_0_2 w2, is_37 h, and_self, and_true, true_and, and_false, false_and, or_true, true_or, or_false, false_or, not_true_eq_false, not_false_eq_true, if_true, if_false, ne_eq, ite_self, reduceCtorEq, i10, Decidable.not_not, Bool.and_self, Bool.and_true, Bool.true_and, k_W_within, hx2, hy, rb_i, t1, r2, rb_v, tl])
    · rw [if_neg (fun q => hy q.2)]
      exact COp.same h hc (by simp only [e_W_under_0, e_W_under_1, e_W_under_2, e_W_under_4, e_W_under_7, e_W_under_10, e_W_under_11, e_W_under_12, e_W_under_13, e_W_under_16, e_W_under_19, e_W_under_21, e_W_under_22, e_W_under_23, e_W_under_26, e_W_under_27, e_W_under_30, e_W_under_31, e_W_under_34, e_W_under_35, e_W_under_38, e_W_under_39, e_W_under_42, and_self, and_true, true_and, and_false, false_and, or_true, true_or, or_false, false_or, not_true_eq_false, not_false_eq_true, if_true, if_false, ne_eq, ite_self, reduceCtorEq, i10, Decidable.not_not, Bool.and_self, Bool.and_true, Bool.true_and, k_W_within, hx, hy, rb_i, t1])
  · rw [if_neg (fun q => hx q.1)]
    exact COp.same h hc (by simp only [e_W_under_0, e_W_under_1, e_W_under_2, e_W_under_4, e_W_under_7, e_W_under_10, e_W_under_11, e_W_under_12, e_W_under_13, e_W_under_16, e_W_under_19, e_W_under_21, e_W_under_22, e_W_under_23, e_W_under_26, e_W_under_27, e_W_under_30, e_W_under_31, e_W_under_34, e_W_under_35, e_W_under_38, e_W_under_39, e_W_under_42, and_self, and_true, true_and, and_false, false_and, or_true, true_or, or_false, false_or, not_true_eq_false, not_false_eq_true, if_true, if_false, ne_eq, ite_self, reduceCtorEq, i10, Decidable.not_not, Bool.and_self, Bool.and_true, Bool.true_and, k_W_within, hx, rb_i, t1])
theorem cw_nearest (h : WF S R) (hc : CR S I R A) : COp S I R (sp_nearest A x y) (rn Ls xs (d + 9) 41 0 [some (.inr (.inl (some 0))), some (.inl x), some (.inl y)] [] (S, I, R)) := by
  obtain ⟨n, hn, e1, cn⟩ := hc.g.n
  obtain ⟨t, ht, e2⟩ := hc.t
  unfold sp_nearest
  by_cases hw : isWr A x
  · by_cases hy : 0 ≤ y ∧ y ≤ 100
    · have hw2 := hw
      have hy2 := hy
      obtain ⟨w, hwn, rfl⟩ := wr_get hn e1 hw
      obtain ⟨k, -, hk2, rfl⟩ := inN (a := 0) (b := 100) (by decide) hy rfl rfl
      have cw : cW (nI w) = w := nI_clamp (by omega)
      have ck : cW (nI k) = k := nI_clamp (by omega)
      obtain ⟨I2, R2, f2, r2⟩ := k_F_nearestWay (Ls := Ls) (xs := xs) (d := d + 3) (m := k) h p1 hc.s hc.g (show t + k < 2 ^ 30 by omega) e2 hn e1 hwn
      rw [if_pos ⟨hw2, hy2⟩, ck, cw]
      exact COp.ff h hc f2 (by simp only [e_W_nearest_0, e_W_nearest_1, e_W_nearest_4, e_W_nearest_5, e_W_nearest_8, e_W_nearest_11, e_W_nearest_12, e_W_nearest_13, e_W_nearest_15, e_W_nearest_18, e_W_nearest_21, e_W_nearest_23, e_W_nearest_24, e_W_nearest_25, e_W_nearest_28, e_W_nearest_29, e_W_nearest_32, e_W_nearest_33, e_W_nearest_34, e_W_nearest_37, is_0 h, rf_0_0 h, rf_0_2 h, is_1 h, is_37 h, and_self, and_true, true_and, and_false, false_and, or_true, true_or, or_false, false_or, not_true_eq_false, not_false_eq_true, if_true, if_false, ne_eq, ite_self, reduceCtorEq, i10, Decidable.not_not, Bool.and_self, Bool.and_true, Bool.true_and, k_hw_y h hc hw2, k_W_within, hy2, rb_i, t1, r2])
    · rw [if_neg (fun q => hy q.2)]
      exact COp.same h hc (by simp only [e_W_nearest_0, e_W_nearest_1, e_W_nearest_4, e_W_nearest_5, e_W_nearest_8, e_W_nearest_11, e_W_nearest_12, e_W_nearest_13, e_W_nearest_15, e_W_nearest_18, e_W_nearest_21, e_W_nearest_23, e_W_nearest_24, e_W_nearest_25, e_W_nearest_28, e_W_nearest_29, e_W_nearest_32, e_W_nearest_33, e_W_nearest_34, e_W_nearest_37, is_0 h, rf_0_0 h, is_1 h, and_self, and_true, true_and, and_false, false_and, or_true, true_or, or_false, false_or, not_true_eq_false, not_false_eq_true, if_true, if_false, ne_eq, ite_self, reduceCtorEq, i10, Decidable.not_not, Bool.and_self, Bool.and_true, Bool.true_and, k_hw_y h hc hw, k_W_within, hy, rb_i, t1])
  · rw [if_neg (fun q => hw q.1)]
    exact COp.same h hc (by simp only [e_W_nearest_0, e_W_nearest_1, e_W_nearest_4, e_W_nearest_5, e_W_nearest_8, e_W_nearest_11, e_W_nearest_12, e_W_nearest_13, e_W_nearest_15, e_W_nearest_18, e_W_nearest_21, e_W_nearest_23, e_W_nearest_24, e_W_nearest_25, e_W_nearest_28, e_W_nearest_29, e_W_nearest_32, e_W_nearest_33, e_W_nearest_34, e_W_nearest_37, is_0 h, rf_0_0 h, is_1 h, and_self, and_true, true_and, and_false, false_and, or_true, true_or, or_false, false_or, not_true_eq_false, not_false_eq_true, if_true, if_false, ne_eq, ite_self, reduceCtorEq, i10, Decidable.not_not, Bool.and_self, Bool.and_true, Bool.true_and, k_hw_n h hc hw, rb_i, t1])
end CRW

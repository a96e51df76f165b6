/-! THE CLASS: a text's value, hardness -/
theorem cv_neg {c : Int32} (hc : c < 0) (h10 : c ≠ -10) : cvS c < -3 ∧ cvS c ≠ -33 := by
  unfold cvS
  repeat' split
  all_goals first | (constructor <;> decide) | contradiction
theorem cv_10 : cvS (-10) = -33 := rfl
theorem cv_num {c : Int32} (h0 : ¬ c < 0) (h1 : c < 10000) : cvS c = c := by
  have n : ∀ k : Int32, k < 0 → c ≠ k := fun k hk e => h0 (e ▸ hk)
  unfold cvS
  simp only [n (-10) (by decide), n (-8) (by decide), n (-7) (by decide), n (-6) (by decide), n (-5) (by decide), n (-4) (by decide), n (-3) (by decide), n (-2) (by decide), n (-1) (by decide), h0, h1, and_self, and_true, true_and, and_false, false_and, or_true, true_or, or_false, false_or, not_true_eq_false, not_false_eq_true, if_true, if_false, ne_eq, ite_self, reduceCtorEq, i10, Decidable.not_not, Bool.and_self, Bool.and_true, Bool.true_and]
theorem cv_nam {i : Nat} (hi : i < 3) : cvS (nI (10000 + i)) = -1 - nI i := by
  rcases (show i = 0 ∨ i = 1 ∨ i = 2 by omega) with rfl | rfl | rfl <;> rfl
section CT5
variable {Ls : Nat} {xs : Nat → Int32} {d : Nat} {S : mS} {I : mI} {R : mR} {x y z : Int32} {H : mH} {p q : Nat} {a : Nat → Int32}
theorem k_X_operand_n (h0 : ¬ x < 0) {u v w : Int32} : rn Ls xs d 190 0 [some (.inl x), some (.inl u), some (.inl v), some (.inl w)] [] H = some (some (.inl x), H) := by
  have n : ∀ k : Int32, k < 0 → x ≠ k := fun k hk e => h0 (e ▸ hk)
  simp only [e_X_operand_0, e_X_operand_1, e_X_operand_28, e_X_operand_29, e_X_operand_30, e_X_operand_31, e_X_operand_32, e_X_operand_33, e_X_operand_34, e_X_operand_35, n (-3) (by decide), n (-2) (by decide), n (-1) (by decide), and_self, and_true, true_and, and_false, false_and, or_true, true_or, or_false, false_or, not_true_eq_false, not_false_eq_true, if_true, if_false, ne_eq, ite_self, reduceCtorEq, i10, Decidable.not_not, Bool.and_self, Bool.and_true, Bool.true_and]
theorem k_X_operand_m {i : Nat} (hi : i < 3) {u v w : Int32} : rn Ls xs d 190 0 [some (.inl (-1 - nI i)), some (.inl u), some (.inl v), some (.inl w)] [] H = some (some (.inl (if i = 0 then u else if i = 1 then v else w)), H) := by
  rcases (show i = 0 ∨ i = 1 ∨ i = 2 by omega) with rfl | rfl | rfl
  · rw [show (-1 : Int32) - nI 0 = -1 from rfl]
    simp only [e_X_operand_0, e_X_operand_1, e_X_operand_28, e_X_operand_29, e_X_operand_30, e_X_operand_31, e_X_operand_32, e_X_operand_33, e_X_operand_34, e_X_operand_35, and_self, and_true, true_and, and_false, false_and, or_true, true_or, or_false, false_or, not_true_eq_false, not_false_eq_true, if_true, if_false, ne_eq, ite_self, reduceCtorEq, i10, Decidable.not_not, Bool.and_self, Bool.and_true, Bool.true_and, show ¬ (-1 : Int32) = -3 by decide, show ¬ (-1 : Int32) = -2 by decide]
  · rw [show (-1 : Int32) - nI 1 = -2 from rfl]
    simp only [e_X_operand_0, e_X_operand_1, e_X_operand_28, e_X_operand_29, e_X_operand_30, e_X_operand_31, e_X_operand_32, e_X_operand_33, e_X_operand_34, e_X_operand_35, and_self, and_true, true_and, and_false, false_and, or_true, true_or, or_false, false_or, not_true_eq_false, not_false_eq_true, if_true, if_false, ne_eq, ite_self, reduceCtorEq, i10, Decidable.not_not, Bool.and_self, Bool.and_true, Bool.true_and, show ¬ (-2 : Int32) = -3 by decide, show ¬ (1 = 0) by decide]
  · rw [show (-1 : Int32) - nI 2 = -3 from rfl]
    simp only [e_X_operand_0, e_X_operand_1, e_X_operand_28, e_X_operand_29, e_X_operand_30, e_X_operand_31, e_X_operand_32, e_X_operand_33, e_X_operand_34, e_X_operand_35, and_self, and_true, true_and, and_false, false_and, or_true, true_or, or_false, false_or, not_true_eq_false, not_false_eq_true, if_true, if_false, ne_eq, ite_self, reduceCtorEq, i10, Decidable.not_not, Bool.and_self, Bool.and_true, Bool.true_and, show ¬ (2 = 0) by decide, show ¬ (2 = 1) by decide]
theorem l_X_valueOf (h : WF S R) (hq : isQ q) {r m : Nat} {c f : Nat → Int32} (hp : h_is S p 6 3 = true) (hr : R p 2 = .inl (some r)) (r118 : 118 ≤ r) (hm : h_is S r 100 m = true) (hok : okS c m) (hc : ∀ j, j < m → I r j = cvS (c j)) (hf : ∀ i, i < 3 → f i = if i = 0 then x else if i = 1 then y else z) {g : Nat → Int32} : ∀ (j k : Nat) (l7 : Option mV), k + j = m →
    rn Ls xs (d + 1) 150 6 [some (.inr (.inl (some p))), some (.inl x), some (.inl y), some (.inl z), some (.inr (.inl (some (q + 3)))), some (.inl (nI (dpS c k))), some (.inl (nI k)), l7] [] (S, va_up I (q + 3) (wkS f c g k), R) = some (some (.inl (wkS f c g m 0)), (S, va_up I (q + 3) (wkS f c g m), R)) := by
  have hql := hq.le
  have em : (S.1 r).2 = m := by rw [(h_is_iff.mp hm).2]
  have em2 : (S.1 (q + 3)).2 = 96 := by rw [(h_is_iff.mp (q_is3 h hq)).2]
  have al1 : h_is S r (100 + 0) m = true := hm
  have al2 : h_is S (q + 3) (100 + 0) 96 = true := q_is3 h hq
  have m96 := hok.1
  intro j
  induction j with
  | zero =>
    intro k l7 hk
    have : k = m := by omega
    subst this
    rw [e_X_valueOf_6]
    simp only [e_X_valueOf_0, e_X_valueOf_1, e_X_valueOf_3, e_X_valueOf_4, e_X_valueOf_8, e_X_valueOf_9, e_X_valueOf_12, e_X_valueOf_13, e_X_valueOf_16, e_X_valueOf_18, e_X_valueOf_20, e_X_valueOf_21, e_X_valueOf_24, e_X_valueOf_25, e_X_valueOf_28, e_X_valueOf_30, e_X_valueOf_31, e_X_valueOf_33, e_X_valueOf_35, e_X_valueOf_37, e_X_valueOf_40, e_X_valueOf_42, e_X_valueOf_44, e_X_valueOf_46, e_X_valueOf_47, e_X_valueOf_48, e_X_valueOf_49, e_X_valueOf_52, e_X_valueOf_53, e_X_valueOf_56, e_X_valueOf_59, e_X_valueOf_61, e_X_valueOf_63, e_X_valueOf_66, e_X_valueOf_68, e_X_valueOf_69, e_X_valueOf_72, e_X_valueOf_74, e_X_valueOf_76, e_X_valueOf_77, e_X_valueOf_78, e_X_valueOf_80, e_X_valueOf_82, e_X_valueOf_83, e_X_valueOf_84, e_X_valueOf_85, e_X_valueOf_88, e_X_valueOf_89, e_X_valueOf_92, e_X_valueOf_93, e_X_valueOf_94, e_X_valueOf_97, e_X_valueOf_99, e_X_valueOf_100, e_X_valueOf_103, e_X_valueOf_106, e_X_valueOf_108, e_X_valueOf_110, e_X_valueOf_111, e_X_valueOf_112, e_X_valueOf_114, e_X_valueOf_115, e_X_valueOf_117, e_X_valueOf_119, e_X_valueOf_120, e_X_valueOf_121, e_X_valueOf_122, e_X_valueOf_124, e_X_valueOf_126, e_X_valueOf_127, e_X_valueOf_130, e_X_valueOf_131, e_X_valueOf_134, e_X_valueOf_137, e_X_valueOf_139, e_X_valueOf_142, e_X_valueOf_144, e_X_valueOf_145, e_X_valueOf_146, e_X_valueOf_149, e_X_valueOf_150, hp, hr, and_self, and_true, true_and, and_false, false_and, or_true, true_or, or_false, false_or, not_true_eq_false, not_false_eq_true, if_true, if_false, ne_eq, ite_self, reduceCtorEq, i10, Decidable.not_not, Bool.and_self, Bool.and_true, Bool.true_and, em, al1, ofn, nI_le' (show k < 2 ^ 31 by omega) (show k < 2 ^ 31 by omega), Nat.le_refl, hok.2.1, show ¬ (nI 1 ≤ 0) by decide, q_ia3 h hq (show 0 < 96 by decide), show (0 : Int32) = nI 0 from rfl, nI_clamp (show 0 < 2 ^ 31 by decide), vu_s]
    rfl
  | succ j ih =>
    intro k l7 hk
    have hkn : ¬ m ≤ k := by omega
    have hd := dpS_le c k
    have hk1 := (hok.2.2 k (by omega))
    have e1 : nI k + 1 = nI (k + 1) := nI_1 k
    have iar : h_ia S r 0 (nI k) = true := h_ia_iff.mpr ⟨(h_is_iff.mp hm).1, by rw [(h_is_iff.mp hm).2], by rw [nI_toInt (by omega)]; omega, by rw [nI_toInt (by omega), em]; omega⟩
    have l96 : ¬ (96 : Int32) ≤ nI (dpS c k) := by rw [show (96 : Int32) = nI 96 from rfl, nI_le' (by decide) (by omega)]; omega
    have st : rn Ls xs (d + 1) 150 6 [some (.inr (.inl (some p))), some (.inl x), some (.inl y), some (.inl z), some (.inr (.inl (some (q + 3)))), some (.inl (nI (dpS c k))), some (.inl (nI k)), l7] [] (S, va_up I (q + 3) (wkS f c g k), R) = rn Ls xs (d + 1) 150 33 [some (.inr (.inl (some p))), some (.inl x), some (.inl y), some (.inl z), some (.inr (.inl (some (q + 3)))), some (.inl (nI (dpS c k))), some (.inl (nI k)), some (.inl (cvS (c k)))] [] (S, va_up I (q + 3) (wkS f c g k), R) := by
      rw [e_X_valueOf_6]
      simp only [e_X_valueOf_8, e_X_valueOf_9, e_X_valueOf_12, e_X_valueOf_13, e_X_valueOf_16, e_X_valueOf_18, e_X_valueOf_20, e_X_valueOf_21, e_X_valueOf_24, e_X_valueOf_25, e_X_valueOf_28, e_X_valueOf_30, e_X_valueOf_31, hp, hr, and_self, and_true, true_and, and_false, false_and, or_true, true_or, or_false, false_or, not_true_eq_false, not_false_eq_true, if_true, if_false, ne_eq, ite_self, reduceCtorEq, i10, Decidable.not_not, Bool.and_self, Bool.and_true, Bool.true_and, em, em2, al1, al2, ofn, nI_le' (show m < 2 ^ 31 by omega) (show k < 2 ^ 31 by omega), hkn, show nI 96 = 96 from rfl, l96, iar, nI_clamp (show k < 2 ^ 31 by omega), vu_n (show r ≠ q + 3 by omega), hc k (by omega)]
    rw [st]
    by_cases hs : c k < 0
    · by_cases hm10 : c k = -10
      · obtain ⟨m', hm2⟩ : ∃ m', dpS c k = m' + 1 := ⟨dpS c k - 1, by have := (hk1.1 hs).1 hm10; omega⟩
        have e2 : dpS c (k + 1) = m' + 1 := by simp only [dpS, hm10, show ((-10 : Int32) < 0) by decide, if_true, hm2]
        have e3 : wkS f c g (k + 1) = upd (wkS f c g k) m' (if wkS f c g k m' = 0 then 1 else 0) := by simp only [wkS, hm10, show ((-10 : Int32) < 0) by decide, if_true, hm2, Nat.add_sub_cancel]
        have ih1 := ih (k + 1) (some (.inl (-33))) (by omega)
        rw [e2, e3] at ih1
        have l1 : ¬ nI (m' + 1) < 1 := by rw [show (1 : Int32) = nI 1 from rfl, nI_lt' (by omega) (by decide)]; omega
        rw [hm10, cv_10, hm2]
        simp only [e_X_valueOf_33, e_X_valueOf_35, e_X_valueOf_37, e_X_valueOf_40, e_X_valueOf_42, e_X_valueOf_44, e_X_valueOf_46, e_X_valueOf_47, e_X_valueOf_48, e_X_valueOf_49, e_X_valueOf_52, e_X_valueOf_53, e_X_valueOf_56, e_X_valueOf_59, e_X_valueOf_61, e_X_valueOf_63, e_X_valueOf_66, e_X_valueOf_68, e_X_valueOf_69, e_X_valueOf_72, e_X_valueOf_74, e_X_valueOf_76, e_X_valueOf_77, e_X_valueOf_78, e_X_valueOf_80, e_X_valueOf_82, e_X_valueOf_83, e_X_valueOf_84, e_X_valueOf_85, e_X_valueOf_88, e_X_valueOf_89, e_X_valueOf_92, e_X_valueOf_93, e_X_valueOf_94, show ((-33 : Int32) < -3) by decide, and_self, and_true, true_and, and_false, false_and, or_true, true_or, or_false, false_or, not_true_eq_false, not_false_eq_true, if_true, if_false, ne_eq, ite_self, reduceCtorEq, i10, Decidable.not_not, Bool.and_self, Bool.and_true, Bool.true_and, l1, nI_pred, q_ia3 h hq (show m' < 96 by omega), nI_clamp (show m' < 2 ^ 31 by omega), vu_s, vu_vu]
        by_cases hz : wkS f c g k m' = 0
        · simp only [hz, if_true] at ih1
          simp only [hz, and_self, and_true, true_and, and_false, false_and, or_true, true_or, or_false, false_or, not_true_eq_false, not_false_eq_true, if_true, if_false, ne_eq, ite_self, reduceCtorEq, i10, Decidable.not_not, Bool.and_self, Bool.and_true, Bool.true_and, e_X_valueOf_131, e_X_valueOf_134, e1]
          exact ih1
        · simp only [hz, if_false] at ih1
          simp only [hz, and_self, and_true, true_and, and_false, false_and, or_true, true_or, or_false, false_or, not_true_eq_false, not_false_eq_true, if_true, if_false, ne_eq, ite_self, reduceCtorEq, i10, Decidable.not_not, Bool.and_self, Bool.and_true, Bool.true_and, e_X_valueOf_131, e_X_valueOf_134, e1]
          exact ih1
      · obtain ⟨m', hm2⟩ : ∃ m', dpS c k = m' + 2 := ⟨dpS c k - 2, by have := (hk1.1 hs).2 hm10; omega⟩
        have e2 : dpS c (k + 1) = m' + 1 := by simp only [dpS, hs, hm10, if_true, if_false, hm2]; omega
        have e3 : wkS f c g (k + 1) = upd (wkS f c g k) m' (twoS (c k) (wkS f c g k m') (wkS f c g k (m' + 1))) := by simp only [wkS, hs, hm10, if_true, if_false, hm2, Nat.add_sub_cancel]; rfl
        have ih1 := ih (k + 1) (some (.inl (cvS (c k)))) (by omega)
        rw [e2, e3] at ih1
        have e4 : nI (m' + 2) + -1 = nI (m' + 1) := by rw [nI_m1, nI_pred]
        have l1 : ¬ nI (m' + 2) < 2 := by rw [show (2 : Int32) = nI 2 from rfl, nI_lt' (by omega) (by decide)]; omega
        obtain ⟨c1, c2⟩ := cv_neg hs hm10
        rw [hm2]
        simp only [e_X_valueOf_33, e_X_valueOf_35, e_X_valueOf_37, e_X_valueOf_40, e_X_valueOf_42, e_X_valueOf_44, e_X_valueOf_46, e_X_valueOf_47, e_X_valueOf_48, e_X_valueOf_49, e_X_valueOf_52, e_X_valueOf_53, e_X_valueOf_56, e_X_valueOf_59, e_X_valueOf_61, e_X_valueOf_63, e_X_valueOf_66, e_X_valueOf_68, e_X_valueOf_69, e_X_valueOf_72, e_X_valueOf_74, e_X_valueOf_76, e_X_valueOf_77, e_X_valueOf_78, e_X_valueOf_80, e_X_valueOf_82, e_X_valueOf_83, e_X_valueOf_84, e_X_valueOf_85, e_X_valueOf_88, e_X_valueOf_89, e_X_valueOf_92, e_X_valueOf_93, e_X_valueOf_94, e_X_valueOf_97, e_X_valueOf_99, e_X_valueOf_100, e_X_valueOf_103, e_X_valueOf_106, e_X_valueOf_108, e_X_valueOf_110, e_X_valueOf_111, e_X_valueOf_112, e_X_valueOf_114, e_X_valueOf_115, e_X_valueOf_117, e_X_valueOf_119, e_X_valueOf_120, e_X_valueOf_121, e_X_valueOf_122, e_X_valueOf_124, e_X_valueOf_126, e_X_valueOf_127, e_X_valueOf_130, e_X_valueOf_131, e_X_valueOf_134, c1, c2, and_self, and_true, true_and, and_false, false_and, or_true, true_or, or_false, false_or, not_true_eq_false, not_false_eq_true, if_true, if_false, ne_eq, ite_self, reduceCtorEq, i10, Decidable.not_not, Bool.and_self, Bool.and_true, Bool.true_and, l1, e4, nI_pred, q_ia3 h hq (show m' < 96 by omega), q_ia3 h hq (show m' + 1 < 96 by omega), nI_clamp (show m' < 2 ^ 31 by omega), nI_clamp (show m' + 1 < 2 ^ 31 by omega), vu_s, vu_vu, k_X_joined hs hm10, rb_i, e1]
        exact ih1
    · have e2 : dpS c (k + 1) = dpS c k + 1 := by simp only [dpS, hs, if_false]
      have e3 : wkS f c g (k + 1) = upd (wkS f c g k) (dpS c k) (if c k < 10000 then c k else f (c k - 10000).toNatClampNeg) := by simp only [wkS, hs, if_false]
      have ih1 := ih (k + 1) (some (.inl (cvS (c k)))) (by omega)
      rw [e2, e3] at ih1
      rcases hk1.2 hs with h1 | ⟨i, hi, h1⟩
      · simp only [h1, if_true] at ih1
        rw [cv_num hs h1] at ih1 ⊢
        have g3 : ¬ c k < -3 := by
          have := i_nlt.mp hs
          rw [i_le] at this
          rw [i_lt]
          show ¬ _ < (-3 : Int)
          have : (0 : Int) ≤ (c k).toInt := this
          omega
        simp only [e_X_valueOf_33, e_X_valueOf_35, e_X_valueOf_37, e_X_valueOf_40, e_X_valueOf_42, e_X_valueOf_44, e_X_valueOf_46, e_X_valueOf_47, e_X_valueOf_48, e_X_valueOf_49, e_X_valueOf_52, e_X_valueOf_53, e_X_valueOf_56, g3, and_self, and_true, true_and, and_false, false_and, or_true, true_or, or_false, false_or, not_true_eq_false, not_false_eq_true, if_true, if_false, ne_eq, ite_self, reduceCtorEq, i10, Decidable.not_not, Bool.and_self, Bool.and_true, Bool.true_and, k_X_operand_n hs, rb_i, q_ia3 h hq (show dpS c k < 96 by omega), nI_clamp (show dpS c k < 2 ^ 31 by omega), vu_s, vu_vu, nI_1]
        simp only [e_X_valueOf_131, e_X_valueOf_134, e1]
        exact ih1
      · have h2 : (10000 : Int32) ≤ c k := by rw [h1]; exact nI_le (a := 10000) (by omega) (by omega)
        have h3 : c k - 10000 = nI i := by rw [h1, show (10000 : Int32) = nI 10000 from rfl, pk_sub (by omega), show 10000 + i - 10000 = i by omega]
        simp only [i_nlt.mpr h2, if_false, h3, nI_clamp (show i < 2 ^ 31 by omega), hf i hi] at ih1
        rw [h1, cv_nam hi] at ih1 ⊢
        have g3 : ¬ -1 - nI i < -3 := by rcases (show i = 0 ∨ i = 1 ∨ i = 2 by omega) with rfl | rfl | rfl <;> decide
        simp only [e_X_valueOf_33, e_X_valueOf_35, e_X_valueOf_37, e_X_valueOf_40, e_X_valueOf_42, e_X_valueOf_44, e_X_valueOf_46, e_X_valueOf_47, e_X_valueOf_48, e_X_valueOf_49, e_X_valueOf_52, e_X_valueOf_53, e_X_valueOf_56, g3, and_self, and_true, true_and, and_false, false_and, or_true, true_or, or_false, false_or, not_true_eq_false, not_false_eq_true, if_true, if_false, ne_eq, ite_self, reduceCtorEq, i10, Decidable.not_not, Bool.and_self, Bool.and_true, Bool.true_and, k_X_operand_m hi, rb_i, q_ia3 h hq (show dpS c k < 96 by omega), nI_clamp (show dpS c k < 2 ^ 31 by omega), vu_s, vu_vu, nI_1]
        simp only [e_X_valueOf_131, e_X_valueOf_134, e1]
        exact ih1
/-- the value of a text: the class's is the row's -/
theorem k_X_valueOf (h : WF S R) (hq : isQ q) {t : Nat} {f : Nat → Int32} (hx : TxR S I R (.inl (some p)) a t) (hok : ∃ m, rem (a (92 + 2 * t)) 1000 = nI m ∧ okS (fun j => a (120 + 96 * t + j)) m) (hf : ∀ i, i < 3 → f i = if i = 0 then x else if i = 1 then y else z) : ∃ g, rn Ls xs (d + 1) 150 0 [some (.inr (.inl (some p))), some (.inl x), some (.inl y), some (.inl z), some (.inr (.inl (some (q + 3)))), none, none, none] [] (S, I, R) = some (some (.inl (valS a t f)), (S, va_up I (q + 3) g, R)) := by
  obtain ⟨p', r, m, h1, h2, h3, h4, h5, h6, h7, h8, h9, h10⟩ := hx
  cases h1
  obtain ⟨m', em', ok⟩ := hok
  have hmm : m' = m := (nI_eq (by have := ok.1; omega) (by omega)).mp (em'.symm.trans h9)
  subst hmm
  have l := l_X_valueOf (Ls := Ls) (xs := xs) (d := d) (I := I) (f := f) (g := I (q + 3)) (c := fun j => a (120 + 96 * t + j)) h hq h4 h7 h3.1 h8 ok h10 hf m' 0 none (by omega)
  simp only [wkS, vu_id, dpS] at l
  have l : rn Ls xs (d + 1) 150 6 [some (.inr (.inl (some p))), some (.inl x), some (.inl y), some (.inl z), some (.inr (.inl (some (q + 3)))), some (.inl 0), some (.inl 0), none] [] (S, I, R) = _ := l
  rw [val_eq h9 ok (f2 := f) (fun _ _ => rfl)] at l
  exact ⟨_, by simp only [e_X_valueOf_0, e_X_valueOf_1, e_X_valueOf_3, e_X_valueOf_4, l]; rfl⟩
theorem TxR.adr {o : mr} {t : Nat} (h : TxR S I R o a t) : ∃ p, o = .inl (some p) ∧ h_is S p 6 3 = true ∧ I p 0 = a (92 + 2 * t) / 1000 ∧ I p 1 = a (92 + 2 * t + 1) := by
  obtain ⟨p, r, m, h1, h2, h3, h4, h5, h6, -⟩ := h
  exact ⟨p, h1, h4, h5, h6⟩
theorem clS_in {x lo hi : Int32} (h : lo ≤ hi) : lo ≤ clS x lo hi ∧ clS x lo hi ≤ hi := by
  unfold clS
  rw [i_le] at h
  split
  · rename_i h1
    exact ⟨by rw [i_le]; omega, by rw [i_le]; exact h⟩
  · rename_i h1
    split
    · rename_i h2
      exact ⟨by rw [i_le]; exact h, by rw [i_le]; omega⟩
    · rename_i h2
      exact ⟨i_nlt.mp h1, i_nlt.mp h2⟩
theorem clS_id {x lo hi : Int32} (h : lo ≤ x ∧ x ≤ hi) : clS x lo hi = x := by
  unfold clS
  rw [if_neg (i_nlt.mpr h.1), if_neg (i_nlt.mpr h.2)]
theorem plain_in {w : Nat} (h4 : okF 4 (a (8 + 6 * w + 4))) : 0 ≤ plainS a w ∧ plainS a w ≤ 999 := by
  unfold plainS
  split
  · have := okF4 h4
    simp only [i_le] at this ⊢
    exact ⟨Int.le_trans (by decide) this.1, Int.le_trans this.2 (by decide)⟩
  · exact clS_in (by decide)
theorem bolt_eq {x : Int32} (h : 0 ≤ x ∧ x ≤ 999) : maS 0 (x - 9) = if 9 ≤ x then x - 9 else 0 := by
  obtain ⟨j, -, hj, rfl⟩ := inN (a := 0) (b := 999) (by decide) h rfl rfl
  have e := sub_toInt (a := j) (b := 9) (by omega) (by decide)
  unfold maS
  rw [show (9 : Int32) = nI 9 from rfl] at *
  by_cases h9 : 9 ≤ j
  · rw [if_pos (show nI 9 ≤ nI j from nI_le h9 (by omega))]
    by_cases hz : 0 < nI j - nI 9
    · rw [if_pos hz]
    · rw [if_neg hz]
      apply i_eqI
      rw [i_lt, e] at hz
      have hz : ¬ (0 : Int) < _ := hz
      rw [e]
      show (0 : Int) = _
      omega
  · rw [if_neg (show ¬ nI 9 ≤ nI j by rw [nI_le' (by decide) (by omega)]; exact h9), if_neg (by rw [i_lt, e]; show ¬ (0 : Int) < _; omega)]
theorem k_S_hardOf (h : WF S R) (hq : isQ q) (hs : SkR S I R q a) (hg : gd a) {n w : Nat} (en : cW (a 1) = n) (hw : w < n) (hw14 : w < 14) : ∃ g, rn Ls xs (d + 2) 101 0 [some (.inr (.inl (some q))), some (.inr (.inl (some (q + 4 + w)))), none, none] [] (S, I, R) = some (some (.inl (hardS a w)), (S, va_up I (q + 3) g, R)) := by
  have hql := hq.le
  obtain ⟨m, hm, e7, htx⟩ := hg.1.2
  have hc7 : (a 7).toNatClampNeg = m := by rw [e7, nI_clamp (by omega)]
  have wi := q_wi h hq hw14
  have w0 : I (q + 4 + w) 0 = a (8 + 6 * w) := hs.2.1 w 0 (by omega) (by omega)
  have w1 : I (q + 4 + w) 1 = a (8 + 6 * w + 1) := hs.2.1 w 1 (by omega) (by omega)
  have w3 : I (q + 4 + w) 3 = a (8 + 6 * w + 3) := hs.2.1 w 3 (by omega) (by omega)
  have w4 : I (q + 4 + w) 4 = a (8 + 6 * w + 4) := hs.2.1 w 4 (by omega) (by omega)
  have h4 := hg.f en hw (k := 4) (by decide)
  have pin := plain_in h4
  have run := k_S_textFor (Ls := Ls) (xs := xs) (d := d + 1) (key := 0) h hq hs hm e7
  rcases cntS_or' a 0 m with e | ⟨t, htn, e, -⟩
  · have hp : plainS a w = a (8 + 6 * w + 4) := by unfold plainS; rw [hc7, e, if_pos (by decide)]
    have hcl : clS (a (8 + 6 * w + 4)) 0 999 = plainS a w := by rw [clS_id (by rw [← hp]; exact pin), hp]
    refine ⟨I (q + 3), ?_⟩
    rw [vu_id]
    simp only [e_S_hardOf_0, e_S_hardOf_1, e_S_hardOf_2, e_S_hardOf_5, e_S_hardOf_6, e_S_hardOf_7, e_S_hardOf_10, e_S_hardOf_11, e_S_hardOf_14, e_S_hardOf_17, e_S_hardOf_18, e_S_hardOf_21, e_S_hardOf_22, e_S_hardOf_23, e_S_hardOf_24, e_S_hardOf_27, e_S_hardOf_28, e_S_hardOf_31, e_S_hardOf_32, e_S_hardOf_35, e_S_hardOf_36, e_S_hardOf_39, e_S_hardOf_42, e_S_hardOf_43, e_S_hardOf_44, e_S_hardOf_45, e_S_hardOf_46, e_S_hardOf_49, e_S_hardOf_52, e_S_hardOf_55, q_is h hq, and_self, and_true, true_and, and_false, false_and, or_true, true_or, or_false, false_or, not_true_eq_false, not_false_eq_true, if_true, if_false, ne_eq, ite_self, reduceCtorEq, i10, Decidable.not_not, Bool.and_self, Bool.and_true, Bool.true_and, run, e, rb_i, show ¬ (0 : Int32) ≤ -1 by decide, wi, w4, k_W_held (show (0 : Int32) ≤ 999 by decide), hcl, k_K_hardFrom wi, w0, bolt_eq pin, hardS]
  · obtain ⟨m2, g1, g2, -⟩ := htx t htn
    obtain ⟨p, o1, o2, o3, o4⟩ := (hs.2.2 t (by rw [cW, hc7]; exact htn)).adr
    have tx := hs.2.2 t (by rw [cW, hc7]; exact htn)
    rw [o1] at tx
    obtain ⟨g, r2⟩ := k_X_valueOf (Ls := Ls) (xs := xs) (d := d) (x := a (8 + 6 * w + 4)) (y := a (8 + 6 * w + 1)) (z := a (8 + 6 * w + 3)) (f := fcS a w) h hq tx ⟨m2, g1, g2⟩ (fun i _ => rfl)
    have hp : clS (valS a t (fcS a w)) 0 999 = plainS a w := by
      unfold plainS
      rw [hc7, e, if_neg (nI_pos (by omega)), nI_clamp (show t < 2 ^ 31 by omega)]
    refine ⟨g, ?_⟩
    simp only [e_S_hardOf_0, e_S_hardOf_1, e_S_hardOf_2, e_S_hardOf_5, e_S_hardOf_6, e_S_hardOf_7, e_S_hardOf_10, e_S_hardOf_11, e_S_hardOf_14, e_S_hardOf_17, e_S_hardOf_18, e_S_hardOf_21, e_S_hardOf_22, e_S_hardOf_23, e_S_hardOf_24, e_S_hardOf_27, e_S_hardOf_28, e_S_hardOf_31, e_S_hardOf_32, e_S_hardOf_35, e_S_hardOf_36, e_S_hardOf_39, e_S_hardOf_42, e_S_hardOf_43, e_S_hardOf_44, e_S_hardOf_45, e_S_hardOf_46, e_S_hardOf_49, e_S_hardOf_52, e_S_hardOf_55, q_is h hq, and_self, and_true, true_and, and_false, false_and, or_true, true_or, or_false, false_or, not_true_eq_false, not_false_eq_true, if_true, if_false, ne_eq, ite_self, reduceCtorEq, i10, Decidable.not_not, Bool.and_self, Bool.and_true, Bool.true_and, run, e, rb_i, nI_pos' (show t < 2 ^ 31 by omega), q_r1 h hq, q_r2 h hq, q_ia2 h hq (show t < 14 by omega), nI_clamp (show t < 2 ^ 31 by omega), o1, o2, wi, w1, w3, w4, r2, k_W_held (show (0 : Int32) ≤ 999 by decide), hp, k_K_hardFrom wi, vu_n (show q + 4 + w ≠ q + 3 by omega), w0, bolt_eq pin, hardS]
end CT5

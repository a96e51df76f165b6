/-! THE REFERENCE's calls: rows that are told, images, texts that are told, laws -/
theorem vu_93 {I : mI} {k j : Nat} {x : Int32} (h : j ≠ k) : va_up I 93 (upd (I 93) k x) 93 j = I 93 j := by rw [vu_s, up_n h]
/-- a number of the reference's own is written -/
theorem MR.fld {I A : mI} (h : MR I A) (k : Nat) (x : Int32) : MR (va_up I 93 (upd (I 93) k x)) (va_up A 93 (upd (A 93) k x)) := by
  have g : ∀ j, I 93 j = A 93 j → va_up I 93 (upd (I 93) k x) 93 j = va_up A 93 (upd (A 93) k x) 93 j := by
    intro j e
    rw [vu_s, vu_s]
    by_cases hj : j = k
    · subst hj; rw [up_s, up_s]
    · rw [up_n hj, up_n hj, e]
  exact ⟨fun c h1 h2 => by rw [vu_n (by omega), vu_n (by omega)]; exact h.1 c h1 h2, by rw [vu_n (by omega), vu_n (by omega)]; exact h.2.1, fun c h1 h2 => by rw [vu_n (by omega), vu_n (by omega)]; exact h.2.2.1 c h1 h2, by rw [vu_n (by omega), vu_n (by omega)]; exact h.2.2.2.1, g 3 h.2.2.2.2.1, g 9 h.2.2.2.2.2.1, g 35 h.2.2.2.2.2.2.1, fun c h1 => by rw [vu_n (by omega), vu_n (by omega)]; exact h.2.2.2.2.2.2.2 c h1⟩
theorem MR.f3 {I A : mI} (h : MR I A) : I 93 3 = A 93 3 := h.2.2.2.2.1
theorem MR.f9 {I A : mI} (h : MR I A) : I 93 9 = A 93 9 := h.2.2.2.2.2.1
theorem MR.f35 {I A : mI} (h : MR I A) : I 93 35 = A 93 35 := h.2.2.2.2.2.2.1
section MT8
variable {Ls : Nat} {xs : Nat → Int32} {d : Nat} {S : mS} {I A : mI} {R : mR} {x y z u v : Int32}
def sp_tell (A : mI) (x : Int32) : Int32 × mI := if A 93 35 = 60 then (-1000000003, A) else (A 93 35 + 1, va_up (va_up A 117 (upd (A 117) (cW (A 93 35)) x)) 93 (upd (A 93) 35 (A 93 35 + 1)))
theorem o_M_tell (h : WF S R) (hm : MR I A) {n : Nat} (hn : n ≤ 60) (e : A 93 35 = nI n) : ∃ I2, MR I2 (sp_tell A x).2 ∧ rn Ls xs (d + 9) 78 0 [some (.inr (.inl (some 93))), some (.inl x)] [] (S, I, R) = some (some (.inl (sp_tell A x).1), (S, I2, R)) := by
  have e2 := hm.f35
  unfold sp_tell
  by_cases h1 : n = 60
  · refine ⟨I, ?_, ?_⟩
    · rw [e, h1, if_pos (show nI 60 = 60 from rfl)]; exact hm
    · simp only [e_M_tell_0, e_M_tell_1, e_M_tell_4, e_M_tell_6, e_M_tell_9, e_M_tell_11, e_M_tell_12, e_M_tell_13, e_M_tell_16, e_M_tell_17, e_M_tell_20, e_M_tell_21, e_M_tell_22, e_M_tell_23, e_M_tell_24, e_M_tell_27, e_M_tell_28, e_M_tell_29, e_M_tell_32, e_M_tell_33, e_M_tell_36, is_93 h, and_self, and_true, true_and, and_false, false_and, or_true, true_or, or_false, false_or, not_true_eq_false, not_false_eq_true, if_true, if_false, ne_eq, ite_self, reduceCtorEq, i10, Decidable.not_not, Bool.and_self, Bool.and_true, Bool.true_and, e2, e, h1, show nI 60 = 60 from rfl]
  · have h2 : ¬ nI n = 60 := fun q => h1 ((nI_eq (b := 60) (by omega) (by decide)).mp q)
    refine ⟨va_up (va_up I 117 (upd (I 117) n x)) 93 (upd (I 93) 35 (nI n + 1)), ?_, ?_⟩
    · rw [e, if_neg h2]
      have h3 := ((hm.up 117 (upd (I 117) n x) (by decide)).fld 35 (nI n + 1))
      rw [vu_n (show 93 ≠ 117 by decide), vu_n (show 93 ≠ 117 by decide), hm.2.2.2.1] at h3
      simp only [nI_clamp (show n < 2 ^ 31 by omega)]
      rw [hm.2.2.2.1]
      exact h3
    · simp only [e_M_tell_0, e_M_tell_1, e_M_tell_4, e_M_tell_6, e_M_tell_9, e_M_tell_11, e_M_tell_12, e_M_tell_13, e_M_tell_16, e_M_tell_17, e_M_tell_20, e_M_tell_21, e_M_tell_22, e_M_tell_23, e_M_tell_24, e_M_tell_27, e_M_tell_28, e_M_tell_29, e_M_tell_32, e_M_tell_33, e_M_tell_36, is_93 h, rf_93_34 h, and_self, and_true, true_and, and_false, false_and, or_true, true_or, or_false, false_or, not_true_eq_false, not_false_eq_true, if_true, if_false, ne_eq, ite_self, reduceCtorEq, i10, Decidable.not_not, Bool.and_self, Bool.and_true, Bool.true_and, e2, e, h2, ia_117 h (show n < 60 by omega), nI_clamp (show n < 2 ^ 31 by omega), vu_n (show 93 ≠ 117 by decide), vu_s, up_s]
def sp_trim (A : mI) (x : Int32) : Int32 × mI := if 0 ≤ x ∧ x ≤ A 93 9 then (x, va_up A 93 (upd (A 93) 9 x)) else (BADi, A)
theorem o_M_trim (h : WF S R) (hm : MR I A) : ∃ I2, MR I2 (sp_trim A x).2 ∧ rn Ls xs (d + 9) 52 0 [some (.inr (.inl (some 93))), some (.inl x)] [] (S, I, R) = some (some (.inl (sp_trim A x).1), (S, I2, R)) := by
  have e2 := hm.f9
  unfold sp_trim
  by_cases h1 : 0 ≤ x ∧ x ≤ A 93 9
  · refine ⟨va_up I 93 (upd (I 93) 9 x), by simp only [h1, and_self, and_true, true_and, and_false, false_and, or_true, true_or, or_false, false_or, not_true_eq_false, not_false_eq_true, if_true, if_false, ne_eq, ite_self, reduceCtorEq, i10, Decidable.not_not, Bool.and_self, Bool.and_true, Bool.true_and]; exact hm.fld 9 x, ?_⟩
    simp only [e_M_trim_0, e_M_trim_1, e_M_trim_2, e_M_trim_3, e_M_trim_6, e_M_trim_9, e_M_trim_12, e_M_trim_14, e_M_trim_15, e_M_trim_16, e_M_trim_17, e_M_trim_20, e_M_trim_21, is_93 h, and_self, and_true, true_and, and_false, false_and, or_true, true_or, or_false, false_or, not_true_eq_false, not_false_eq_true, if_true, if_false, ne_eq, ite_self, reduceCtorEq, i10, Decidable.not_not, Bool.and_self, Bool.and_true, Bool.true_and, e2, k_M_in, rb_i, in1, h1]
  · refine ⟨I, by simp only [h1, and_self, and_true, true_and, and_false, false_and, or_true, true_or, or_false, false_or, not_true_eq_false, not_false_eq_true, if_true, if_false, ne_eq, ite_self, reduceCtorEq, i10, Decidable.not_not, Bool.and_self, Bool.and_true, Bool.true_and]; exact hm, ?_⟩
    simp only [e_M_trim_0, e_M_trim_1, e_M_trim_2, e_M_trim_3, e_M_trim_6, e_M_trim_9, e_M_trim_12, e_M_trim_14, e_M_trim_15, e_M_trim_16, e_M_trim_17, e_M_trim_20, e_M_trim_21, is_93 h, and_self, and_true, true_and, and_false, false_and, or_true, true_or, or_false, false_or, not_true_eq_false, not_false_eq_true, if_true, if_false, ne_eq, ite_self, reduceCtorEq, i10, Decidable.not_not, Bool.and_self, Bool.and_true, Bool.true_and, e2, k_M_in, rb_i, in1, h1]
def sp_why (A : mI) (x : Int32) : Int32 × mI := (if 0 ≤ x ∧ x ≤ 2 then (if cntS (A 94) x (cW (A 94 7)) < 0 then -1000000005 else cntS (A 94) x (cW (A 94 7))) else BADi, A)
theorem o_M_why (h : WF S R) (hm : MR I A) (hr : rwOK (A 94)) : ∃ I2, MR I2 (sp_why A x).2 ∧ rn Ls xs (d + 9) 58 0 [some (.inr (.inl (some 93))), some (.inl x), none] [] (S, I, R) = some (some (.inl (sp_why A x).1), (S, I2, R)) := by
  obtain ⟨t, ht, e7, -⟩ := hr.2
  have e8 : I 94 7 = nI t := by rw [hm.now, e7]
  refine ⟨I, hm, ?_⟩
  unfold sp_why
  by_cases h1 : 0 ≤ x ∧ x ≤ 2
  · simp only [e_M_why_0, e_M_why_1, e_M_why_2, e_M_why_3, e_M_why_6, e_M_why_9, e_M_why_11, e_M_why_12, e_M_why_13, e_M_why_14, e_M_why_17, e_M_why_18, e_M_why_19, e_M_why_22, e_M_why_24, e_M_why_27, e_M_why_28, is_93 h, and_self, and_true, true_and, and_false, false_and, or_true, true_or, or_false, false_or, not_true_eq_false, not_false_eq_true, if_true, if_false, ne_eq, ite_self, reduceCtorEq, i10, Decidable.not_not, Bool.and_self, Bool.and_true, Bool.true_and, k_M_in, k_M_counts h ht e8, rb_i, in1, h1, e7, nI_clamp (show t < 2 ^ 31 by omega), hm.now]
    by_cases h2 : cntS (A 94) x t < 0
    · simp only [h2, and_self, and_true, true_and, and_false, false_and, or_true, true_or, or_false, false_or, not_true_eq_false, not_false_eq_true, if_true, if_false, ne_eq, ite_self, reduceCtorEq, i10, Decidable.not_not, Bool.and_self, Bool.and_true, Bool.true_and, i_nle.mpr h2]
    · simp only [h2, and_self, and_true, true_and, and_false, false_and, or_true, true_or, or_false, false_or, not_true_eq_false, not_false_eq_true, if_true, if_false, ne_eq, ite_self, reduceCtorEq, i10, Decidable.not_not, Bool.and_self, Bool.and_true, Bool.true_and, i_nlt.mp h2]
  · simp only [e_M_why_0, e_M_why_1, e_M_why_2, e_M_why_3, e_M_why_6, e_M_why_9, e_M_why_11, e_M_why_12, e_M_why_13, e_M_why_14, e_M_why_17, e_M_why_18, e_M_why_19, e_M_why_22, e_M_why_24, e_M_why_27, e_M_why_28, is_93 h, and_self, and_true, true_and, and_false, false_and, or_true, true_or, or_false, false_or, not_true_eq_false, not_false_eq_true, if_true, if_false, ne_eq, ite_self, reduceCtorEq, i10, Decidable.not_not, Bool.and_self, Bool.and_true, Bool.true_and, k_M_in, rb_i, in1, h1]
def sp_textTold (A : mI) (x y : Int32) : Int32 × mI := (if (0 ≤ x ∧ x ≤ A 94 7 - 1) ∧ 0 ≤ y ∧ y ≤ 1 then (if y = 0 then A 94 (92 + 2 * cW x) / 1000 else A 94 (92 + 2 * cW x + 1)) else BADi, A)
theorem o_M_textTold (h : WF S R) (hm : MR I A) (hr : rwOK (A 94)) : ∃ I2, MR I2 (sp_textTold A x y).2 ∧ rn Ls xs (d + 9) 56 0 [some (.inr (.inl (some 93))), some (.inl x), some (.inl y)] [] (S, I, R) = some (some (.inl (sp_textTold A x y).1), (S, I2, R)) := by
  obtain ⟨t, ht, e7, -⟩ := hr.2
  have e8 : I 94 7 = nI t := by rw [hm.now, e7]
  refine ⟨I, hm, ?_⟩
  unfold sp_textTold
  by_cases h1 : 0 ≤ x ∧ x ≤ nI t - 1
  · obtain ⟨w, hw, rfl⟩ := isW ht h1
    by_cases h2 : 0 ≤ y ∧ y ≤ 1
    · simp only [e_M_textTold_0, e_M_textTold_1, e_M_textTold_2, e_M_textTold_3, e_M_textTold_6, e_M_textTold_8, e_M_textTold_9, e_M_textTold_10, e_M_textTold_11, e_M_textTold_14, e_M_textTold_17, e_M_textTold_18, e_M_textTold_19, e_M_textTold_20, e_M_textTold_23, e_M_textTold_26, e_M_textTold_28, e_M_textTold_29, e_M_textTold_30, e_M_textTold_33, e_M_textTold_34, e_M_textTold_37, e_M_textTold_39, e_M_textTold_40, e_M_textTold_41, e_M_textTold_42, e_M_textTold_43, e_M_textTold_44, e_M_textTold_47, e_M_textTold_48, e_M_textTold_51, e_M_textTold_52, e_M_textTold_55, e_M_textTold_57, e_M_textTold_58, e_M_textTold_59, e_M_textTold_60, e_M_textTold_61, e_M_textTold_62, e_M_textTold_63, e_M_textTold_64, is_93 h, rf_93_0 h, and_self, and_true, true_and, and_false, false_and, or_true, true_or, or_false, false_or, not_true_eq_false, not_false_eq_true, if_true, if_false, ne_eq, ite_self, reduceCtorEq, i10, Decidable.not_not, Bool.and_self, Bool.and_true, Bool.true_and, k_M_in, rb_i, in0, in1, h1, h2, e7, e8, ia94_7 h, cl_7, nI_clamp (show w < 2 ^ 31 by omega)]
      have q1 : (92 : Int32) + 2 * nI w = nI (92 + 2 * w) := by simp only [li, pk_mul, nI_add]
      have q2 : nI (92 + 2 * w) + 1 = nI (92 + 2 * w + 1) := nI_1 _
      simp only [q1, q2, ia_94 h (show 92 + 2 * w < 1464 by omega), ia_94 h (show 92 + 2 * w + 1 < 1464 by omega), nI_clamp (show 92 + 2 * w < 2 ^ 31 by omega), nI_clamp (show 92 + 2 * w + 1 < 2 ^ 31 by omega), and_self, and_true, true_and, and_false, false_and, or_true, true_or, or_false, false_or, not_true_eq_false, not_false_eq_true, if_true, if_false, ne_eq, ite_self, reduceCtorEq, i10, Decidable.not_not, Bool.and_self, Bool.and_true, Bool.true_and, show ¬ (1000 : Int32) = 0 by decide, hm.now]
      by_cases h3 : y = 0
      · simp only [h3, and_self, and_true, true_and, and_false, false_and, or_true, true_or, or_false, false_or, not_true_eq_false, not_false_eq_true, if_true, if_false, ne_eq, ite_self, reduceCtorEq, i10, Decidable.not_not, Bool.and_self, Bool.and_true, Bool.true_and]
      · simp only [h3, and_self, and_true, true_and, and_false, false_and, or_true, true_or, or_false, false_or, not_true_eq_false, not_false_eq_true, if_true, if_false, ne_eq, ite_self, reduceCtorEq, i10, Decidable.not_not, Bool.and_self, Bool.and_true, Bool.true_and]
    · simp only [e_M_textTold_0, e_M_textTold_1, e_M_textTold_2, e_M_textTold_3, e_M_textTold_6, e_M_textTold_8, e_M_textTold_9, e_M_textTold_10, e_M_textTold_11, e_M_textTold_14, e_M_textTold_17, e_M_textTold_18, e_M_textTold_19, e_M_textTold_20, e_M_textTold_23, e_M_textTold_26, e_M_textTold_28, e_M_textTold_29, e_M_textTold_30, e_M_textTold_33, e_M_textTold_34, e_M_textTold_37, e_M_textTold_39, e_M_textTold_40, e_M_textTold_41, e_M_textTold_42, e_M_textTold_43, e_M_textTold_44, e_M_textTold_47, e_M_textTold_48, e_M_textTold_51, e_M_textTold_52, e_M_textTold_55, e_M_textTold_57, e_M_textTold_58, e_M_textTold_59, e_M_textTold_60, e_M_textTold_61, e_M_textTold_62, e_M_textTold_63, e_M_textTold_64, is_93 h, rf_93_0 h, and_self, and_true, true_and, and_false, false_and, or_true, true_or, or_false, false_or, not_true_eq_false, not_false_eq_true, if_true, if_false, ne_eq, ite_self, reduceCtorEq, i10, Decidable.not_not, Bool.and_self, Bool.and_true, Bool.true_and, k_M_in, rb_i, in0, in1, h1, h2, e7, e8, ia94_7 h, cl_7]
  · simp only [e_M_textTold_0, e_M_textTold_1, e_M_textTold_2, e_M_textTold_3, e_M_textTold_6, e_M_textTold_8, e_M_textTold_9, e_M_textTold_10, e_M_textTold_11, e_M_textTold_14, e_M_textTold_17, e_M_textTold_18, e_M_textTold_19, e_M_textTold_20, e_M_textTold_23, e_M_textTold_26, e_M_textTold_28, e_M_textTold_29, e_M_textTold_30, e_M_textTold_33, e_M_textTold_34, e_M_textTold_37, e_M_textTold_39, e_M_textTold_40, e_M_textTold_41, e_M_textTold_42, e_M_textTold_43, e_M_textTold_44, e_M_textTold_47, e_M_textTold_48, e_M_textTold_51, e_M_textTold_52, e_M_textTold_55, e_M_textTold_57, e_M_textTold_58, e_M_textTold_59, e_M_textTold_60, e_M_textTold_61, e_M_textTold_62, e_M_textTold_63, e_M_textTold_64, is_93 h, rf_93_0 h, and_self, and_true, true_and, and_false, false_and, or_true, true_or, or_false, false_or, not_true_eq_false, not_false_eq_true, if_true, if_false, ne_eq, ite_self, reduceCtorEq, i10, Decidable.not_not, Bool.and_self, Bool.and_true, Bool.true_and, k_M_in, rb_i, in0, in1, h1, e7, e8, ia94_7 h, cl_7]
theorem l_M_copyAll (h : WF S R) {p q : Nat} (hpq : q ≠ p) (hp : ∀ k, k < 1464 → h_ia S p 0 (nI k) = true) (hq : ∀ k, k < 1464 → h_ia S q 0 (nI k) = true) {b : Nat → Int32} : ∀ (j k : Nat), k + j = 1464 → rn Ls xs d 171 2 [some (.inr (.inl (some p))), some (.inr (.inl (some q))), some (.inl (nI k))] [] (S, va_up I q (thS (I p) b k), R) = some (none, (S, va_up I q (thS (I p) b 1464), R)) := by
  intro j
  induction j with
  | zero =>
    intro k hk
    have : k = 1464 := by omega
    subst this
    rw [e_M_copyAll_2]
    simp only [e_M_copyAll_0, e_M_copyAll_1, e_M_copyAll_3, e_M_copyAll_6, e_M_copyAll_9, e_M_copyAll_10, e_M_copyAll_11, e_M_copyAll_12, e_M_copyAll_13, e_M_copyAll_14, e_M_copyAll_15, e_M_copyAll_18, e_M_copyAll_21, show ((1464 : Int32) ≤ nI 1464) by decide, and_self, and_true, true_and, and_false, false_and, or_true, true_or, or_false, false_or, not_true_eq_false, not_false_eq_true, if_true, if_false, ne_eq, ite_self, reduceCtorEq, i10, Decidable.not_not, Bool.and_self, Bool.and_true, Bool.true_and]
  | succ j ih =>
    intro k hk
    have hlt : ¬ (1464 : Int32) ≤ nI k := by rw [show (1464 : Int32) = nI 1464 from rfl, nI_le' (by decide) (by omega)]; omega
    rw [e_M_copyAll_2]
    simp only [e_M_copyAll_0, e_M_copyAll_1, e_M_copyAll_3, e_M_copyAll_6, e_M_copyAll_9, e_M_copyAll_10, e_M_copyAll_11, e_M_copyAll_12, e_M_copyAll_13, e_M_copyAll_14, e_M_copyAll_15, e_M_copyAll_18, e_M_copyAll_21, hlt, and_self, and_true, true_and, and_false, false_and, or_true, true_or, or_false, false_or, not_true_eq_false, not_false_eq_true, if_true, if_false, ne_eq, ite_self, reduceCtorEq, i10, Decidable.not_not, Bool.and_self, Bool.and_true, Bool.true_and, hp k (by omega), hq k (by omega), nI_clamp (show k < 2 ^ 31 by omega), vu_s, vu_vu, vu_n (Ne.symm hpq), thS_s, nI_1]
    exact ih (k + 1) (by omega)
theorem k_M_copyAll (h : WF S R) {p q : Nat} (hpq : q ≠ p) (hp : ∀ k, k < 1464 → h_ia S p 0 (nI k) = true) (hq : ∀ k, k < 1464 → h_ia S q 0 (nI k) = true) : rn Ls xs d 171 0 [some (.inr (.inl (some p))), some (.inr (.inl (some q))), none] [] (S, I, R) = some (none, (S, va_up I q (thS (I p) (I q) 1464), R)) := by
  have r1 := l_M_copyAll (Ls := Ls) (xs := xs) (d := d) (I := I) (b := I q) h hpq hp hq 1464 0 (by omega)
  rw [thS_0, vu_id] at r1
  have r1 : rn Ls xs d 171 2 [some (.inr (.inl (some p))), some (.inr (.inl (some q))), some (.inl 0)] [] (S, I, R) = _ := r1
  simp only [e_M_copyAll_0, e_M_copyAll_1, r1]
def sp_keep (A : mI) : Int32 × mI := (A 94 1, va_up (va_up A 95 (thS (A 94) (A 95) 1464)) 93 (upd (A 93) 3 1))
theorem o_M_keep (h : WF S R) (hm : MR I A) : ∃ I2, MR I2 (sp_keep A).2 ∧ rn Ls xs (d + 9) 82 0 [some (.inr (.inl (some 93)))] [] (S, I, R) = some (some (.inl (sp_keep A).1), (S, I2, R)) := by
  have h3 := ((hm.up 95 (thS (I 94) (I 95) 1464) (by decide)).fld 3 1)
  rw [vu_n (show 93 ≠ 95 by decide), vu_n (show 93 ≠ 95 by decide)] at h3
  refine ⟨va_up (va_up I 95 (thS (I 94) (I 95) 1464)) 93 (upd (I 93) 3 1), ?_, ?_⟩
  · unfold sp_keep
    rw [hm.now, hm.img] at h3
    rw [hm.now, hm.img]
    exact h3
  · unfold sp_keep
    simp only [e_M_keep_0, e_M_keep_1, e_M_keep_4, e_M_keep_5, e_M_keep_8, e_M_keep_11, e_M_keep_12, e_M_keep_13, e_M_keep_16, e_M_keep_17, e_M_keep_20, e_M_keep_21, e_M_keep_22, is_93 h, rf_93_0 h, rf_93_1 h, and_self, and_true, true_and, and_false, false_and, or_true, true_or, or_false, false_or, not_true_eq_false, not_false_eq_true, if_true, if_false, ne_eq, ite_self, reduceCtorEq, i10, Decidable.not_not, Bool.and_self, Bool.and_true, Bool.true_and, k_M_copyAll h (p := 94) (q := 95) (by decide) (fun k hk => ia_94 h hk) (fun k hk => ia_95 h hk), rb_v, bo_1, ia94_1 h, cl_1, vu_n (show 94 ≠ 93 by decide), vu_n (show 94 ≠ 95 by decide), vu_n (show 93 ≠ 95 by decide), hm.now]
def sp_back (A : mI) : Int32 × mI := if A 93 3 = 0 then (-1000000002, A) else (thS (A 95) (A 94) 1464 1, va_up A 94 (thS (A 95) (A 94) 1464))
theorem o_M_back (h : WF S R) (hm : MR I A) : ∃ I2, MR I2 (sp_back A).2 ∧ rn Ls xs (d + 9) 84 0 [some (.inr (.inl (some 93)))] [] (S, I, R) = some (some (.inl (sp_back A).1), (S, I2, R)) := by
  have e := hm.f3
  unfold sp_back
  by_cases h1 : A 93 3 = 0
  · exact ⟨I, by simp only [h1, and_self, and_true, true_and, and_false, false_and, or_true, true_or, or_false, false_or, not_true_eq_false, not_false_eq_true, if_true, if_false, ne_eq, ite_self, reduceCtorEq, i10, Decidable.not_not, Bool.and_self, Bool.and_true, Bool.true_and]; exact hm, by simp only [e_M_back_0, e_M_back_1, e_M_back_4, e_M_back_7, e_M_back_9, e_M_back_10, e_M_back_11, e_M_back_14, e_M_back_15, e_M_back_18, e_M_back_21, e_M_back_22, e_M_back_25, e_M_back_26, e_M_back_27, is_93 h, and_self, and_true, true_and, and_false, false_and, or_true, true_or, or_false, false_or, not_true_eq_false, not_false_eq_true, if_true, if_false, ne_eq, ite_self, reduceCtorEq, i10, Decidable.not_not, Bool.and_self, Bool.and_true, Bool.true_and, e, h1]⟩
  · refine ⟨va_up I 94 (thS (I 95) (I 94) 1464), ?_, ?_⟩
    · simp only [h1, and_self, and_true, true_and, and_false, false_and, or_true, true_or, or_false, false_or, not_true_eq_false, not_false_eq_true, if_true, if_false, ne_eq, ite_self, reduceCtorEq, i10, Decidable.not_not, Bool.and_self, Bool.and_true, Bool.true_and]
      rw [hm.now, hm.img]
      exact hm.up 94 _ (by decide)
    · simp only [e_M_back_0, e_M_back_1, e_M_back_4, e_M_back_7, e_M_back_9, e_M_back_10, e_M_back_11, e_M_back_14, e_M_back_15, e_M_back_18, e_M_back_21, e_M_back_22, e_M_back_25, e_M_back_26, e_M_back_27, is_93 h, rf_93_0 h, rf_93_1 h, and_self, and_true, true_and, and_false, false_and, or_true, true_or, or_false, false_or, not_true_eq_false, not_false_eq_true, if_true, if_false, ne_eq, ite_self, reduceCtorEq, i10, Decidable.not_not, Bool.and_self, Bool.and_true, Bool.true_and, e, h1, k_M_copyAll h (p := 95) (q := 94) (by decide) (fun k hk => ia_95 h hk) (fun k hk => ia_94 h hk), rb_v, ia94_1 h, cl_1, vu_s, hm.now, hm.img]
def sp_count (A : mI) (x : Int32) : Int32 × mI := (if x = 0 then A 94 1 else if x = 1 then A 94 2 else if x = 2 then A 94 3 else if x = 3 then upsS (A 94) 0 0 (cW (A 94 1)) 0 else if x = 4 then A 94 7 else if x = 5 then A 93 35 else if x = 6 then A 93 9 else if x = 7 then A 94 0 else BADi, A)
theorem o_M_count (h : WF S R) (hm : MR I A) (hr : rwOK (A 94)) : ∃ I2, MR I2 (sp_count A x).2 ∧ rn Ls xs (d + 9) 86 0 [some (.inr (.inl (some 93))), some (.inl x)] [] (S, I, R) = some (some (.inl (sp_count A x).1), (S, I2, R)) := by
  have hr2 : rwOK (I 94) := by rw [hm.now]; exact hr
  refine ⟨I, hm, ?_⟩
  unfold sp_count
  simp only [e_M_count_0, e_M_count_1, e_M_count_48, e_M_count_49, e_M_count_52, e_M_count_53, e_M_count_54, e_M_count_55, e_M_count_56, e_M_count_59, e_M_count_60, e_M_count_61, e_M_count_62, e_M_count_63, e_M_count_66, e_M_count_67, e_M_count_68, e_M_count_69, e_M_count_70, e_M_count_71, e_M_count_74, e_M_count_75, e_M_count_76, e_M_count_79, e_M_count_81, e_M_count_82, e_M_count_83, e_M_count_84, e_M_count_87, e_M_count_88, e_M_count_89, e_M_count_92, e_M_count_93, e_M_count_94, e_M_count_97, e_M_count_98, e_M_count_99, e_M_count_100, e_M_count_102, is_93 h, rf_93_0 h, and_self, and_true, true_and, and_false, false_and, or_true, true_or, or_false, false_or, not_true_eq_false, not_false_eq_true, if_true, if_false, ne_eq, ite_self, reduceCtorEq, i10, Decidable.not_not, Bool.and_self, Bool.and_true, Bool.true_and, ia94_0 h, ia94_1 h, ia94_2 h, ia94_3 h, ia94_7 h, cl_0, cl_1, cl_2, cl_3, cl_7, k_M_ups h hr2, rb_i, it_i, hm.now, hm.f35, hm.f9]
theorem f2_i (a b c : Int32) (q : Nat → Int32) : ∀ i, i < 3 → upd (upd q 0 a) 1 b i = if i = 0 then a else if i = 1 then b else q 2 := by
  intro i hi
  rcases (show i = 0 ∨ i = 1 ∨ i = 2 by omega) with rfl | rfl | rfl <;> simp [upd]
end MT8

/-! THE REFERENCE's calls. The abstract state A: the rows that are seen later, at the reference's own addresses -/
def MR (I A : mI) : Prop := (∀ b, 94 ≤ b → b ≤ 95 → I b = A b) ∧ I 101 = A 101 ∧ (∀ b, 109 ≤ b → b ≤ 115 → I b = A b) ∧ I 117 = A 117 ∧ I 93 3 = A 93 3 ∧ I 93 9 = A 93 9 ∧ I 93 35 = A 93 35 ∧ ∀ b, (b < 93 ∨ 117 < b ∨ b = 102 ∨ b = 103) → I b = A b
theorem MR.now {I A : mI} (h : MR I A) : I 94 = A 94 := h.1 94 (by decide) (by decide)
theorem MR.img {I A : mI} (h : MR I A) : I 95 = A 95 := h.1 95 (by decide) (by decide)
/-- a seen row is written on both sides -/
theorem MR.up {I A : mI} (h : MR I A) (b : Nat) (f : Nat → Int32) (hb : b ≠ 93) : MR (va_up I b f) (va_up A b f) := by
  have g : ∀ c, I c = A c → va_up I b f c = va_up A b f c := by
    intro c hc
    by_cases e : c = b
    · subst e; rw [vu_s, vu_s]
    · rw [vu_n e, vu_n e, hc]
  exact ⟨fun c h1 h2 => g c (h.1 c h1 h2), g _ h.2.1, fun c h1 h2 => g c (h.2.2.1 c h1 h2), g _ h.2.2.2.1, by rw [vu_n (Ne.symm hb), vu_n (Ne.symm hb)]; exact h.2.2.2.2.1, by rw [vu_n (Ne.symm hb), vu_n (Ne.symm hb)]; exact h.2.2.2.2.2.1, by rw [vu_n (Ne.symm hb), vu_n (Ne.symm hb)]; exact h.2.2.2.2.2.2.1, fun c h1 => g c (h.2.2.2.2.2.2.2 c h1)⟩
/-- a row that isn't seen is written -/
theorem MR.hid {I A : mI} (h : MR I A) {b : Nat} {f : Nat → Int32} (hb : 96 ≤ b ∧ b ≤ 116 ∧ b ≠ 101 ∧ b ≠ 102 ∧ b ≠ 103 ∧ (b < 109 ∨ 115 < b)) : MR (va_up I b f) A :=
  ⟨fun c h1 h2 => by rw [vu_n (by omega)]; exact h.1 c h1 h2, by rw [vu_n (by omega)]; exact h.2.1, fun c h1 h2 => by rw [vu_n (by omega)]; exact h.2.2.1 c h1 h2, by rw [vu_n (by omega)]; exact h.2.2.2.1, by rw [vu_n (by omega)]; exact h.2.2.2.2.1, by rw [vu_n (by omega)]; exact h.2.2.2.2.2.1, by rw [vu_n (by omega)]; exact h.2.2.2.2.2.2.1, fun c h1 => by rw [vu_n (by omega)]; exact h.2.2.2.2.2.2.2 c h1⟩
/-- scratch changes nothing that is seen -/
theorem MR.sm {I I2 A : mI} (h : MR I A) (s : Sm I I2) : MR I2 A :=
  ⟨fun c h1 h2 => (s c (by omega) (by omega)).trans (h.1 c h1 h2), (s _ (by decide) (by decide)).trans h.2.1, fun c h1 h2 => (s c (by omega) (by omega)).trans (h.2.2.1 c h1 h2), (s _ (by decide) (by decide)).trans h.2.2.2.1, by rw [s 93 (by decide) (by decide)]; exact h.2.2.2.2.1, by rw [s 93 (by decide) (by decide)]; exact h.2.2.2.2.2.1, by rw [s 93 (by decide) (by decide)]; exact h.2.2.2.2.2.2.1, fun c h1 => (s c (by omega) (by omega)).trans (h.2.2.2.2.2.2.2 c h1)⟩
theorem isW {x : Int32} {n : Nat} (hn : n ≤ 14) (h : 0 ≤ x ∧ x ≤ nI n - 1) : ∃ w, w < n ∧ x = nI w := by
  obtain ⟨h1, h2⟩ := h
  rw [i_le] at h1 h2
  have e : (nI n - 1).toInt = (n : Int) - 1 := pk_sub_toInt (b := 1) (by omega) (by decide)
  rw [e] at h2
  obtain ⟨w, hw, e⟩ := vp_in_of (x := x) (n := n) (r_vin (by simpa using h1) (by omega)) (by omega)
  exact ⟨w, hw, e⟩
theorem in0 {c : Prop} [Decidable c] : ((if c then (1 : Int32) else 0) = 0) = ¬ c := by by_cases h : c <;> simp [h]
theorem in1 {c : Prop} [Decidable c] : ((if c then (1 : Int32) else 0) ≠ 0) = c := by by_cases h : c <;> simp [h]
theorem i10 : ((1 : Int32) = 0) = False := by simp
abbrev BADi : Int32 := -1000000001
section MT4
variable {Ls : Nat} {xs : Nat → Int32} {d : Nat} {S : mS} {I A : mI} {R : mR} {x y z u v : Int32}
abbrev okWr (k ht p pc m : Int32) : Prop := (0 ≤ k ∧ k ≤ 5) ∧ (0 ≤ ht ∧ ht ≤ 7) ∧ (0 ≤ p ∧ p ≤ 29) ∧ ((-9) ≤ pc ∧ pc ≤ 9) ∧ (1 ≤ m ∧ m ≤ 99)
theorem k_M_isOf_1 {H : mH} : rn Ls xs (d + 1) 98 0 [some (.inl 1), some (.inl x)] [] H = some (some (.inl (if 0 ≤ x ∧ x ≤ 7 then 1 else 0)), H) := by rw [k_M_isOf]; rfl
theorem k_M_isOf_2 {H : mH} : rn Ls xs (d + 1) 98 0 [some (.inl 2), some (.inl x)] [] H = some (some (.inl (if 0 ≤ x ∧ x ≤ 29 then 1 else 0)), H) := by rw [k_M_isOf]; rfl
theorem k_M_isOf_3 {H : mH} : rn Ls xs (d + 1) 98 0 [some (.inl 3), some (.inl x)] [] H = some (some (.inl (if (-9) ≤ x ∧ x ≤ 9 then 1 else 0)), H) := by rw [k_M_isOf]; rfl
theorem k_M_isOf_4 {H : mH} : rn Ls xs (d + 1) 98 0 [some (.inl 4), some (.inl x)] [] H = some (some (.inl (if 1 ≤ x ∧ x ≤ 99 then 1 else 0)), H) := by rw [k_M_isOf]; rfl
def sp_wreck (A : mI) (x y z u v : Int32) : Int32 × mI := if okWr x y z u v then (if A 94 1 = 14 then (-1000000003, A) else (A 94 1, va_up A 94 (comesS (A 94) (A 94 1).toNatClampNeg x y z u v))) else (BADi, A)
theorem o_M_wreck (h : WF S R) (hm : MR I A) (hr : rwOK (A 94)) : ∃ I2, MR I2 (sp_wreck A x y z u v).2 ∧ rn Ls xs (d + 9) 4 0 [some (.inr (.inl (some 93))), some (.inl x), some (.inl y), some (.inl z), some (.inl u), some (.inl v)] [] (S, I, R) = some (some (.inl (sp_wreck A x y z u v).1), (S, I2, R)) := by
  obtain ⟨n, hn, e1⟩ := hr.1
  have e2 : I 94 1 = nI n := by rw [hm.now, e1]
  unfold sp_wreck
  simp only [e_M_wreck_0, e_M_wreck_1, e_M_wreck_2, e_M_wreck_3, e_M_wreck_6, e_M_wreck_9, e_M_wreck_10, e_M_wreck_11, e_M_wreck_14, e_M_wreck_17, e_M_wreck_18, e_M_wreck_19, e_M_wreck_22, e_M_wreck_25, e_M_wreck_26, e_M_wreck_28, e_M_wreck_31, e_M_wreck_34, e_M_wreck_35, e_M_wreck_37, e_M_wreck_40, e_M_wreck_43, e_M_wreck_45, e_M_wreck_46, e_M_wreck_47, e_M_wreck_50, e_M_wreck_51, e_M_wreck_52, e_M_wreck_54, e_M_wreck_57, e_M_wreck_59, e_M_wreck_62, e_M_wreck_63, e_M_wreck_64, e_M_wreck_65, e_M_wreck_66, e_M_wreck_68, e_M_wreck_70, e_M_wreck_73, k_M_in, k_M_isOf_1, k_M_isOf_2, k_M_isOf_3, k_M_isOf_4, rb_i, in0, in1, is_93 h, rf_93_0 h, if_true, ia94_1 h, cl_1, e2, e1, okWr]
  by_cases h1 : 0 ≤ x ∧ x ≤ 5
  · by_cases h2 : 0 ≤ y ∧ y ≤ 7
    · by_cases h3 : 0 ≤ z ∧ z ≤ 29
      · by_cases h4 : (-9) ≤ u ∧ u ≤ 9
        · by_cases h5 : 1 ≤ v ∧ v ≤ 99
          · by_cases h6 : n = 14
            · subst h6
              exact ⟨I, by simp only [h1, h2, h3, h4, h5, and_self, and_true, true_and, and_false, false_and, or_true, true_or, or_false, false_or, not_true_eq_false, not_false_eq_true, if_true, if_false, ne_eq, ite_self, reduceCtorEq, i10, Decidable.not_not, Bool.and_self, Bool.and_true, Bool.true_and]; exact hm, by simp only [h1, h2, h3, h4, h5, and_self, and_true, true_and, and_false, false_and, or_true, true_or, or_false, false_or, not_true_eq_false, not_false_eq_true, if_true, if_false, ne_eq, ite_self, reduceCtorEq, i10, Decidable.not_not, Bool.and_self, Bool.and_true, Bool.true_and, show nI 14 = 14 from rfl]⟩
            · have h7 : ¬ nI n = 14 := fun q => h6 ((nI_eq (by omega) (by decide)).mp q)
              refine ⟨va_up I 94 (comesS (I 94) n x y z u v), ?_, ?_⟩
              · simp only [h1, h2, h3, h4, h5, and_self, and_true, true_and, and_false, false_and, or_true, true_or, or_false, false_or, not_true_eq_false, not_false_eq_true, if_true, if_false, ne_eq, ite_self, reduceCtorEq, i10, Decidable.not_not, Bool.and_self, Bool.and_true, Bool.true_and, h7, nI_clamp (show n < 2 ^ 31 by omega), ← hm.now]
                exact hm.up 94 _ (by decide)
              · simp only [h1, h2, h3, h4, h5, and_self, and_true, true_and, and_false, false_and, or_true, true_or, or_false, false_or, not_true_eq_false, not_false_eq_true, if_true, if_false, ne_eq, ite_self, reduceCtorEq, i10, Decidable.not_not, Bool.and_self, Bool.and_true, Bool.true_and, h7, k_M_comes h (show n < 14 by omega) e2, rb_i, e_M_wreck_0, e_M_wreck_1, e_M_wreck_2, e_M_wreck_3, e_M_wreck_6, e_M_wreck_9, e_M_wreck_10, e_M_wreck_11, e_M_wreck_14, e_M_wreck_17, e_M_wreck_18, e_M_wreck_19, e_M_wreck_22, e_M_wreck_25, e_M_wreck_26, e_M_wreck_28, e_M_wreck_31, e_M_wreck_34, e_M_wreck_35, e_M_wreck_37, e_M_wreck_40, e_M_wreck_43, e_M_wreck_45, e_M_wreck_46, e_M_wreck_47, e_M_wreck_50, e_M_wreck_51, e_M_wreck_52, e_M_wreck_54, e_M_wreck_57, e_M_wreck_59, e_M_wreck_62, e_M_wreck_63, e_M_wreck_64, e_M_wreck_65, e_M_wreck_66, e_M_wreck_68, e_M_wreck_70, e_M_wreck_73]
          · exact ⟨I, by simp only [h5, and_self, and_true, true_and, and_false, false_and, or_true, true_or, or_false, false_or, not_true_eq_false, not_false_eq_true, if_true, if_false, ne_eq, ite_self, reduceCtorEq, i10, Decidable.not_not, Bool.and_self, Bool.and_true, Bool.true_and]; exact hm, by simp only [h1, h2, h3, h4, h5, and_self, and_true, true_and, and_false, false_and, or_true, true_or, or_false, false_or, not_true_eq_false, not_false_eq_true, if_true, if_false, ne_eq, ite_self, reduceCtorEq, i10, Decidable.not_not, Bool.and_self, Bool.and_true, Bool.true_and]⟩
        · exact ⟨I, by simp only [h4, and_self, and_true, true_and, and_false, false_and, or_true, true_or, or_false, false_or, not_true_eq_false, not_false_eq_true, if_true, if_false, ne_eq, ite_self, reduceCtorEq, i10, Decidable.not_not, Bool.and_self, Bool.and_true, Bool.true_and]; exact hm, by simp only [h1, h2, h3, h4, and_self, and_true, true_and, and_false, false_and, or_true, true_or, or_false, false_or, not_true_eq_false, not_false_eq_true, if_true, if_false, ne_eq, ite_self, reduceCtorEq, i10, Decidable.not_not, Bool.and_self, Bool.and_true, Bool.true_and]⟩
      · exact ⟨I, by simp only [h3, and_self, and_true, true_and, and_false, false_and, or_true, true_or, or_false, false_or, not_true_eq_false, not_false_eq_true, if_true, if_false, ne_eq, ite_self, reduceCtorEq, i10, Decidable.not_not, Bool.and_self, Bool.and_true, Bool.true_and]; exact hm, by simp only [h1, h2, h3, and_self, and_true, true_and, and_false, false_and, or_true, true_or, or_false, false_or, not_true_eq_false, not_false_eq_true, if_true, if_false, ne_eq, ite_self, reduceCtorEq, i10, Decidable.not_not, Bool.and_self, Bool.and_true, Bool.true_and]⟩
    · exact ⟨I, by simp only [h2, and_self, and_true, true_and, and_false, false_and, or_true, true_or, or_false, false_or, not_true_eq_false, not_false_eq_true, if_true, if_false, ne_eq, ite_self, reduceCtorEq, i10, Decidable.not_not, Bool.and_self, Bool.and_true, Bool.true_and]; exact hm, by simp only [h1, h2, and_self, and_true, true_and, and_false, false_and, or_true, true_or, or_false, false_or, not_true_eq_false, not_false_eq_true, if_true, if_false, ne_eq, ite_self, reduceCtorEq, i10, Decidable.not_not, Bool.and_self, Bool.and_true, Bool.true_and]⟩
  · exact ⟨I, by simp only [h1, and_self, and_true, true_and, and_false, false_and, or_true, true_or, or_false, false_or, not_true_eq_false, not_false_eq_true, if_true, if_false, ne_eq, ite_self, reduceCtorEq, i10, Decidable.not_not, Bool.and_self, Bool.and_true, Bool.true_and]; exact hm, by simp only [h1, and_self, and_true, true_and, and_false, false_and, or_true, true_or, or_false, false_or, not_true_eq_false, not_false_eq_true, if_true, if_false, ne_eq, ite_self, reduceCtorEq, i10, Decidable.not_not, Bool.and_self, Bool.and_true, Bool.true_and]⟩
abbrev isWr (A : mI) (x : Int32) : Prop := 0 ≤ x ∧ x ≤ A 94 1 - 1
abbrev cW (x : Int32) : Nat := x.toNatClampNeg
def sp_told (A : mI) (x y : Int32) : Int32 × mI := (if isWr A x then (if y = 0 then A 94 (8 + 6 * cW x) else if y = 1 then A 94 (8 + 6 * cW x + 1) else if y = 2 then A 94 (8 + 6 * cW x + 2) else if y = 3 then A 94 (8 + 6 * cW x + 3) else if y = 4 then A 94 (8 + 6 * cW x + 4) else if y = 5 then A 94 (8 + 6 * cW x + 5) else if y = 6 then hardS (A 94) (cW x) else if y = 7 then goesS (A 94) (cW x) else if y = 8 then worthS (A 94) (cW x) else BADi) else BADi, A)
theorem o_M_told (h : WF S R) (hm : MR I A) (hr : rwOK (A 94)) : ∃ I2, MR I2 (sp_told A x y).2 ∧ rn Ls xs (d + 9) 6 0 [some (.inr (.inl (some 93))), some (.inl x), some (.inl y)] [] (S, I, R) = some (some (.inl (sp_told A x y).1), (S, I2, R)) := by
  obtain ⟨n, hn, e1⟩ := hr.1
  have e2 : I 94 1 = nI n := by rw [hm.now, e1]
  unfold sp_told
  by_cases h1 : isWr A x
  · obtain ⟨w, hw, rfl⟩ := isW hn (by rw [← e1]; exact h1)
    have hw14 : w < 14 := by omega
    have h2 : 0 ≤ nI w ∧ nI w ≤ nI n - 1 := by rw [isWr, e1] at h1; exact h1
    simp only [isWr, e1, h2, and_self, and_true, true_and, and_false, false_and, or_true, true_or, or_false, false_or, not_true_eq_false, not_false_eq_true, if_true, if_false, ne_eq, ite_self, reduceCtorEq, i10, Decidable.not_not, Bool.and_self, Bool.and_true, Bool.true_and, nI_clamp (show w < 2 ^ 31 by omega), ← hm.now]
    by_cases h6 : y = 6
    · obtain ⟨I2, s2, r2⟩ := k_M_hardOf (Ls := Ls) (xs := xs) (d := d + 6) h hw14 (show txOK (I 94) by rw [hm.now]; exact hr.2)
      refine ⟨I2, hm.sm s2, ?_⟩
      subst h6
      simp only [e_M_told_0, e_M_told_1, e_M_told_2, e_M_told_5, e_M_told_8, e_M_told_10, e_M_told_11, e_M_told_12, e_M_told_64, e_M_told_65, e_M_told_66, e_M_told_67, e_M_told_70, e_M_told_71, e_M_told_72, e_M_told_73, e_M_told_76, e_M_told_77, e_M_told_78, e_M_told_79, e_M_told_82, e_M_told_83, e_M_told_84, e_M_told_85, e_M_told_88, e_M_told_89, e_M_told_91, k_M_isWreck h hn e2, rb_i, in1, is_93 h, r2, h2, and_self, and_true, true_and, and_false, false_and, or_true, true_or, or_false, false_or, not_true_eq_false, not_false_eq_true, if_true, if_false, ne_eq, ite_self, reduceCtorEq, i10, Decidable.not_not, Bool.and_self, Bool.and_true, Bool.true_and, show ¬ (6 : Int32) = 0 by decide, show ¬ (6 : Int32) = 1 by decide, show ¬ (6 : Int32) = 2 by decide, show ¬ (6 : Int32) = 3 by decide, show ¬ (6 : Int32) = 4 by decide, show ¬ (6 : Int32) = 5 by decide]
    · refine ⟨I, hm, ?_⟩
      simp only [e_M_told_0, e_M_told_1, e_M_told_2, e_M_told_5, e_M_told_8, e_M_told_10, e_M_told_11, e_M_told_12, e_M_told_64, e_M_told_65, e_M_told_66, e_M_told_67, e_M_told_70, e_M_told_71, e_M_told_72, e_M_told_73, e_M_told_76, e_M_told_77, e_M_told_78, e_M_told_79, e_M_told_82, e_M_told_83, e_M_told_84, e_M_told_85, e_M_told_88, e_M_told_89, e_M_told_91, k_M_isWreck h hn e2, rb_i, in1, is_93 h, h2, and_self, and_true, true_and, and_false, false_and, or_true, true_or, or_false, false_or, not_true_eq_false, not_false_eq_true, if_true, if_false, ne_eq, ite_self, reduceCtorEq, i10, Decidable.not_not, Bool.and_self, Bool.and_true, Bool.true_and, h6, k_M_goesOf h hw14, k_M_worthOf h hw14]
      by_cases g0 : y = 0
      · subst g0; simp only [k_M_of_0 h hw14, rb_i, e_M_told_0, e_M_told_1, e_M_told_2, e_M_told_5, e_M_told_8, e_M_told_10, e_M_told_11, e_M_told_12, e_M_told_64, e_M_told_65, e_M_told_66, e_M_told_67, e_M_told_70, e_M_told_71, e_M_told_72, e_M_told_73, e_M_told_76, e_M_told_77, e_M_told_78, e_M_told_79, e_M_told_82, e_M_told_83, e_M_told_84, e_M_told_85, e_M_told_88, e_M_told_89, e_M_told_91, and_self, and_true, true_and, and_false, false_and, or_true, true_or, or_false, false_or, not_true_eq_false, not_false_eq_true, if_true, if_false, ne_eq, ite_self, reduceCtorEq, i10, Decidable.not_not, Bool.and_self, Bool.and_true, Bool.true_and]
      · by_cases g1 : y = 1
        · subst g1; simp only [k_M_of_1 h hw14, rb_i, e_M_told_0, e_M_told_1, e_M_told_2, e_M_told_5, e_M_told_8, e_M_told_10, e_M_told_11, e_M_told_12, e_M_told_64, e_M_told_65, e_M_told_66, e_M_told_67, e_M_told_70, e_M_told_71, e_M_told_72, e_M_told_73, e_M_told_76, e_M_told_77, e_M_told_78, e_M_told_79, e_M_told_82, e_M_told_83, e_M_told_84, e_M_told_85, e_M_told_88, e_M_told_89, e_M_told_91, and_self, and_true, true_and, and_false, false_and, or_true, true_or, or_false, false_or, not_true_eq_false, not_false_eq_true, if_true, if_false, ne_eq, ite_self, reduceCtorEq, i10, Decidable.not_not, Bool.and_self, Bool.and_true, Bool.true_and, g0]
        · by_cases g2 : y = 2
          · subst g2; simp only [k_M_of_2 h hw14, rb_i, e_M_told_0, e_M_told_1, e_M_told_2, e_M_told_5, e_M_told_8, e_M_told_10, e_M_told_11, e_M_told_12, e_M_told_64, e_M_told_65, e_M_told_66, e_M_told_67, e_M_told_70, e_M_told_71, e_M_told_72, e_M_told_73, e_M_told_76, e_M_told_77, e_M_told_78, e_M_told_79, e_M_told_82, e_M_told_83, e_M_told_84, e_M_told_85, e_M_told_88, e_M_told_89, e_M_told_91, and_self, and_true, true_and, and_false, false_and, or_true, true_or, or_false, false_or, not_true_eq_false, not_false_eq_true, if_true, if_false, ne_eq, ite_self, reduceCtorEq, i10, Decidable.not_not, Bool.and_self, Bool.and_true, Bool.true_and, g0, g1]
          · by_cases g3 : y = 3
            · subst g3; simp only [k_M_of_3 h hw14, rb_i, e_M_told_0, e_M_told_1, e_M_told_2, e_M_told_5, e_M_told_8, e_M_told_10, e_M_told_11, e_M_told_12, e_M_told_64, e_M_told_65, e_M_told_66, e_M_told_67, e_M_told_70, e_M_told_71, e_M_told_72, e_M_told_73, e_M_told_76, e_M_told_77, e_M_told_78, e_M_told_79, e_M_told_82, e_M_told_83, e_M_told_84, e_M_told_85, e_M_told_88, e_M_told_89, e_M_told_91, and_self, and_true, true_and, and_false, false_and, or_true, true_or, or_false, false_or, not_true_eq_false, not_false_eq_true, if_true, if_false, ne_eq, ite_self, reduceCtorEq, i10, Decidable.not_not, Bool.and_self, Bool.and_true, Bool.true_and, g0, g1, g2]
            · by_cases g4 : y = 4
              · subst g4; simp only [k_M_of_4 h hw14, rb_i, e_M_told_0, e_M_told_1, e_M_told_2, e_M_told_5, e_M_told_8, e_M_told_10, e_M_told_11, e_M_told_12, e_M_told_64, e_M_told_65, e_M_told_66, e_M_told_67, e_M_told_70, e_M_told_71, e_M_told_72, e_M_told_73, e_M_told_76, e_M_told_77, e_M_told_78, e_M_told_79, e_M_told_82, e_M_told_83, e_M_told_84, e_M_told_85, e_M_told_88, e_M_told_89, e_M_told_91, and_self, and_true, true_and, and_false, false_and, or_true, true_or, or_false, false_or, not_true_eq_false, not_false_eq_true, if_true, if_false, ne_eq, ite_self, reduceCtorEq, i10, Decidable.not_not, Bool.and_self, Bool.and_true, Bool.true_and, g0, g1, g2, g3]
              · by_cases g5 : y = 5
                · subst g5; simp only [k_M_of_5 h hw14, rb_i, e_M_told_0, e_M_told_1, e_M_told_2, e_M_told_5, e_M_told_8, e_M_told_10, e_M_told_11, e_M_told_12, e_M_told_64, e_M_told_65, e_M_told_66, e_M_told_67, e_M_told_70, e_M_told_71, e_M_told_72, e_M_told_73, e_M_told_76, e_M_told_77, e_M_told_78, e_M_told_79, e_M_told_82, e_M_told_83, e_M_told_84, e_M_told_85, e_M_told_88, e_M_told_89, e_M_told_91, and_self, and_true, true_and, and_false, false_and, or_true, true_or, or_false, false_or, not_true_eq_false, not_false_eq_true, if_true, if_false, ne_eq, ite_self, reduceCtorEq, i10, Decidable.not_not, Bool.and_self, Bool.and_true, Bool.true_and, g0, g1, g2, g3, g4]
                · simp only [g0, g1, g2, g3, g4, g5, and_self, and_true, true_and, and_false, false_and, or_true, true_or, or_false, false_or, not_true_eq_false, not_false_eq_true, if_true, if_false, ne_eq, ite_self, reduceCtorEq, i10, Decidable.not_not, Bool.and_self, Bool.and_true, Bool.true_and, it_i]
  · refine ⟨I, hm, ?_⟩
    rw [isWr, e1] at h1
    simp only [isWr, e1, h1, and_self, and_true, true_and, and_false, false_and, or_true, true_or, or_false, false_or, not_true_eq_false, not_false_eq_true, if_true, if_false, ne_eq, ite_self, reduceCtorEq, i10, Decidable.not_not, Bool.and_self, Bool.and_true, Bool.true_and, e_M_told_0, e_M_told_1, e_M_told_2, e_M_told_5, e_M_told_8, e_M_told_10, e_M_told_11, e_M_told_12, e_M_told_64, e_M_told_65, e_M_told_66, e_M_told_67, e_M_told_70, e_M_told_71, e_M_told_72, e_M_told_73, e_M_told_76, e_M_told_77, e_M_told_78, e_M_told_79, e_M_told_82, e_M_told_83, e_M_told_84, e_M_told_85, e_M_told_88, e_M_told_89, e_M_told_91, k_M_isWreck h hn e2, rb_i, in1, is_93 h]
def sp_as (A : mI) (x y : Int32) : Int32 × mI := (if isWr A x ∧ 0 ≤ y ∧ y ≤ 5 then (if y = 0 ∨ A 94 (8 + 6 * cW x) = y ∨ (y = 1 ∧ A 94 (8 + 6 * cW x) = 3) ∨ (y = 2 ∧ A 94 (8 + 6 * cW x) = 4) then A 94 (8 + 6 * cW x + 4) else -1000000012) else BADi, A)
theorem o_M_as (h : WF S R) (hm : MR I A) (hr : rwOK (A 94)) : ∃ I2, MR I2 (sp_as A x y).2 ∧ rn Ls xs (d + 9) 8 0 [some (.inr (.inl (some 93))), some (.inl x), some (.inl y)] [] (S, I, R) = some (some (.inl (sp_as A x y).1), (S, I2, R)) := by
  obtain ⟨n, hn, e1⟩ := hr.1
  have e2 : I 94 1 = nI n := by rw [hm.now, e1]
  refine ⟨I, hm, ?_⟩
  unfold sp_as
  by_cases h1 : isWr A x
  · obtain ⟨w, hw, rfl⟩ := isW hn (by rw [← e1]; exact h1)
    have h2 : 0 ≤ nI w ∧ nI w ≤ nI n - 1 := by rw [isWr, e1] at h1; exact h1
    by_cases h3 : 0 ≤ y ∧ y ≤ 5
    · simp only [e_M_as_0, e_M_as_1, e_M_as_2, e_M_as_5, e_M_as_8, e_M_as_9, e_M_as_10, e_M_as_11, e_M_as_14, e_M_as_17, e_M_as_19, e_M_as_20, e_M_as_21, e_M_as_22, e_M_as_23, e_M_as_26, e_M_as_27, e_M_as_30, e_M_as_33, e_M_as_34, e_M_as_35, e_M_as_36, e_M_as_39, e_M_as_42, e_M_as_44, k_M_isWreck h hn e2, k_M_in, rb_i, in0, in1, is_93 h, isWr, e1, e2, h2, h3, and_self, and_true, true_and, and_false, false_and, or_true, true_or, or_false, false_or, not_true_eq_false, not_false_eq_true, if_true, if_false, ne_eq, ite_self, reduceCtorEq, i10, Decidable.not_not, Bool.and_self, Bool.and_true, Bool.true_and, nI_clamp (show w < 2 ^ 31 by omega), ← hm.now, k_M_of_0 h (show w < 14 by omega), k_M_of_4 h (show w < 14 by omega), k_M_isUnder, it_i, ite_not]
    · simp only [e_M_as_0, e_M_as_1, e_M_as_2, e_M_as_5, e_M_as_8, e_M_as_9, e_M_as_10, e_M_as_11, e_M_as_14, e_M_as_17, e_M_as_19, e_M_as_20, e_M_as_21, e_M_as_22, e_M_as_23, e_M_as_26, e_M_as_27, e_M_as_30, e_M_as_33, e_M_as_34, e_M_as_35, e_M_as_36, e_M_as_39, e_M_as_42, e_M_as_44, k_M_isWreck h hn e2, k_M_in, rb_i, in0, in1, is_93 h, isWr, e1, e2, h2, h3, and_self, and_true, true_and, and_false, false_and, or_true, true_or, or_false, false_or, not_true_eq_false, not_false_eq_true, if_true, if_false, ne_eq, ite_self, reduceCtorEq, i10, Decidable.not_not, Bool.and_self, Bool.and_true, Bool.true_and]
  · have h2 : ¬ (0 ≤ x ∧ x ≤ nI n - 1) := by rw [isWr, e1] at h1; exact h1
    simp only [e_M_as_0, e_M_as_1, e_M_as_2, e_M_as_5, e_M_as_8, e_M_as_9, e_M_as_10, e_M_as_11, e_M_as_14, e_M_as_17, e_M_as_19, e_M_as_20, e_M_as_21, e_M_as_22, e_M_as_23, e_M_as_26, e_M_as_27, e_M_as_30, e_M_as_33, e_M_as_34, e_M_as_35, e_M_as_36, e_M_as_39, e_M_as_42, e_M_as_44, k_M_isWreck h hn e2, k_M_in, rb_i, in0, in1, is_93 h, isWr, e1, e2, h2, and_self, and_true, true_and, and_false, false_and, or_true, true_or, or_false, false_or, not_true_eq_false, not_false_eq_true, if_true, if_false, ne_eq, ite_self, reduceCtorEq, i10, Decidable.not_not, Bool.and_self, Bool.and_true, Bool.true_and]
def sp_turns (A : mI) (x y : Int32) : Int32 × mI := if isWr A x ∧ 0 ≤ y ∧ y ≤ 5 then (A 94 (8 + 6 * cW x), va_up A 94 (upd (A 94) (8 + 6 * cW x) y)) else (BADi, A)
theorem o_M_turns (h : WF S R) (hm : MR I A) (hr : rwOK (A 94)) : ∃ I2, MR I2 (sp_turns A x y).2 ∧ rn Ls xs (d + 9) 10 0 [some (.inr (.inl (some 93))), some (.inl x), some (.inl y)] [] (S, I, R) = some (some (.inl (sp_turns A x y).1), (S, I2, R)) := by
  obtain ⟨n, hn, e1⟩ := hr.1
  have e2 : I 94 1 = nI n := by rw [hm.now, e1]
  unfold sp_turns
  by_cases h1 : isWr A x
  · obtain ⟨w, hw, rfl⟩ := isW hn (by rw [← e1]; exact h1)
    have h2 : 0 ≤ nI w ∧ nI w ≤ nI n - 1 := by rw [isWr, e1] at h1; exact h1
    by_cases h3 : 0 ≤ y ∧ y ≤ 5
    · simp only [e_M_turns_0, e_M_turns_1, e_M_turns_2, e_M_turns_5, e_M_turns_8, e_M_turns_9, e_M_turns_10, e_M_turns_11, e_M_turns_14, e_M_turns_17, e_M_turns_18, e_M_turns_20, e_M_turns_22, e_M_turns_23, e_M_turns_24, e_M_turns_25, e_M_turns_26, e_M_turns_29, e_M_turns_32, e_M_turns_34, k_M_isWreck h hn e2, k_M_in, rb_i, in0, in1, is_93 h, isWr, e1, e2, h2, h3, and_self, and_true, true_and, and_false, false_and, or_true, true_or, or_false, false_or, not_true_eq_false, not_false_eq_true, if_true, if_false, ne_eq, ite_self, reduceCtorEq, i10, Decidable.not_not, Bool.and_self, Bool.and_true, Bool.true_and, nI_clamp (show w < 2 ^ 31 by omega), ← hm.now]
      rw [show (8 : Int32) + 6 * nI w = nI (8 + 6 * w) by simp only [li, pk_mul, nI_add], k_M_becomes h (show 8 + 6 * w < 1464 by omega)]
      exact ⟨_, hm.up 94 _ (by decide), by simp only [rb_i, e_M_turns_0, e_M_turns_1, e_M_turns_2, e_M_turns_5, e_M_turns_8, e_M_turns_9, e_M_turns_10, e_M_turns_11, e_M_turns_14, e_M_turns_17, e_M_turns_18, e_M_turns_20, e_M_turns_22, e_M_turns_23, e_M_turns_24, e_M_turns_25, e_M_turns_26, e_M_turns_29, e_M_turns_32, e_M_turns_34]⟩
    · simp only [e_M_turns_0, e_M_turns_1, e_M_turns_2, e_M_turns_5, e_M_turns_8, e_M_turns_9, e_M_turns_10, e_M_turns_11, e_M_turns_14, e_M_turns_17, e_M_turns_18, e_M_turns_20, e_M_turns_22, e_M_turns_23, e_M_turns_24, e_M_turns_25, e_M_turns_26, e_M_turns_29, e_M_turns_32, e_M_turns_34, k_M_isWreck h hn e2, k_M_in, rb_i, in0, in1, is_93 h, isWr, e1, e2, h2, h3, and_self, and_true, true_and, and_false, false_and, or_true, true_or, or_false, false_or, not_true_eq_false, not_false_eq_true, if_true, if_false, ne_eq, ite_self, reduceCtorEq, i10, Decidable.not_not, Bool.and_self, Bool.and_true, Bool.true_and]
      exact ⟨I, hm, rfl⟩
  · have h2 : ¬ (0 ≤ x ∧ x ≤ nI n - 1) := by rw [isWr, e1] at h1; exact h1
    simp only [e_M_turns_0, e_M_turns_1, e_M_turns_2, e_M_turns_5, e_M_turns_8, e_M_turns_9, e_M_turns_10, e_M_turns_11, e_M_turns_14, e_M_turns_17, e_M_turns_18, e_M_turns_20, e_M_turns_22, e_M_turns_23, e_M_turns_24, e_M_turns_25, e_M_turns_26, e_M_turns_29, e_M_turns_32, e_M_turns_34, k_M_isWreck h hn e2, k_M_in, rb_i, in0, in1, is_93 h, isWr, e1, e2, h2, and_self, and_true, true_and, and_false, false_and, or_true, true_or, or_false, false_or, not_true_eq_false, not_false_eq_true, if_true, if_false, ne_eq, ite_self, reduceCtorEq, i10, Decidable.not_not, Bool.and_self, Bool.and_true, Bool.true_and]
    exact ⟨I, hm, rfl⟩
def sp_sweep (A : mI) (x : Int32) : Int32 × mI := if isWr A x then (if A 94 (8 + 6 * cW x + 5) = 1 then (A 94 (8 + 6 * cW x + 4), va_up A 94 (upd (upd (A 94) (8 + 6 * cW x + 5) 0) 6 (A 94 6 + 1))) else (-1000000002, A)) else (BADi, A)
theorem o_M_sweep (h : WF S R) (hm : MR I A) (hr : rwOK (A 94)) : ∃ I2, MR I2 (sp_sweep A x).2 ∧ rn Ls xs (d + 9) 14 0 [some (.inr (.inl (some 93))), some (.inl x)] [] (S, I, R) = some (some (.inl (sp_sweep A x).1), (S, I2, R)) := by
  obtain ⟨n, hn, e1⟩ := hr.1
  have e2 : I 94 1 = nI n := by rw [hm.now, e1]
  unfold sp_sweep
  by_cases h1 : isWr A x
  · obtain ⟨w, hw, rfl⟩ := isW hn (by rw [← e1]; exact h1)
    have hw14 : w < 14 := by omega
    have h2 : 0 ≤ nI w ∧ nI w ≤ nI n - 1 := by rw [isWr, e1] at h1; exact h1
    simp only [isWr, e1, h2, and_self, and_true, true_and, and_false, false_and, or_true, true_or, or_false, false_or, not_true_eq_false, not_false_eq_true, if_true, if_false, ne_eq, ite_self, reduceCtorEq, i10, Decidable.not_not, Bool.and_self, Bool.and_true, Bool.true_and, nI_clamp (show w < 2 ^ 31 by omega), ← hm.now]
    by_cases h3 : I 94 (8 + 6 * w + 5) = 1
    · refine ⟨_, by simp only [h3, if_true]; exact hm.up 94 _ (by decide), ?_⟩
      simp only [e_M_sweep_0, e_M_sweep_1, e_M_sweep_2, e_M_sweep_5, e_M_sweep_8, e_M_sweep_10, e_M_sweep_11, e_M_sweep_12, e_M_sweep_13, e_M_sweep_16, e_M_sweep_19, e_M_sweep_21, e_M_sweep_22, e_M_sweep_23, e_M_sweep_24, e_M_sweep_25, e_M_sweep_26, e_M_sweep_29, e_M_sweep_30, e_M_sweep_33, e_M_sweep_35, e_M_sweep_36, e_M_sweep_37, e_M_sweep_38, e_M_sweep_39, e_M_sweep_40, e_M_sweep_41, e_M_sweep_42, e_M_sweep_43, e_M_sweep_46, k_M_isWreck h hn e2, k_M_isUp h hw14, rb_i, rb_v, in0, in1, is_93 h, rf_93_0 h, h2, h3, and_self, and_true, true_and, and_false, false_and, or_true, true_or, or_false, false_or, not_true_eq_false, not_false_eq_true, if_true, if_false, ne_eq, ite_self, reduceCtorEq, i10, Decidable.not_not, Bool.and_self, Bool.and_true, Bool.true_and, k_M_put_5 h hw14, k_M_of_4 h hw14, ia94_6 h, cl_6, vu_s, vu_vu, up_n (show 6 ≠ 8 + 6 * w + 5 by omega), up_n (show 8 + 6 * w + 4 ≠ 6 by omega), up_n (show 8 + 6 * w + 4 ≠ 8 + 6 * w + 5 by omega)]
    · refine ⟨I, by simp only [h3, if_false]; exact hm, ?_⟩
      simp only [e_M_sweep_0, e_M_sweep_1, e_M_sweep_2, e_M_sweep_5, e_M_sweep_8, e_M_sweep_10, e_M_sweep_11, e_M_sweep_12, e_M_sweep_13, e_M_sweep_16, e_M_sweep_19, e_M_sweep_21, e_M_sweep_22, e_M_sweep_23, e_M_sweep_24, e_M_sweep_25, e_M_sweep_26, e_M_sweep_29, e_M_sweep_30, e_M_sweep_33, e_M_sweep_35, e_M_sweep_36, e_M_sweep_37, e_M_sweep_38, e_M_sweep_39, e_M_sweep_40, e_M_sweep_41, e_M_sweep_42, e_M_sweep_43, e_M_sweep_46, k_M_isWreck h hn e2, k_M_isUp h hw14, rb_i, in0, in1, is_93 h, h2, h3, and_self, and_true, true_and, and_false, false_and, or_true, true_or, or_false, false_or, not_true_eq_false, not_false_eq_true, if_true, if_false, ne_eq, ite_self, reduceCtorEq, i10, Decidable.not_not, Bool.and_self, Bool.and_true, Bool.true_and]
  · have h2 : ¬ (0 ≤ x ∧ x ≤ nI n - 1) := by rw [isWr, e1] at h1; exact h1
    simp only [e_M_sweep_0, e_M_sweep_1, e_M_sweep_2, e_M_sweep_5, e_M_sweep_8, e_M_sweep_10, e_M_sweep_11, e_M_sweep_12, e_M_sweep_13, e_M_sweep_16, e_M_sweep_19, e_M_sweep_21, e_M_sweep_22, e_M_sweep_23, e_M_sweep_24, e_M_sweep_25, e_M_sweep_26, e_M_sweep_29, e_M_sweep_30, e_M_sweep_33, e_M_sweep_35, e_M_sweep_36, e_M_sweep_37, e_M_sweep_38, e_M_sweep_39, e_M_sweep_40, e_M_sweep_41, e_M_sweep_42, e_M_sweep_43, e_M_sweep_46, k_M_isWreck h hn e2, rb_i, in0, in1, is_93 h, isWr, e1, e2, h2, and_self, and_true, true_and, and_false, false_and, or_true, true_or, or_false, false_or, not_true_eq_false, not_false_eq_true, if_true, if_false, ne_eq, ite_self, reduceCtorEq, i10, Decidable.not_not, Bool.and_self, Bool.and_true, Bool.true_and]
    exact ⟨I, hm, rfl⟩
def sp_drag (A : mI) (x : Int32) : Int32 × mI := if 0 ≤ x ∧ x ≤ 100 then (A 94 3, va_up A 94 (upd (A 94) 3 x)) else (BADi, A)
theorem o_M_drag (h : WF S R) (hm : MR I A) : ∃ I2, MR I2 (sp_drag A x).2 ∧ rn Ls xs (d + 9) 16 0 [some (.inr (.inl (some 93))), some (.inl x)] [] (S, I, R) = some (some (.inl (sp_drag A x).1), (S, I2, R)) := by
  unfold sp_drag
  have kb : ∀ {e}, rn Ls xs e 111 0 [some (.inr (.inl (some 93))), some (.inl 3), some (.inl x), none] [] (S, I, R) = _ := fun {e} => k_M_becomes (d := e) h (k := 3) (by decide)
  by_cases h1 : 0 ≤ x ∧ x ≤ 100
  · simp only [e_M_drag_0, e_M_drag_1, e_M_drag_2, e_M_drag_4, e_M_drag_7, e_M_drag_10, e_M_drag_11, e_M_drag_12, e_M_drag_13, e_M_drag_16, e_M_drag_19, e_M_drag_21, k_M_in, rb_i, in0, in1, is_93 h, h1, and_self, and_true, true_and, and_false, false_and, or_true, true_or, or_false, false_or, not_true_eq_false, not_false_eq_true, if_true, if_false, ne_eq, ite_self, reduceCtorEq, i10, Decidable.not_not, Bool.and_self, Bool.and_true, Bool.true_and, kb, ← hm.now]
    exact ⟨_, hm.up 94 _ (by decide), rfl⟩
  · simp only [e_M_drag_0, e_M_drag_1, e_M_drag_2, e_M_drag_4, e_M_drag_7, e_M_drag_10, e_M_drag_11, e_M_drag_12, e_M_drag_13, e_M_drag_16, e_M_drag_19, e_M_drag_21, k_M_in, rb_i, in0, in1, is_93 h, h1, and_self, and_true, true_and, and_false, false_and, or_true, true_or, or_false, false_or, not_true_eq_false, not_false_eq_true, if_true, if_false, ne_eq, ite_self, reduceCtorEq, i10, Decidable.not_not, Bool.and_self, Bool.and_true, Bool.true_and]
    exact ⟨I, hm, rfl⟩
def sp_seed (A : mI) (x : Int32) : Int32 × mI := (A 94 0, va_up A 94 (upd (A 94) 0 x))
theorem o_M_seed (h : WF S R) (hm : MR I A) : ∃ I2, MR I2 (sp_seed A x).2 ∧ rn Ls xs (d + 9) 22 0 [some (.inr (.inl (some 93))), some (.inl x)] [] (S, I, R) = some (some (.inl (sp_seed A x).1), (S, I2, R)) := by
  unfold sp_seed
  have kb : ∀ {e}, rn Ls xs e 111 0 [some (.inr (.inl (some 93))), some (.inl 0), some (.inl x), none] [] (S, I, R) = _ := fun {e} => k_M_becomes (d := e) h (k := 0) (by decide)
  simp only [e_M_seed_0, e_M_seed_1, e_M_seed_2, e_M_seed_3, e_M_seed_6, rb_i, is_93 h, and_self, and_true, true_and, and_false, false_and, or_true, true_or, or_false, false_or, not_true_eq_false, not_false_eq_true, if_true, if_false, ne_eq, ite_self, reduceCtorEq, i10, Decidable.not_not, Bool.and_self, Bool.and_true, Bool.true_and, kb, ← hm.now]
  exact ⟨_, hm.up 94 _ (by decide), rfl⟩
end MT4

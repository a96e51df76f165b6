/-! THE REFERENCE's calls: best, push -/
def chS (w : Nat) (x : Int32) : Option (Nat × Int32) → Option (Nat × Int32)
  | none => some (w, x)
  | some (b, f) => if x < f then some (w, x) else some (b, f)
noncomputable def bsS (a : Nat → Int32) (n : Nat) : Nat → Nat → Option (Nat × Int32) → Option (Nat × Int32)
  | _, 0, o => o
  | w, j + 1, o => bsS a n (w + 1) j (if a (8 + 6 * w + 5) = 1 then chS w (hrsS (upd a (8 + 6 * w + 5) 0) n 4) o else o)
noncomputable def psS (a : Nat → Int32) (w n : Nat) : Nat → Nat → Option (Nat × Int32) → Option (Nat × Int32)
  | _, 0, o => o
  | i, j + 1, o => psS a w n (i + 1) j (chS i (hrsS (upd a (8 + 6 * w + 3) (nI i - 9)) n 4) o)
def oB : Option (Nat × Int32) → Int32
  | none => -1
  | some (b, _) => nI b
def oF : Option (Nat × Int32) → Int32
  | none => 0
  | some (_, f) => f
def oP : Option (Nat × Int32) → Int32
  | none => -10
  | some (b, _) => nI b - 9
section MT16
variable {Ls : Nat} {xs : Nat → Int32} {d : Nat} {S : mS} {I A : mI} {R : mR} {x y z u v : Int32}
theorem k_M_brokenBehind (h : WF S R) {a c : Nat → Int32} {n : Nat} (hn : n < 2 ^ 30) (e1 : I 97 = thS a c 92) (e2 : ∀ i, 92 ≤ i → I 94 i = a i) (hr : rwOK (I 94)) : ∃ I2, I2 94 = a ∧ (∀ b, b ≠ 94 → b ≠ 107 → b ≠ 108 → I2 b = I b) ∧ rn Ls xs (d + 5) 138 0 [some (.inr (.inl (some 93))), some (.inl (nI n)), none] [] (S, I, R) = some (some (.inl (hrsS (I 94) n 4)), (S, I2, R)) := by
  obtain ⟨I2, g1, g2, r1⟩ := k_M_goesOn' (Ls := Ls) (xs := xs) (d := d) h hn hr
  refine ⟨va_up I2 94 a, vu_s, fun b b1 b2 b3 => by rw [vu_n b1, g2 b b1 b2 b3], ?_⟩
  have rb := k_M_back' (Ls := Ls) (xs := xs) (d := d + 4) (I := I2) (a := a) (c := c) h (by rw [g2 97 (by decide) (by decide) (by decide), e1]) (fun i hi => by rw [g1, hrs_hi hr hi, e2 i hi])
  simp only [e_M_brokenBehind_0, e_M_brokenBehind_1, e_M_brokenBehind_2, e_M_brokenBehind_5, e_M_brokenBehind_6, e_M_brokenBehind_9, e_M_brokenBehind_10, e_M_brokenBehind_11, e_M_brokenBehind_12, e_M_brokenBehind_13, e_M_brokenBehind_16, e_M_brokenBehind_17, is_93 h, rf_93_0 h, and_self, and_true, true_and, and_false, false_and, or_true, true_or, or_false, false_or, not_true_eq_false, not_false_eq_true, if_true, if_false, ne_eq, ite_self, reduceCtorEq, i10, Decidable.not_not, Bool.and_self, Bool.and_true, Bool.true_and, r1, rb, rb_v, ia94_4 h, cl_4, g1]
theorem l_M_best (h : WF S R) {a c : Nat → Int32} {n m : Nat} (hn : n < 2 ^ 30) (hm : m ≤ 14) (em : a 1 = nI m) (ha : rwOK a) : ∀ (j w : Nat) (I2 : mI) (o : Option (Nat × Int32)) (l6 : Option mV), w + j = m → I2 94 = a → I2 97 = thS a c 92 → Fr I I2 → (∀ b f, o = some (b, f) → b < w) → ∃ I3 o6, I3 94 = a ∧ Fr I I3 ∧
    rn Ls xs (d + 6) 36 34 [some (.inr (.inl (some 93))), some (.inl (nI n)), some (.inl x), some (.inl (oB o)), some (.inl (oF o)), some (.inl (nI w)), l6] [] (S, I2, R) = rn Ls xs (d + 6) 36 108 [some (.inr (.inl (some 93))), some (.inl (nI n)), some (.inl x), some (.inl (oB (bsS a n w j o))), some (.inl (oF (bsS a n w j o))), some (.inl (nI m)), o6] [] (S, I3, R) := by
  intro j
  induction j with
  | zero =>
    intro w I2 o l6 hw e1 e2 hf ho
    have : w = m := by omega
    subst this
    refine ⟨I2, l6, e1, hf, ?_⟩
    rw [e_M_best_34]
    simp only [e_M_best_36, e_M_best_37, e_M_best_40, e_M_best_41, e_M_best_42, is_93 h, rf_93_0 h, and_self, and_true, true_and, and_false, false_and, or_true, true_or, or_false, false_or, not_true_eq_false, not_false_eq_true, if_true, if_false, ne_eq, ite_self, reduceCtorEq, i10, Decidable.not_not, Bool.and_self, Bool.and_true, Bool.true_and, ia94_1 h, cl_1, e1, em, nI_le' (show w < 2 ^ 31 by omega) (show w < 2 ^ 31 by omega), Nat.le_refl, bsS]
  | succ j ih =>
    intro w I2 o l6 hw e1 e2 hf ho
    have hw14 : w < 14 := by omega
    by_cases hu : a (8 + 6 * w + 5) = 1
    · obtain ⟨I3, f1, f2, r3⟩ := k_M_brokenBehind (Ls := Ls) (xs := xs) (d := d) (I := va_up I2 94 (upd a (8 + 6 * w + 5) 0)) (a := a) (c := c) h hn (by rw [vu_n (by decide)]; exact e2) (fun i hi => by rw [vu_s, up_hi (by omega) hi]) (by rw [vu_s]; exact rwOK_upd ha (by omega) (by omega) (by omega))
      rw [vu_s] at r3
      have hf3 : Fr I I3 := (hf.up (b := 94) (by omega)).hr f2
      obtain ⟨I4, o6, g1, g2, r4⟩ := ih (w + 1) I3 (chS w (hrsS (upd a (8 + 6 * w + 5) 0) n 4) o) (some (.inl (hrsS (upd a (8 + 6 * w + 5) 0) n 4))) (by omega) f1 (by rw [f2 97 (by decide) (by decide) (by decide), vu_n (by decide), e2]) hf3 (by
        intro b f hb
        cases o with
        | none => simp only [chS, Option.some.injEq, Prod.mk.injEq] at hb; omega
        | some p =>
          obtain ⟨b0, f0⟩ := p
          have := ho b0 f0 rfl
          simp only [chS] at hb
          split at hb
          · simp only [Option.some.injEq, Prod.mk.injEq] at hb; omega
          · simp only [Option.some.injEq, Prod.mk.injEq] at hb; omega)
      refine ⟨I4, o6, g1, g2, ?_⟩
      have hst : bsS a n w (j + 1) o = bsS a n (w + 1) j (chS w (hrsS (upd a (8 + 6 * w + 5) 0) n 4) o) := by simp only [bsS, hu, and_self, and_true, true_and, and_false, false_and, or_true, true_or, or_false, false_or, not_true_eq_false, not_false_eq_true, if_true, if_false, ne_eq, ite_self, reduceCtorEq, i10, Decidable.not_not, Bool.and_self, Bool.and_true, Bool.true_and]
      rw [hst, ← r4, e_M_best_34]
      simp only [e_M_best_36, e_M_best_37, e_M_best_40, e_M_best_41, e_M_best_42, e_M_best_45, e_M_best_46, e_M_best_48, e_M_best_51, e_M_best_54, e_M_best_55, e_M_best_57, e_M_best_58, e_M_best_59, e_M_best_62, e_M_best_63, e_M_best_64, e_M_best_67, is_93 h, rf_93_0 h, and_self, and_true, true_and, and_false, false_and, or_true, true_or, or_false, false_or, not_true_eq_false, not_false_eq_true, if_true, if_false, ne_eq, ite_self, reduceCtorEq, i10, Decidable.not_not, Bool.and_self, Bool.and_true, Bool.true_and, ia94_1 h, cl_1, e1, em, nI_le' (show m < 2 ^ 31 by omega) (show w < 2 ^ 31 by omega), show ¬ m ≤ w by omega, k_M_isUp h hw14, hu, rb_i, rb_v, k_M_put_5 h hw14, r3]
      cases o with
      | none => simp only [e_M_best_69, e_M_best_70, e_M_best_73, e_M_best_75, e_M_best_77, e_M_best_80, e_M_best_82, e_M_best_85, e_M_best_86, e_M_best_87, e_M_best_88, e_M_best_90, e_M_best_93, e_M_best_95, e_M_best_98, e_M_best_100, e_M_best_102, e_M_best_105, oB, oF, chS, show ((-1 : Int32) < 0) by decide, and_self, and_true, true_and, and_false, false_and, or_true, true_or, or_false, false_or, not_true_eq_false, not_false_eq_true, if_true, if_false, ne_eq, ite_self, reduceCtorEq, i10, Decidable.not_not, Bool.and_self, Bool.and_true, Bool.true_and, nI_1]
      | some p =>
        obtain ⟨b0, f0⟩ := p
        have hb0 := ho b0 f0 rfl
        by_cases hl : hrsS (upd a (8 + 6 * w + 5) 0) n 4 < f0
        · simp only [e_M_best_69, e_M_best_70, e_M_best_73, e_M_best_75, e_M_best_77, e_M_best_80, e_M_best_82, e_M_best_85, e_M_best_86, e_M_best_87, e_M_best_88, e_M_best_90, e_M_best_93, e_M_best_95, e_M_best_98, e_M_best_100, e_M_best_102, e_M_best_105, oB, oF, chS, nI_n0 (show b0 < 2 ^ 31 by omega), hl, i_nle.mpr hl, and_self, and_true, true_and, and_false, false_and, or_true, true_or, or_false, false_or, not_true_eq_false, not_false_eq_true, if_true, if_false, ne_eq, ite_self, reduceCtorEq, i10, Decidable.not_not, Bool.and_self, Bool.and_true, Bool.true_and, nI_1]
        · simp only [e_M_best_69, e_M_best_70, e_M_best_73, e_M_best_75, e_M_best_77, e_M_best_80, e_M_best_82, e_M_best_85, e_M_best_86, e_M_best_87, e_M_best_88, e_M_best_90, e_M_best_93, e_M_best_95, e_M_best_98, e_M_best_100, e_M_best_102, e_M_best_105, oB, oF, chS, nI_n0 (show b0 < 2 ^ 31 by omega), hl, i_nlt.mp hl, and_self, and_true, true_and, and_false, false_and, or_true, true_or, or_false, false_or, not_true_eq_false, not_false_eq_true, if_true, if_false, ne_eq, ite_self, reduceCtorEq, i10, Decidable.not_not, Bool.and_self, Bool.and_true, Bool.true_and, nI_1, nI_eq' (show b0 < 2 ^ 31 by omega) (show w < 2 ^ 31 by omega), show ¬ b0 = w by omega]
    · obtain ⟨I4, o6, g1, g2, r4⟩ := ih (w + 1) I2 o l6 (by omega) e1 e2 hf (fun b f hb => by have := ho b f hb; omega)
      refine ⟨I4, o6, g1, g2, ?_⟩
      have hst : bsS a n w (j + 1) o = bsS a n (w + 1) j o := by simp only [bsS, hu, and_self, and_true, true_and, and_false, false_and, or_true, true_or, or_false, false_or, not_true_eq_false, not_false_eq_true, if_true, if_false, ne_eq, ite_self, reduceCtorEq, i10, Decidable.not_not, Bool.and_self, Bool.and_true, Bool.true_and]
      rw [hst, ← r4, e_M_best_34]
      simp only [e_M_best_36, e_M_best_37, e_M_best_40, e_M_best_41, e_M_best_42, e_M_best_45, e_M_best_46, e_M_best_48, e_M_best_51, e_M_best_54, e_M_best_55, e_M_best_57, e_M_best_58, e_M_best_59, e_M_best_62, e_M_best_63, e_M_best_64, e_M_best_67, e_M_best_69, e_M_best_70, e_M_best_73, e_M_best_75, e_M_best_77, e_M_best_80, e_M_best_82, e_M_best_85, e_M_best_86, e_M_best_87, e_M_best_88, e_M_best_90, e_M_best_93, e_M_best_95, e_M_best_98, e_M_best_100, e_M_best_102, e_M_best_105, is_93 h, rf_93_0 h, and_self, and_true, true_and, and_false, false_and, or_true, true_or, or_false, false_or, not_true_eq_false, not_false_eq_true, if_true, if_false, ne_eq, ite_self, reduceCtorEq, i10, Decidable.not_not, Bool.and_self, Bool.and_true, Bool.true_and, ia94_1 h, cl_1, e1, em, nI_le' (show m < 2 ^ 31 by omega) (show w < 2 ^ 31 by omega), show ¬ m ≤ w by omega, k_M_isUp h hw14, hu, rb_i, nI_1]
/-- the one that was chosen, or its number -/
def oA (x : Int32) : Option (Nat × Int32) → Int32
  | none => NN
  | some (b, f) => if x = 0 then nI b else f
noncomputable def sp_best (A : mI) (x y : Int32) : Int32 × mI := (if (1 ≤ x ∧ x ≤ 60) ∧ 0 ≤ y ∧ y ≤ 1 then oA y (bsS (A 94) (cW x) 0 (cW (A 94 1)) none) else BADi, A)
theorem bsS_lt {a : Nat → Int32} {n : Nat} : ∀ (j w : Nat) (o : Option (Nat × Int32)), (∀ b f, o = some (b, f) → b < w) → ∀ b f, bsS a n w j o = some (b, f) → b < w + j
  | 0, w, o, ho, b, f, hb => ho b f hb
  | j + 1, w, o, ho, b, f, hb => by
    have := bsS_lt (a := a) (n := n) j (w + 1) _ (by
      intro b f hb
      split at hb
      · cases o with
        | none => simp only [chS, Option.some.injEq, Prod.mk.injEq] at hb; omega
        | some p =>
          obtain ⟨b0, f0⟩ := p
          have := ho b0 f0 rfl
          simp only [chS] at hb
          split at hb
          · simp only [Option.some.injEq, Prod.mk.injEq] at hb; omega
          · simp only [Option.some.injEq, Prod.mk.injEq] at hb; omega
      · have := ho b f hb; omega) b f hb
    omega
theorem o_M_best (h : WF S R) (hm : MR I A) (hr : rwOK (A 94)) : ∃ I2, MR I2 (sp_best A x y).2 ∧ rn Ls xs (d + 9) 36 0 [some (.inr (.inl (some 93))), some (.inl x), some (.inl y), none, none, none, none] [] (S, I, R) = some (some (.inl (sp_best A x y).1), (S, I2, R)) := by
  obtain ⟨m, hm14, em⟩ := hr.1
  have hr2 : rwOK (I 94) := by rw [hm.now]; exact hr
  unfold sp_best
  by_cases h1 : 1 ≤ x ∧ x ≤ 60
  · by_cases h2 : 0 ≤ y ∧ y ≤ 1
    · obtain ⟨n, -, hn, rfl⟩ := inN (a := 1) (b := 60) (by decide) h1 rfl rfl
      obtain ⟨I3, o6, g1, g2, r1⟩ := l_M_best (Ls := Ls) (xs := xs) (d := d + 3) (x := y) (I := I) (a := I 94) (c := I 97) h (show n < 2 ^ 30 by omega) hm14 (by rw [hm.now]; exact em) hr2 m 0 (va_up I 97 (thS (I 94) (I 97) 92)) none none (by omega) (by rw [vu_n (by decide)]) vu_s (Fr.rfl'.up (by omega)) (fun b f q => by cases q)
      have r1 : rn Ls xs (d + 9) 36 34 [some (.inr (.inl (some 93))), some (.inl (nI n)), some (.inl y), some (.inl (-1)), some (.inl 0), some (.inl 0), none] [] (S, va_up I 97 (thS (I 94) (I 97) 92), R) = _ := r1
      refine ⟨I3, hm.fr g2 (g1.trans hm.now), ?_⟩
      simp only [e_M_best_0, e_M_best_1, e_M_best_2, e_M_best_4, e_M_best_7, e_M_best_10, e_M_best_11, e_M_best_12, e_M_best_13, e_M_best_16, e_M_best_19, e_M_best_21, e_M_best_22, e_M_best_23, e_M_best_26, e_M_best_27, e_M_best_28, e_M_best_29, e_M_best_31, e_M_best_32, k_M_in, rb_i, rb_v, in0, in1, h1, h2, and_self, and_true, true_and, and_false, false_and, or_true, true_or, or_false, false_or, not_true_eq_false, not_false_eq_true, if_true, if_false, ne_eq, ite_self, reduceCtorEq, i10, Decidable.not_not, Bool.and_self, Bool.and_true, Bool.true_and, is_93 h, k_M_thinks h, r1]
      simp only [e_M_best_108, e_M_best_109, e_M_best_112, e_M_best_114, e_M_best_117, e_M_best_118, e_M_best_121, e_M_best_122, e_M_best_125, e_M_best_127, em, cW, nI_clamp (show n < 2 ^ 31 by omega), nI_clamp (show m < 2 ^ 31 by omega), ← hm.now]
      have hlt := bsS_lt (a := I 94) (n := n) m 0 none (fun b f q => by cases q)
      cases hb : bsS (I 94) n 0 m none with
      | none => simp only [oB, oF, oA, show ¬ (0 : Int32) ≤ -1 by decide, and_self, and_true, true_and, and_false, false_and, or_true, true_or, or_false, false_or, not_true_eq_false, not_false_eq_true, if_true, if_false, ne_eq, ite_self, reduceCtorEq, i10, Decidable.not_not, Bool.and_self, Bool.and_true, Bool.true_and]
      | some p =>
        obtain ⟨b, f⟩ := p
        have := hlt b f hb
        simp only [oB, oF, oA, nI_pos' (show b < 2 ^ 31 by omega), and_self, and_true, true_and, and_false, false_and, or_true, true_or, or_false, false_or, not_true_eq_false, not_false_eq_true, if_true, if_false, ne_eq, ite_self, reduceCtorEq, i10, Decidable.not_not, Bool.and_self, Bool.and_true, Bool.true_and, it_i, ite_not]
    · exact ⟨I, hm, by simp only [e_M_best_0, e_M_best_1, e_M_best_2, e_M_best_4, e_M_best_7, e_M_best_10, e_M_best_11, e_M_best_12, e_M_best_13, e_M_best_16, e_M_best_19, e_M_best_21, e_M_best_22, e_M_best_23, e_M_best_26, e_M_best_27, e_M_best_28, e_M_best_29, e_M_best_31, e_M_best_32, k_M_in, rb_i, in0, in1, h1, h2, and_self, and_true, true_and, and_false, false_and, or_true, true_or, or_false, false_or, not_true_eq_false, not_false_eq_true, if_true, if_false, ne_eq, ite_self, reduceCtorEq, i10, Decidable.not_not, Bool.and_self, Bool.and_true, Bool.true_and]⟩
  · exact ⟨I, hm, by simp only [e_M_best_0, e_M_best_1, e_M_best_2, e_M_best_4, e_M_best_7, e_M_best_10, e_M_best_11, e_M_best_12, e_M_best_13, e_M_best_16, e_M_best_19, e_M_best_21, e_M_best_22, e_M_best_23, e_M_best_26, e_M_best_27, e_M_best_28, e_M_best_29, e_M_best_31, e_M_best_32, k_M_in, rb_i, in0, in1, h1, and_self, and_true, true_and, and_false, false_and, or_true, true_or, or_false, false_or, not_true_eq_false, not_false_eq_true, if_true, if_false, ne_eq, ite_self, reduceCtorEq, i10, Decidable.not_not, Bool.and_self, Bool.and_true, Bool.true_and]⟩
theorem m9_toInt {i : Nat} (hi : i < 2 ^ 30) : (nI i - 9).toInt = (i : Int) - 9 := sub_toInt (b := 9) (by omega) (by decide)
theorem l_M_push (h : WF S R) {a c : Nat → Int32} {n w : Nat} (hn : n < 2 ^ 30) (hw14 : w < 14) (ha : rwOK a) : ∀ (j i : Nat) (I2 : mI) (o : Option (Nat × Int32)) (l7 : Option mV), i + j = 19 → I2 94 = a → I2 97 = thS a c 92 → Fr I I2 → (∀ b f, o = some (b, f) → b < i) → ∃ I3 o6 o7, I3 94 = a ∧ Fr I I3 ∧
    rn Ls xs (d + 6) 38 45 [some (.inr (.inl (some 93))), some (.inl (nI w)), some (.inl (nI n)), some (.inl x), some (.inl (oP o)), some (.inl (oF o)), some (.inl (nI i - 9)), l7] [] (S, I2, R) = rn Ls xs (d + 6) 38 112 [some (.inr (.inl (some 93))), some (.inl (nI w)), some (.inl (nI n)), some (.inl x), some (.inl (oP (psS a w n i j o))), some (.inl (oF (psS a w n i j o))), o6, o7] [] (S, I3, R) := by
  intro j
  induction j with
  | zero =>
    intro i I2 o l7 hi e1 e2 hf ho
    have : i = 19 := by omega
    subst this
    refine ⟨I2, some (.inl (nI 19 - 9)), l7, e1, hf, ?_⟩
    rw [e_M_push_45]
    simp only [e_M_push_47, e_M_push_49, show ((10 : Int32) ≤ nI 19 - 9) by decide, and_self, and_true, true_and, and_false, false_and, or_true, true_or, or_false, false_or, not_true_eq_false, not_false_eq_true, if_true, if_false, ne_eq, ite_self, reduceCtorEq, i10, Decidable.not_not, Bool.and_self, Bool.and_true, Bool.true_and, psS]
  | succ j ih =>
    intro i I2 o l7 hi e1 e2 hf ho
    have hlt : ¬ (10 : Int32) ≤ nI i - 9 := by rw [i_le, m9_toInt (by omega)]; show ¬ (10 : Int) ≤ _; omega
    obtain ⟨I3, f1, f2, r3⟩ := k_M_brokenBehind (Ls := Ls) (xs := xs) (d := d) (I := va_up I2 94 (upd a (8 + 6 * w + 3) (nI i - 9))) (a := a) (c := c) h hn (by rw [vu_n (by decide)]; exact e2) (fun i hi => by rw [vu_s, up_hi (by omega) hi]) (by rw [vu_s]; exact rwOK_upd ha (by omega) (by omega) (by omega))
    rw [vu_s] at r3
    have hf3 : Fr I I3 := (hf.up (b := 94) (by omega)).hr f2
    obtain ⟨I4, o6, o7, g1, g2, r4⟩ := ih (i + 1) I3 (chS i (hrsS (upd a (8 + 6 * w + 3) (nI i - 9)) n 4) o) (some (.inl (hrsS (upd a (8 + 6 * w + 3) (nI i - 9)) n 4))) (by omega) f1 (by rw [f2 97 (by decide) (by decide) (by decide), vu_n (by decide), e2]) hf3 (by
      intro b f hb
      cases o with
      | none => simp only [chS, Option.some.injEq, Prod.mk.injEq] at hb; omega
      | some p =>
        obtain ⟨b0, f0⟩ := p
        have := ho b0 f0 rfl
        simp only [chS] at hb
        split at hb
        · simp only [Option.some.injEq, Prod.mk.injEq] at hb; omega
        · simp only [Option.some.injEq, Prod.mk.injEq] at hb; omega)
    refine ⟨I4, o6, o7, g1, g2, ?_⟩
    have hst : psS a w n i (j + 1) o = psS a w n (i + 1) j (chS i (hrsS (upd a (8 + 6 * w + 3) (nI i - 9)) n 4) o) := rfl
    have inc : nI i - 9 + 1 = nI (i + 1) - 9 := by
      rw [← nI_1]
      rw [Int32.sub_eq_add_neg, Int32.sub_eq_add_neg, Int32.add_assoc, Int32.add_assoc, Int32.add_comm (-9) 1]
    rw [hst, ← r4, e_M_push_45]
    simp only [e_M_push_47, e_M_push_49, e_M_push_52, e_M_push_53, e_M_push_54, e_M_push_55, e_M_push_57, e_M_push_60, e_M_push_61, e_M_push_62, e_M_push_65, is_93 h, and_self, and_true, true_and, and_false, false_and, or_true, true_or, or_false, false_or, not_true_eq_false, not_false_eq_true, if_true, if_false, ne_eq, ite_self, reduceCtorEq, i10, Decidable.not_not, Bool.and_self, Bool.and_true, Bool.true_and, hlt, rb_i, rb_v, k_M_put_3 h hw14, e1, r3]
    cases o with
    | none => simp only [e_M_push_67, e_M_push_69, e_M_push_71, e_M_push_74, e_M_push_76, e_M_push_78, e_M_push_81, e_M_push_83, e_M_push_86, e_M_push_88, e_M_push_90, e_M_push_92, e_M_push_94, e_M_push_97, e_M_push_99, e_M_push_102, e_M_push_104, e_M_push_106, e_M_push_109, oP, oF, chS, show ((-10 : Int32) < -9) by decide, and_self, and_true, true_and, and_false, false_and, or_true, true_or, or_false, false_or, not_true_eq_false, not_false_eq_true, if_true, if_false, ne_eq, ite_self, reduceCtorEq, i10, Decidable.not_not, Bool.and_self, Bool.and_true, Bool.true_and, inc]
    | some p =>
      obtain ⟨b0, f0⟩ := p
      have hb0 := ho b0 f0 rfl
      have hb9 : ¬ nI b0 - 9 < -9 := by rw [i_lt, m9_toInt (by omega)]; show ¬ _ < (-9 : Int); omega
      have hne : ¬ nI b0 - 9 = nI i - 9 := by
        intro q
        have := congrArg Int32.toInt q
        rw [m9_toInt (by omega), m9_toInt (by omega)] at this
        omega
      by_cases hl : hrsS (upd a (8 + 6 * w + 3) (nI i - 9)) n 4 < f0
      · simp only [e_M_push_67, e_M_push_69, e_M_push_71, e_M_push_74, e_M_push_76, e_M_push_78, e_M_push_81, e_M_push_83, e_M_push_86, e_M_push_88, e_M_push_90, e_M_push_92, e_M_push_94, e_M_push_97, e_M_push_99, e_M_push_102, e_M_push_104, e_M_push_106, e_M_push_109, oP, oF, chS, hb9, hl, i_nle.mpr hl, and_self, and_true, true_and, and_false, false_and, or_true, true_or, or_false, false_or, not_true_eq_false, not_false_eq_true, if_true, if_false, ne_eq, ite_self, reduceCtorEq, i10, Decidable.not_not, Bool.and_self, Bool.and_true, Bool.true_and, inc]
      · simp only [e_M_push_67, e_M_push_69, e_M_push_71, e_M_push_74, e_M_push_76, e_M_push_78, e_M_push_81, e_M_push_83, e_M_push_86, e_M_push_88, e_M_push_90, e_M_push_92, e_M_push_94, e_M_push_97, e_M_push_99, e_M_push_102, e_M_push_104, e_M_push_106, e_M_push_109, oP, oF, chS, hb9, hl, i_nlt.mp hl, and_self, and_true, true_and, and_false, false_and, or_true, true_or, or_false, false_or, not_true_eq_false, not_false_eq_true, if_true, if_false, ne_eq, ite_self, reduceCtorEq, i10, Decidable.not_not, Bool.and_self, Bool.and_true, Bool.true_and, inc, hne]
def oQ (x : Int32) : Option (Nat × Int32) → Int32
  | none => NN
  | some (b, f) => if x = 0 then nI b - 9 else f
noncomputable def sp_push (A : mI) (x y z : Int32) : Int32 × mI := (if isWr A x ∧ (1 ≤ y ∧ y ≤ 60) ∧ 0 ≤ z ∧ z ≤ 1 then oQ z (psS (A 94) (cW x) (cW y) 0 19 none) else BADi, A)
theorem psS_some {a : Nat → Int32} {w n : Nat} : ∀ (j i : Nat) (o : Option (Nat × Int32)), (o ≠ none ∨ 0 < j) → psS a w n i j o ≠ none
  | 0, i, o, ho => by rcases ho with h | h; exact h; exact absurd h (by omega)
  | j + 1, i, o, ho => psS_some j (i + 1) _ (Or.inl (by
      cases o with
      | none => simp [chS]
      | some p =>
        obtain ⟨b, f⟩ := p
        simp only [chS]
        split <;> simp))
theorem o_M_push (h : WF S R) (hm : MR I A) (hr : rwOK (A 94)) : ∃ I2, MR I2 (sp_push A x y z).2 ∧ rn Ls xs (d + 9) 38 0 [some (.inr (.inl (some 93))), some (.inl x), some (.inl y), some (.inl z), none, none, none, none] [] (S, I, R) = some (some (.inl (sp_push A x y z).1), (S, I2, R)) := by
  obtain ⟨m, hm14, em⟩ := hr.1
  have e2 : I 94 1 = nI m := by rw [hm.now, em]
  have hr2 : rwOK (I 94) := by rw [hm.now]; exact hr
  unfold sp_push
  by_cases h1 : isWr A x
  · obtain ⟨w, hw, rfl⟩ := isW hm14 (by rw [← em]; exact h1)
    have h2 : 0 ≤ nI w ∧ nI w ≤ nI m - 1 := by rw [isWr, em] at h1; exact h1
    by_cases h3 : 1 ≤ y ∧ y ≤ 60
    · by_cases h4 : 0 ≤ z ∧ z ≤ 1
      · obtain ⟨n, -, hn, rfl⟩ := inN (a := 1) (b := 60) (by decide) h3 rfl rfl
        obtain ⟨I3, o6, o7, g1, g2, r1⟩ := l_M_push (Ls := Ls) (xs := xs) (d := d + 3) (x := z) (I := I) (a := I 94) (c := I 97) h (show n < 2 ^ 30 by omega) (show w < 14 by omega) hr2 19 0 (va_up I 97 (thS (I 94) (I 97) 92)) none none (by omega) (by rw [vu_n (by decide)]) vu_s (Fr.rfl'.up (by omega)) (fun b f q => by cases q)
        have r1 : rn Ls xs (d + 9) 38 45 [some (.inr (.inl (some 93))), some (.inl (nI w)), some (.inl (nI n)), some (.inl z), some (.inl (-10)), some (.inl 0), some (.inl (-9)), none] [] (S, va_up I 97 (thS (I 94) (I 97) 92), R) = _ := r1
        refine ⟨I3, hm.fr g2 (g1.trans hm.now), ?_⟩
        simp only [e_M_push_0, e_M_push_1, e_M_push_2, e_M_push_5, e_M_push_8, e_M_push_9, e_M_push_10, e_M_push_12, e_M_push_15, e_M_push_18, e_M_push_19, e_M_push_20, e_M_push_21, e_M_push_24, e_M_push_27, e_M_push_29, e_M_push_30, e_M_push_31, e_M_push_34, e_M_push_36, e_M_push_38, e_M_push_39, e_M_push_41, e_M_push_43, k_M_isWreck h hm14 e2, k_M_in, rb_i, rb_v, in0, in1, h2, h3, h4, and_self, and_true, true_and, and_false, false_and, or_true, true_or, or_false, false_or, not_true_eq_false, not_false_eq_true, if_true, if_false, ne_eq, ite_self, reduceCtorEq, i10, Decidable.not_not, Bool.and_self, Bool.and_true, Bool.true_and, is_93 h, k_M_thinks h, r1, isWr, em]
        simp only [e_M_push_112, e_M_push_113, e_M_push_116, e_M_push_118, e_M_push_121, e_M_push_123, cW, nI_clamp (show n < 2 ^ 31 by omega), nI_clamp (show w < 2 ^ 31 by omega), ← hm.now]
        have hns := psS_some (a := I 94) (w := w) (n := n) 19 0 none (Or.inr (by decide))
        cases hb : psS (I 94) w n 0 19 none with
        | none => exact absurd hb hns
        | some p =>
          obtain ⟨b, f⟩ := p
          simp only [oP, oF, oQ, and_self, and_true, true_and, and_false, false_and, or_true, true_or, or_false, false_or, not_true_eq_false, not_false_eq_true, if_true, if_false, ne_eq, ite_self, reduceCtorEq, i10, Decidable.not_not, Bool.and_self, Bool.and_true, Bool.true_and, it_i, ite_not]
      · exact ⟨I, hm, by simp only [e_M_push_0, e_M_push_1, e_M_push_2, e_M_push_5, e_M_push_8, e_M_push_9, e_M_push_10, e_M_push_12, e_M_push_15, e_M_push_18, e_M_push_19, e_M_push_20, e_M_push_21, e_M_push_24, e_M_push_27, e_M_push_29, e_M_push_30, e_M_push_31, e_M_push_34, e_M_push_36, e_M_push_38, e_M_push_39, e_M_push_41, e_M_push_43, k_M_isWreck h hm14 e2, k_M_in, rb_i, in0, in1, is_93 h, h2, h3, h4, and_self, and_true, true_and, and_false, false_and, or_true, true_or, or_false, false_or, not_true_eq_false, not_false_eq_true, if_true, if_false, ne_eq, ite_self, reduceCtorEq, i10, Decidable.not_not, Bool.and_self, Bool.and_true, Bool.true_and, isWr, em]⟩
    · exact ⟨I, hm, by simp only [e_M_push_0, e_M_push_1, e_M_push_2, e_M_push_5, e_M_push_8, e_M_push_9, e_M_push_10, e_M_push_12, e_M_push_15, e_M_push_18, e_M_push_19, e_M_push_20, e_M_push_21, e_M_push_24, e_M_push_27, e_M_push_29, e_M_push_30, e_M_push_31, e_M_push_34, e_M_push_36, e_M_push_38, e_M_push_39, e_M_push_41, e_M_push_43, k_M_isWreck h hm14 e2, k_M_in, rb_i, in0, in1, is_93 h, h2, h3, and_self, and_true, true_and, and_false, false_and, or_true, true_or, or_false, false_or, not_true_eq_false, not_false_eq_true, if_true, if_false, ne_eq, ite_self, reduceCtorEq, i10, Decidable.not_not, Bool.and_self, Bool.and_true, Bool.true_and, isWr, em]⟩
  · have h2 : ¬ (0 ≤ x ∧ x ≤ nI m - 1) := by rw [isWr, em] at h1; exact h1
    exact ⟨I, hm, by simp only [e_M_push_0, e_M_push_1, e_M_push_2, e_M_push_5, e_M_push_8, e_M_push_9, e_M_push_10, e_M_push_12, e_M_push_15, e_M_push_18, e_M_push_19, e_M_push_20, e_M_push_21, e_M_push_24, e_M_push_27, e_M_push_29, e_M_push_30, e_M_push_31, e_M_push_34, e_M_push_36, e_M_push_38, e_M_push_39, e_M_push_41, e_M_push_43, k_M_isWreck h hm14 e2, rb_i, in0, in1, is_93 h, h2, and_self, and_true, true_and, and_false, false_and, or_true, true_or, or_false, false_or, not_true_eq_false, not_false_eq_true, if_true, if_false, ne_eq, ite_self, reduceCtorEq, i10, Decidable.not_not, Bool.and_self, Bool.and_true, Bool.true_and, isWr, em]⟩
end MT16

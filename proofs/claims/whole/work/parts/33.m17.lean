/-! THE REFERENCE's calls: under, nearest -/
def uaS (a : Nat → Int32) : Nat → Nat → Int32 → Int32
  | _, 0, s => s
  | w, j + 1, s => uaS a (w + 1) j (s ||| (if a (8 + 6 * w + 5) = 1 then (1 : Int32) <<< (a (8 + 6 * w + 2) &&& 31) else 0))
noncomputable def uhS (a : Nat → Int32) : Nat → Nat → Int32
  | 0, _ => 0
  | k + 1, p => uhS a k p + ((uaS (hrsS a (k + 1)) 0 (cW (hrsS a (k + 1) 1)) 0 >>> (nI p &&& 31)) &&& 1)
def mxS (f : Nat → Int32) : Nat → Nat → Nat → Nat
  | b, _, 0 => b
  | b, p, j + 1 => mxS f (if f b < f p then p else b) (p + 1) j
def apS (x y : Int32) : Int32 := if 30 - rdS (x - y) < rdS (x - y) then 30 - rdS (x - y) else rdS (x - y)
def nrS (a : Nat → Int32) (w : Nat) : Nat → Nat → Int32 → Int32
  | _, 0, s => s
  | o, j + 1, s => nrS a w (o + 1) j (if o = w then s else if a (8 + 6 * w + 5) = 1 ∧ a (8 + 6 * o + 5) = 1 ∧ a (8 + 6 * o + 1) = a (8 + 6 * w + 1) then (if s = NN ∨ apS (a (8 + 6 * o + 2)) (a (8 + 6 * w + 2)) < s then apS (a (8 + 6 * o + 2)) (a (8 + 6 * w + 2)) else s) else s)
noncomputable def nsS (a : Nat → Int32) (w : Nat) : Nat → Int32
  | 0 => nrS a w 0 (cW (a 1)) NN
  | k + 1 => nrS (hrsS a (k + 1)) w 0 (cW (hrsS a (k + 1) 1)) (nsS a w k)
section MT17
variable {Ls : Nat} {xs : Nat → Int32} {d : Nat} {S : mS} {I A : mI} {R : mR} {x y z u v : Int32}
theorem l_M_under0 (h : WF S R) {l4 l5 : Option mV} {c : Nat → Int32} : ∀ (j k : Nat), k + j = 30 → rn Ls xs d 40 28 [some (.inr (.inl (some 93))), some (.inl x), some (.inl y), some (.inl (nI k)), l4, l5] [] (S, va_up I 99 (thS (fun _ => 0) c k), R) = rn Ls xs d 40 47 [some (.inr (.inl (some 93))), some (.inl x), some (.inl y), some (.inl (nI 30)), l4, l5] [] (S, va_up I 99 (thS (fun _ => 0) c 30), R) := by
  intro j
  induction j with
  | zero =>
    intro k hk
    have : k = 30 := by omega
    subst this
    rw [e_M_under_28]
    simp only [e_M_under_29, e_M_under_31, show ((30 : Int32) ≤ nI 30) by decide, and_self, and_true, true_and, and_false, false_and, or_true, true_or, or_false, false_or, not_true_eq_false, not_false_eq_true, if_true, if_false, ne_eq, ite_self, reduceCtorEq, i10, Decidable.not_not, Bool.and_self, Bool.and_true, Bool.true_and]
  | succ j ih =>
    intro k hk
    have hlt : ¬ (30 : Int32) ≤ nI k := by rw [show (30 : Int32) = nI 30 from rfl, nI_le' (by decide) (by omega)]; omega
    have q3 := thS_s (a := fun _ => 0) (b := c) (k := k)
    rw [e_M_under_28]
    simp only [e_M_under_29, e_M_under_31, e_M_under_34, e_M_under_35, e_M_under_38, e_M_under_39, e_M_under_40, e_M_under_41, e_M_under_44, hlt, and_self, and_true, true_and, and_false, false_and, or_true, true_or, or_false, false_or, not_true_eq_false, not_false_eq_true, if_true, if_false, ne_eq, ite_self, reduceCtorEq, i10, Decidable.not_not, Bool.and_self, Bool.and_true, Bool.true_and, is_93 h, rf_93_6 h, ia_99 h (show k < 30 by omega), nI_clamp (show k < 2 ^ 31 by omega), vu_s, vu_vu, q3, nI_1]
    exact ih (k + 1) (by omega)
theorem l_M_under1 (h : WF S R) {n : Nat} {l3 : Option mV} (hn : n ≤ 14) (e1 : I 94 1 = nI n) : ∀ (j w : Nat) (s : Int32), w + j = n → rn Ls xs (d + 2) 40 64 [some (.inr (.inl (some 93))), some (.inl x), some (.inl y), l3, some (.inl s), some (.inl (nI w))] [] (S, I, R) = rn Ls xs (d + 2) 40 108 [some (.inr (.inl (some 93))), some (.inl x), some (.inl y), l3, some (.inl (uaS (I 94) w j s)), some (.inl (nI n))] [] (S, I, R) := by
  intro j
  induction j with
  | zero =>
    intro w s hw
    have : w = n := by omega
    subst this
    rw [e_M_under_64]
    simp only [e_M_under_66, e_M_under_67, e_M_under_70, e_M_under_71, e_M_under_72, is_93 h, rf_93_0 h, and_self, and_true, true_and, and_false, false_and, or_true, true_or, or_false, false_or, not_true_eq_false, not_false_eq_true, if_true, if_false, ne_eq, ite_self, reduceCtorEq, i10, Decidable.not_not, Bool.and_self, Bool.and_true, Bool.true_and, ia94_1 h, cl_1, e1, nI_le' (show w < 2 ^ 31 by omega) (show w < 2 ^ 31 by omega), Nat.le_refl, uaS]
  | succ j ih =>
    intro w s hw
    have hw14 : w < 14 := by omega
    rw [e_M_under_64]
    simp only [e_M_under_66, e_M_under_67, e_M_under_70, e_M_under_71, e_M_under_72, e_M_under_75, e_M_under_77, e_M_under_78, e_M_under_80, e_M_under_83, e_M_under_86, e_M_under_87, e_M_under_88, e_M_under_90, e_M_under_91, e_M_under_94, e_M_under_95, e_M_under_98, e_M_under_99, e_M_under_100, e_M_under_102, e_M_under_105, is_93 h, rf_93_0 h, and_self, and_true, true_and, and_false, false_and, or_true, true_or, or_false, false_or, not_true_eq_false, not_false_eq_true, if_true, if_false, ne_eq, ite_self, reduceCtorEq, i10, Decidable.not_not, Bool.and_self, Bool.and_true, Bool.true_and, ia94_1 h, cl_1, e1, nI_le' (show n < 2 ^ 31 by omega) (show w < 2 ^ 31 by omega), show ¬ n ≤ w by omega, k_M_isUp h hw14, k_M_of_2 h hw14, rb_i, in0, nI_1, ih _ _ (show w + 1 + j = n by omega), uaS]
    by_cases h1 : I 94 (8 + 6 * w + 5) = 1
    · simp only [h1, and_self, and_true, true_and, and_false, false_and, or_true, true_or, or_false, false_or, not_true_eq_false, not_false_eq_true, if_true, if_false, ne_eq, ite_self, reduceCtorEq, i10, Decidable.not_not, Bool.and_self, Bool.and_true, Bool.true_and]
    · simp only [h1, and_self, and_true, true_and, and_false, false_and, or_true, true_or, or_false, false_or, not_true_eq_false, not_false_eq_true, if_true, if_false, ne_eq, ite_self, reduceCtorEq, i10, Decidable.not_not, Bool.and_self, Bool.and_true, Bool.true_and]
theorem l_M_under2 (h : WF S R) {N f : Nat → Int32} {l3 : Option mV} {s : Int32} (hN : ∀ p, p < 30 → f p + ((s >>> (nI p &&& 31)) &&& 1) = N p) : ∀ (j p : Nat), p + j = 30 → rn Ls xs d 40 111 [some (.inr (.inl (some 93))), some (.inl x), some (.inl y), l3, some (.inl s), some (.inl (nI p))] [] (S, va_up I 99 (thS N f p), R) = rn Ls xs d 40 141 [some (.inr (.inl (some 93))), some (.inl x), some (.inl y), l3, some (.inl s), some (.inl (nI 30))] [] (S, va_up I 99 (thS N f 30), R) := by
  intro j
  induction j with
  | zero =>
    intro k hk
    have : k = 30 := by omega
    subst this
    rw [e_M_under_111]
    simp only [e_M_under_113, e_M_under_115, show ((30 : Int32) ≤ nI 30) by decide, and_self, and_true, true_and, and_false, false_and, or_true, true_or, or_false, false_or, not_true_eq_false, not_false_eq_true, if_true, if_false, ne_eq, ite_self, reduceCtorEq, i10, Decidable.not_not, Bool.and_self, Bool.and_true, Bool.true_and]
  | succ j ih =>
    intro k hk
    have hlt : ¬ (30 : Int32) ≤ nI k := by rw [show (30 : Int32) = nI 30 from rfl, nI_le' (by decide) (by omega)]; omega
    rw [e_M_under_111]
    simp only [e_M_under_113, e_M_under_115, e_M_under_118, e_M_under_119, e_M_under_122, e_M_under_124, e_M_under_125, e_M_under_126, e_M_under_128, e_M_under_130, e_M_under_131, e_M_under_132, e_M_under_133, e_M_under_134, e_M_under_135, e_M_under_138, hlt, and_self, and_true, true_and, and_false, false_and, or_true, true_or, or_false, false_or, not_true_eq_false, not_false_eq_true, if_true, if_false, ne_eq, ite_self, reduceCtorEq, i10, Decidable.not_not, Bool.and_self, Bool.and_true, Bool.true_and, is_93 h, rf_93_6 h, ia_99 h (show k < 30 by omega), nI_clamp (show k < 2 ^ 31 by omega), vu_s, vu_vu, thS_ge (Nat.le_refl k), hN k (by omega), thS_s, nI_1]
    exact ih (k + 1) (by omega)
theorem l_M_under3 (h : WF S R) {a t : Nat → Int32} {n : Nat} (hn : n ≤ 100) (ha : rwOK a) : ∀ (j k : Nat) (I2 : mI) (l4 l5 : Option mV), k + j = n → I2 94 = hrsS a k → (∀ p, p < 30 → I2 99 p = uhS a k p) → I2 97 = t → Fr I I2 → ∃ I3 o4 o5, I3 94 = hrsS a n ∧ (∀ p, p < 30 → I3 99 p = uhS a n p) ∧ I3 97 = t ∧ Fr I I3 ∧
    rn Ls xs (d + 4) 40 49 [some (.inr (.inl (some 93))), some (.inl (nI n)), some (.inl y), some (.inl (nI k)), l4, l5] [] (S, I2, R) = rn Ls xs (d + 4) 40 147 [some (.inr (.inl (some 93))), some (.inl (nI n)), some (.inl y), some (.inl (nI n)), o4, o5] [] (S, I3, R) := by
  intro j
  induction j with
  | zero =>
    intro k I2 l4 l5 hk e1 e2 e3 hf
    have : k = n := by omega
    subst this
    refine ⟨I2, l4, l5, e1, e2, e3, hf, ?_⟩
    rw [e_M_under_49]
    simp only [e_M_under_50, e_M_under_51, nI_le' (show k < 2 ^ 31 by omega) (show k < 2 ^ 31 by omega), Nat.le_refl, and_self, and_true, true_and, and_false, false_and, or_true, true_or, or_false, false_or, not_true_eq_false, not_false_eq_true, if_true, if_false, ne_eq, ite_self, reduceCtorEq, i10, Decidable.not_not, Bool.and_self, Bool.and_true, Bool.true_and]
  | succ j ih =>
    intro k I2 l4 l5 hk e1 e2 e3 hf
    have hr : rwOK (I2 94) := by rw [e1]; exact rwOK_hrs ha k
    obtain ⟨I3, f1, f2, r3⟩ := k_M_hour' (Ls := Ls) (xs := xs) (d := d) (I := I2) h hr
    rw [e1] at f1
    have f1 : I3 94 = hrsS a (k + 1) := f1
    have hr3 : rwOK (I3 94) := by rw [f1]; exact rwOK_hrs ha (k + 1)
    obtain ⟨m, hm, em⟩ := hr3.1
    have r4 : rn Ls xs (d + 4) 40 64 [some (.inr (.inl (some 93))), some (.inl (nI n)), some (.inl y), some (.inl (nI k)), some (.inl 0), some (.inl 0)] [] (S, I3, R) = _ := l_M_under1 (Ls := Ls) (xs := xs) (d := d + 2) (x := nI n) (y := y) (I := I3) (l3 := some (.inl (nI k))) h hm em m 0 0 (by omega)
    have em2 : cW (hrsS a (k + 1) 1) = m := by rw [← f1, em, cW, nI_clamp (by omega)]
    have r5 := l_M_under2 (Ls := Ls) (xs := xs) (d := d + 4) (x := nI n) (y := y) (I := I3) (N := uhS a (k + 1)) (f := I3 99) (l3 := some (.inl (nI k))) (s := uaS (I3 94) 0 m 0) h (fun p hp => by rw [f2 99 (by decide) (by decide) (by decide), e2 p hp, f1, uhS, em2]) 30 0 (by omega)
    rw [thS_0, vu_id] at r5
    have r5 : rn Ls xs (d + 4) 40 111 [some (.inr (.inl (some 93))), some (.inl (nI n)), some (.inl y), some (.inl (nI k)), some (.inl (uaS (I3 94) 0 m 0)), some (.inl 0)] [] (S, I3, R) = _ := r5
    obtain ⟨I4, o4, o5, g1, g2, g3, g4, r6⟩ := ih (k + 1) (va_up I3 99 (thS (uhS a (k + 1)) (I3 99) 30)) (some (.inl (uaS (I3 94) 0 m 0))) (some (.inl (nI 30))) (by omega) (by rw [vu_n (by decide)]; exact f1) (fun p hp => by rw [vu_s, thS_lt hp]) (by rw [vu_n (by decide), f2 97 (by decide) (by decide) (by decide), e3]) ((hf.hr f2).up (b := 99) (by omega))
    refine ⟨I4, o4, o5, g1, g2, g3, g4, ?_⟩
    rw [e_M_under_49]
    simp only [e_M_under_50, e_M_under_51, e_M_under_54, e_M_under_55, e_M_under_58, e_M_under_59, e_M_under_61, e_M_under_62, nI_le' (show n < 2 ^ 31 by omega) (show k < 2 ^ 31 by omega), show ¬ n ≤ k by omega, and_self, and_true, true_and, and_false, false_and, or_true, true_or, or_false, false_or, not_true_eq_false, not_false_eq_true, if_true, if_false, ne_eq, ite_self, reduceCtorEq, i10, Decidable.not_not, Bool.and_self, Bool.and_true, Bool.true_and, is_93 h, r3, rb_v, r4]
    simp only [e_M_under_108, e_M_under_109, r5]
    simp only [e_M_under_141, e_M_under_144, nI_1, r6]
theorem l_M_under4 (h : WF S R) {f : Nat → Int32} (hf : ∀ p, p < 30 → I 99 p = f p) {l5 : Option mV} : ∀ (j p b : Nat), p + j = 30 → b < 30 → rn Ls xs d 40 156 [some (.inr (.inl (some 93))), some (.inl x), some (.inl y), some (.inl (nI b)), some (.inl (nI p)), l5] [] (S, I, R) = some (some (.inl (if y = 0 then nI (mxS f b p j) else f (mxS f b p j))), (S, I, R)) := by
  intro j
  induction j with
  | zero =>
    intro p b hp hb
    have : p = 30 := by omega
    subst this
    rw [e_M_under_156]
    simp only [e_M_under_158, e_M_under_160, e_M_under_163, e_M_under_164, e_M_under_167, e_M_under_169, e_M_under_170, e_M_under_171, e_M_under_174, e_M_under_175, e_M_under_176, e_M_under_179, e_M_under_181, e_M_under_184, e_M_under_185, e_M_under_186, e_M_under_189, e_M_under_192, e_M_under_193, e_M_under_196, e_M_under_197, e_M_under_200, e_M_under_201, e_M_under_204, e_M_under_205, e_M_under_206, show ((30 : Int32) ≤ nI 30) by decide, and_self, and_true, true_and, and_false, false_and, or_true, true_or, or_false, false_or, not_true_eq_false, not_false_eq_true, if_true, if_false, ne_eq, ite_self, reduceCtorEq, i10, Decidable.not_not, Bool.and_self, Bool.and_true, Bool.true_and, is_93 h, rf_93_6 h, ia_99 h hb, nI_clamp (show b < 2 ^ 31 by omega), hf b hb, it_i, mxS, ite_not]
  | succ j ih =>
    intro p b hp hb
    have hlt : ¬ (30 : Int32) ≤ nI p := by rw [show (30 : Int32) = nI 30 from rfl, nI_le' (by decide) (by omega)]; omega
    rw [e_M_under_156]
    simp only [e_M_under_158, e_M_under_160, e_M_under_163, e_M_under_164, e_M_under_167, e_M_under_169, e_M_under_170, e_M_under_171, e_M_under_174, e_M_under_175, e_M_under_176, e_M_under_179, e_M_under_181, e_M_under_184, e_M_under_185, e_M_under_186, e_M_under_189, hlt, and_self, and_true, true_and, and_false, false_and, or_true, true_or, or_false, false_or, not_true_eq_false, not_false_eq_true, if_true, if_false, ne_eq, ite_self, reduceCtorEq, i10, Decidable.not_not, Bool.and_self, Bool.and_true, Bool.true_and, is_93 h, rf_93_6 h, ia_99 h hb, ia_99 h (show p < 30 by omega), nI_clamp (show b < 2 ^ 31 by omega), nI_clamp (show p < 2 ^ 31 by omega), hf b hb, hf p (by omega), nI_1, mxS]
    by_cases hl : f b < f p
    · rw [if_neg (i_nle.mpr hl)]
      simp only [hl, and_self, and_true, true_and, and_false, false_and, or_true, true_or, or_false, false_or, not_true_eq_false, not_false_eq_true, if_true, if_false, ne_eq, ite_self, reduceCtorEq, i10, Decidable.not_not, Bool.and_self, Bool.and_true, Bool.true_and]
      exact ih (p + 1) p (by omega) (by omega)
    · rw [if_pos (i_nlt.mp hl)]
      simp only [hl, and_self, and_true, true_and, and_false, false_and, or_true, true_or, or_false, false_or, not_true_eq_false, not_false_eq_true, if_true, if_false, ne_eq, ite_self, reduceCtorEq, i10, Decidable.not_not, Bool.and_self, Bool.and_true, Bool.true_and]
      exact ih (p + 1) b (by omega) hb
noncomputable def sp_under (A : mI) (x y : Int32) : Int32 × mI := (if (1 ≤ x ∧ x ≤ 100) ∧ 0 ≤ y ∧ y ≤ 1 then (if y = 0 then nI (mxS (uhS (A 94) (cW x)) 0 1 29) else uhS (A 94) (cW x) (mxS (uhS (A 94) (cW x)) 0 1 29)) else BADi, A)
theorem o_M_under (h : WF S R) (hm : MR I A) (hr : rwOK (A 94)) : ∃ I2, MR I2 (sp_under A x y).2 ∧ rn Ls xs (d + 9) 40 0 [some (.inr (.inl (some 93))), some (.inl x), some (.inl y), none, none, none] [] (S, I, R) = some (some (.inl (sp_under A x y).1), (S, I2, R)) := by
  have hr2 : rwOK (I 94) := by rw [hm.now]; exact hr
  unfold sp_under
  by_cases h1 : 1 ≤ x ∧ x ≤ 100
  · by_cases h2 : 0 ≤ y ∧ y ≤ 1
    · obtain ⟨n, -, hn, rfl⟩ := inN (a := 1) (b := 100) (by decide) h1 rfl rfl
      have r0 := l_M_under0 (Ls := Ls) (xs := xs) (d := d + 9) (x := nI n) (y := y) (I := va_up I 97 (thS (I 94) (I 97) 92)) (l4 := none) (l5 := none) (c := I 99) h 30 0 (by omega)
      rw [thS_0, vu_id' (I := va_up I 97 (thS (I 94) (I 97) 92)) (by rw [vu_n (by decide)])] at r0
      have r0 : rn Ls xs (d + 9) 40 28 [some (.inr (.inl (some 93))), some (.inl (nI n)), some (.inl y), some (.inl 0), none, none] [] (S, va_up I 97 (thS (I 94) (I 97) 92), R) = _ := r0
      obtain ⟨I3, o4, o5, g1, g2, g3, g4, r1⟩ := l_M_under3 (Ls := Ls) (xs := xs) (d := d + 5) (y := y) (I := I) (a := I 94) (t := thS (I 94) (I 97) 92) h hn hr2 n 0 (va_up (va_up I 97 (thS (I 94) (I 97) 92)) 99 (thS (fun _ => 0) (I 99) 30)) none none (by omega) (by rw [vu_n (by decide), vu_n (by decide)]; rfl) (fun p hp => by rw [vu_s, thS_lt hp]; rfl) (by rw [vu_n (by decide), vu_s]) ((Fr.rfl'.up (by omega)).up (by omega))
      have r1 : rn Ls xs (d + 9) 40 49 [some (.inr (.inl (some 93))), some (.inl (nI n)), some (.inl y), some (.inl 0), none, none] [] (S, va_up (va_up I 97 (thS (I 94) (I 97) 92)) 99 (thS (fun _ => 0) (I 99) 30), R) = _ := r1
      have r2 : rn Ls xs (d + 9) 40 156 [some (.inr (.inl (some 93))), some (.inl (nI n)), some (.inl y), some (.inl 0), some (.inl 1), o5] [] (S, va_up I3 94 (I 94), R) = _ := l_M_under4 (Ls := Ls) (xs := xs) (d := d + 9) (x := nI n) (y := y) (I := va_up I3 94 (I 94)) (f := uhS (I 94) n) (l5 := o5) h (fun p hp => by rw [vu_n (by decide)]; exact g2 p hp) 29 1 0 (by omega) (by omega)
      refine ⟨va_up I3 94 (I 94), hm.fr (g4.up (by omega)) (by rw [vu_s]; exact hm.now), ?_⟩
      simp only [e_M_under_0, e_M_under_1, e_M_under_2, e_M_under_4, e_M_under_7, e_M_under_10, e_M_under_11, e_M_under_12, e_M_under_13, e_M_under_16, e_M_under_19, e_M_under_21, e_M_under_22, e_M_under_23, e_M_under_26, e_M_under_27, k_M_in, rb_i, rb_v, in0, in1, h1, h2, and_self, and_true, true_and, and_false, false_and, or_true, true_or, or_false, false_or, not_true_eq_false, not_false_eq_true, if_true, if_false, ne_eq, ite_self, reduceCtorEq, i10, Decidable.not_not, Bool.and_self, Bool.and_true, Bool.true_and, is_93 h, k_M_thinks h, r0]
      simp only [e_M_under_47, e_M_under_48, r1]
      simp only [e_M_under_147, e_M_under_148, e_M_under_151, e_M_under_152, e_M_under_153, e_M_under_154, is_93 h, and_self, and_true, true_and, and_false, false_and, or_true, true_or, or_false, false_or, not_true_eq_false, not_false_eq_true, if_true, if_false, ne_eq, ite_self, reduceCtorEq, i10, Decidable.not_not, Bool.and_self, Bool.and_true, Bool.true_and, k_M_back' h g3 (fun i hi => by rw [g1]; exact hrs_hi hr2 hi n), rb_v, r2, cW, nI_clamp (show n < 2 ^ 31 by omega), ← hm.now]
    · exact ⟨I, hm, by simp only [e_M_under_0, e_M_under_1, e_M_under_2, e_M_under_4, e_M_under_7, e_M_under_10, e_M_under_11, e_M_under_12, e_M_under_13, e_M_under_16, e_M_under_19, e_M_under_21, e_M_under_22, e_M_under_23, e_M_under_26, e_M_under_27, k_M_in, rb_i, in0, in1, h1, h2, and_self, and_true, true_and, and_false, false_and, or_true, true_or, or_false, false_or, not_true_eq_false, not_false_eq_true, if_true, if_false, ne_eq, ite_self, reduceCtorEq, i10, Decidable.not_not, Bool.and_self, Bool.and_true, Bool.true_and]⟩
  · exact ⟨I, hm, by simp only [e_M_under_0, e_M_under_1, e_M_under_2, e_M_under_4, e_M_under_7, e_M_under_10, e_M_under_11, e_M_under_12, e_M_under_13, e_M_under_16, e_M_under_19, e_M_under_21, e_M_under_22, e_M_under_23, e_M_under_26, e_M_under_27, k_M_in, rb_i, in0, in1, h1, and_self, and_true, true_and, and_false, false_and, or_true, true_or, or_false, false_or, not_true_eq_false, not_false_eq_true, if_true, if_false, ne_eq, ite_self, reduceCtorEq, i10, Decidable.not_not, Bool.and_self, Bool.and_true, Bool.true_and]⟩
theorem k_M_apart {H : mH} : rn Ls xs (d + 1) 148 0 [some (.inl x), some (.inl y), none] [] H = some (some (.inl (apS x y)), H) := by
  simp only [e_M_apart_0, e_M_apart_1, e_M_apart_2, e_M_apart_3, e_M_apart_6, e_M_apart_7, e_M_apart_8, e_M_apart_10, e_M_apart_11, e_M_apart_12, e_M_apart_15, e_M_apart_17, e_M_apart_18, e_M_apart_19, e_M_apart_22, e_M_apart_23, k_M_round, rb_i, apS, rdS]
  generalize (if rem (x - y) 30 < 0 then rem (x - y) 30 + 30 else rem (x - y) 30) = t
  by_cases hl : 30 - t < t
  · simp only [hl, i_nle.mpr hl, and_self, and_true, true_and, and_false, false_and, or_true, true_or, or_false, false_or, not_true_eq_false, not_false_eq_true, if_true, if_false, ne_eq, ite_self, reduceCtorEq, i10, Decidable.not_not, Bool.and_self, Bool.and_true, Bool.true_and]
  · simp only [hl, i_nlt.mp hl, and_self, and_true, true_and, and_false, false_and, or_true, true_or, or_false, false_or, not_true_eq_false, not_false_eq_true, if_true, if_false, ne_eq, ite_self, reduceCtorEq, i10, Decidable.not_not, Bool.and_self, Bool.and_true, Bool.true_and]
theorem l_M_nearer (h : WF S R) {n w : Nat} {l2 : Option mV} (hn : n ≤ 14) (hw : w < 14) (e1 : I 94 1 = nI n) : ∀ (j o : Nat) (s : Int32) (l5 : Option mV), o + j = n → rn Ls xs (d + 2) 142 5 [some (.inr (.inl (some 93))), some (.inl (nI w)), l2, some (.inl s), some (.inl (nI o)), l5] [] (S, I, R) = some (some (.inl (nrS (I 94) w o j s)), (S, I, R)) := by
  intro j
  induction j with
  | zero =>
    intro o s l5 ho
    have : o = n := by omega
    subst this
    rw [e_M_nearer_5]
    simp only [e_M_nearer_0, e_M_nearer_1, e_M_nearer_2, e_M_nearer_3, e_M_nearer_7, e_M_nearer_8, e_M_nearer_11, e_M_nearer_12, e_M_nearer_13, e_M_nearer_16, e_M_nearer_18, e_M_nearer_19, e_M_nearer_22, e_M_nearer_23, e_M_nearer_24, e_M_nearer_27, e_M_nearer_30, e_M_nearer_31, e_M_nearer_33, e_M_nearer_36, e_M_nearer_39, e_M_nearer_40, e_M_nearer_42, e_M_nearer_43, e_M_nearer_46, e_M_nearer_47, e_M_nearer_48, e_M_nearer_49, e_M_nearer_52, e_M_nearer_55, e_M_nearer_56, e_M_nearer_58, e_M_nearer_59, e_M_nearer_62, e_M_nearer_63, e_M_nearer_64, e_M_nearer_65, e_M_nearer_68, e_M_nearer_71, e_M_nearer_73, e_M_nearer_74, e_M_nearer_76, e_M_nearer_79, e_M_nearer_81, e_M_nearer_82, e_M_nearer_85, e_M_nearer_87, e_M_nearer_90, e_M_nearer_91, e_M_nearer_92, e_M_nearer_95, e_M_nearer_98, e_M_nearer_99, is_93 h, rf_93_0 h, and_self, and_true, true_and, and_false, false_and, or_true, true_or, or_false, false_or, not_true_eq_false, not_false_eq_true, if_true, if_false, ne_eq, ite_self, reduceCtorEq, i10, Decidable.not_not, Bool.and_self, Bool.and_true, Bool.true_and, ia94_1 h, cl_1, e1, nI_le' (show o < 2 ^ 31 by omega) (show o < 2 ^ 31 by omega), Nat.le_refl, nrS]
  | succ j ih =>
    intro o s l5 ho
    have ho14 : o < 14 := by omega
    rw [e_M_nearer_5]
    simp only [e_M_nearer_0, e_M_nearer_1, e_M_nearer_2, e_M_nearer_3, e_M_nearer_7, e_M_nearer_8, e_M_nearer_11, e_M_nearer_12, e_M_nearer_13, e_M_nearer_16, e_M_nearer_18, e_M_nearer_19, e_M_nearer_22, e_M_nearer_23, e_M_nearer_24, e_M_nearer_27, e_M_nearer_30, e_M_nearer_31, e_M_nearer_33, e_M_nearer_36, e_M_nearer_39, e_M_nearer_40, e_M_nearer_42, e_M_nearer_43, e_M_nearer_46, e_M_nearer_47, e_M_nearer_48, e_M_nearer_49, e_M_nearer_52, e_M_nearer_55, e_M_nearer_56, e_M_nearer_58, e_M_nearer_59, e_M_nearer_62, e_M_nearer_63, e_M_nearer_64, e_M_nearer_65, e_M_nearer_68, e_M_nearer_71, e_M_nearer_73, e_M_nearer_74, e_M_nearer_76, e_M_nearer_79, e_M_nearer_81, e_M_nearer_82, e_M_nearer_85, e_M_nearer_87, e_M_nearer_90, e_M_nearer_91, e_M_nearer_92, e_M_nearer_95, e_M_nearer_98, e_M_nearer_99, is_93 h, rf_93_0 h, and_self, and_true, true_and, and_false, false_and, or_true, true_or, or_false, false_or, not_true_eq_false, not_false_eq_true, if_true, if_false, ne_eq, ite_self, reduceCtorEq, i10, Decidable.not_not, Bool.and_self, Bool.and_true, Bool.true_and, ia94_1 h, cl_1, e1, nI_le' (show n < 2 ^ 31 by omega) (show o < 2 ^ 31 by omega), show ¬ n ≤ o by omega, nI_eq' (show o < 2 ^ 31 by omega) (show w < 2 ^ 31 by omega), k_M_isUp h ho14, k_M_isUp h hw, k_M_of_1 h ho14, k_M_of_1 h hw, k_M_of_2 h ho14, k_M_of_2 h hw, k_M_apart, rb_i, in0, nI_1, ih _ _ _ (show o + 1 + j = n by omega), nrS]
    by_cases h1 : o = w
    · simp only [h1, and_self, and_true, true_and, and_false, false_and, or_true, true_or, or_false, false_or, not_true_eq_false, not_false_eq_true, if_true, if_false, ne_eq, ite_self, reduceCtorEq, i10, Decidable.not_not, Bool.and_self, Bool.and_true, Bool.true_and]
    · by_cases h2 : I 94 (8 + 6 * w + 5) = 1
      · by_cases h3 : I 94 (8 + 6 * o + 5) = 1
        · by_cases h4 : I 94 (8 + 6 * o + 1) = I 94 (8 + 6 * w + 1)
          · by_cases h5 : s = NN
            · simp only [h1, h2, h3, h4, h5, and_self, and_true, true_and, and_false, false_and, or_true, true_or, or_false, false_or, not_true_eq_false, not_false_eq_true, if_true, if_false, ne_eq, ite_self, reduceCtorEq, i10, Decidable.not_not, Bool.and_self, Bool.and_true, Bool.true_and]
            · by_cases h6 : apS (I 94 (8 + 6 * o + 2)) (I 94 (8 + 6 * w + 2)) < s
              · simp only [h1, h2, h3, h4, h5, h6, i_nle.mpr h6, and_self, and_true, true_and, and_false, false_and, or_true, true_or, or_false, false_or, not_true_eq_false, not_false_eq_true, if_true, if_false, ne_eq, ite_self, reduceCtorEq, i10, Decidable.not_not, Bool.and_self, Bool.and_true, Bool.true_and]
              · simp only [h1, h2, h3, h4, h5, h6, i_nlt.mp h6, and_self, and_true, true_and, and_false, false_and, or_true, true_or, or_false, false_or, not_true_eq_false, not_false_eq_true, if_true, if_false, ne_eq, ite_self, reduceCtorEq, i10, Decidable.not_not, Bool.and_self, Bool.and_true, Bool.true_and]
          · simp only [h1, h2, h3, h4, and_self, and_true, true_and, and_false, false_and, or_true, true_or, or_false, false_or, not_true_eq_false, not_false_eq_true, if_true, if_false, ne_eq, ite_self, reduceCtorEq, i10, Decidable.not_not, Bool.and_self, Bool.and_true, Bool.true_and]
        · simp only [h1, h2, h3, and_self, and_true, true_and, and_false, false_and, or_true, true_or, or_false, false_or, not_true_eq_false, not_false_eq_true, if_true, if_false, ne_eq, ite_self, reduceCtorEq, i10, Decidable.not_not, Bool.and_self, Bool.and_true, Bool.true_and]
      · simp only [h1, h2, and_self, and_true, true_and, and_false, false_and, or_true, true_or, or_false, false_or, not_true_eq_false, not_false_eq_true, if_true, if_false, ne_eq, ite_self, reduceCtorEq, i10, Decidable.not_not, Bool.and_self, Bool.and_true, Bool.true_and]
theorem k_M_nearer (h : WF S R) {w : Nat} (hw : w < 14) (hr : rwOK (I 94)) : rn Ls xs (d + 2) 142 0 [some (.inr (.inl (some 93))), some (.inl (nI w)), some (.inl x), none, none, none] [] (S, I, R) = some (some (.inl (nrS (I 94) w 0 (cW (I 94 1)) x)), (S, I, R)) := by
  obtain ⟨n, hn, e1⟩ := hr.1
  have r1 : rn Ls xs (d + 2) 142 5 [some (.inr (.inl (some 93))), some (.inl (nI w)), some (.inl x), some (.inl x), some (.inl 0), none] [] (S, I, R) = _ := l_M_nearer (Ls := Ls) (xs := xs) (d := d) (l2 := some (.inl x)) h hn hw e1 n 0 x none (by omega)
  simp only [e_M_nearer_0, e_M_nearer_1, e_M_nearer_2, e_M_nearer_3, r1, e1, cW, nI_clamp (show n < 2 ^ 31 by omega)]
theorem l_M_nearest (h : WF S R) {a t : Nat → Int32} {n w : Nat} (hn : n ≤ 100) (hw : w < 14) (ha : rwOK a) : ∀ (j k : Nat) (I2 : mI), k + j = n → I2 94 = hrsS a k → I2 97 = t → Fr I I2 → ∃ I3, I3 94 = hrsS a n ∧ I3 97 = t ∧ Fr I I3 ∧
    rn Ls xs (d + 4) 42 36 [some (.inr (.inl (some 93))), some (.inl (nI w)), some (.inl (nI n)), some (.inl (nsS a w k)), some (.inl (nI k))] [] (S, I2, R) = rn Ls xs (d + 4) 42 59 [some (.inr (.inl (some 93))), some (.inl (nI w)), some (.inl (nI n)), some (.inl (nsS a w n)), some (.inl (nI n))] [] (S, I3, R) := by
  intro j
  induction j with
  | zero =>
    intro k I2 hk e1 e3 hf
    have : k = n := by omega
    subst this
    refine ⟨I2, e1, e3, hf, ?_⟩
    rw [e_M_nearest_36]
    simp only [e_M_nearest_38, e_M_nearest_39, nI_le' (show k < 2 ^ 31 by omega) (show k < 2 ^ 31 by omega), Nat.le_refl, and_self, and_true, true_and, and_false, false_and, or_true, true_or, or_false, false_or, not_true_eq_false, not_false_eq_true, if_true, if_false, ne_eq, ite_self, reduceCtorEq, i10, Decidable.not_not, Bool.and_self, Bool.and_true, Bool.true_and]
  | succ j ih =>
    intro k I2 hk e1 e3 hf
    have hr : rwOK (I2 94) := by rw [e1]; exact rwOK_hrs ha k
    obtain ⟨I3, f1, f2, r3⟩ := k_M_hour' (Ls := Ls) (xs := xs) (d := d) (I := I2) h hr
    rw [e1] at f1
    have f1 : I3 94 = hrsS a (k + 1) := f1
    have hr3 : rwOK (I3 94) := by rw [f1]; exact rwOK_hrs ha (k + 1)
    obtain ⟨I4, g1, g3, g4, r6⟩ := ih (k + 1) I3 (by omega) f1 (by rw [f2 97 (by decide) (by decide) (by decide), e3]) (hf.hr f2)
    refine ⟨I4, g1, g3, g4, ?_⟩
    rw [e_M_nearest_36]
    simp only [nsS] at r6
    simp only [e_M_nearest_38, e_M_nearest_39, e_M_nearest_42, e_M_nearest_43, e_M_nearest_46, e_M_nearest_47, e_M_nearest_48, e_M_nearest_49, e_M_nearest_52, e_M_nearest_53, e_M_nearest_56, nI_le' (show n < 2 ^ 31 by omega) (show k < 2 ^ 31 by omega), show ¬ n ≤ k by omega, and_self, and_true, true_and, and_false, false_and, or_true, true_or, or_false, false_or, not_true_eq_false, not_false_eq_true, if_true, if_false, ne_eq, ite_self, reduceCtorEq, i10, Decidable.not_not, Bool.and_self, Bool.and_true, Bool.true_and, is_93 h, r3, rb_v, k_M_nearer h hw hr3, rb_i, f1, nI_1, r6]
noncomputable def sp_nearest (A : mI) (x y : Int32) : Int32 × mI := (if isWr A x ∧ 0 ≤ y ∧ y ≤ 100 then nsS (A 94) (cW x) (cW y) else BADi, A)
theorem o_M_nearest (h : WF S R) (hm : MR I A) (hr : rwOK (A 94)) : ∃ I2, MR I2 (sp_nearest A x y).2 ∧ rn Ls xs (d + 9) 42 0 [some (.inr (.inl (some 93))), some (.inl x), some (.inl y), none, none] [] (S, I, R) = some (some (.inl (sp_nearest A x y).1), (S, I2, R)) := by
  obtain ⟨m, hm14, em⟩ := hr.1
  have e2 : I 94 1 = nI m := by rw [hm.now, em]
  have hr2 : rwOK (I 94) := by rw [hm.now]; exact hr
  unfold sp_nearest
  by_cases h1 : isWr A x
  · obtain ⟨w, hw, rfl⟩ := isW hm14 (by rw [← em]; exact h1)
    have h2 : 0 ≤ nI w ∧ nI w ≤ nI m - 1 := by rw [isWr, em] at h1; exact h1
    by_cases h3 : 0 ≤ y ∧ y ≤ 100
    · obtain ⟨n, -, hn, rfl⟩ := inN (a := 0) (b := 100) (by decide) h3 rfl rfl
      obtain ⟨I3, g1, g3, g4, r1⟩ := l_M_nearest (Ls := Ls) (xs := xs) (d := d + 5) (I := I) (a := I 94) (t := thS (I 94) (I 97) 92) h hn (show w < 14 by omega) hr2 n 0 (va_up I 97 (thS (I 94) (I 97) 92)) (by omega) (by rw [vu_n (by decide)]; rfl) vu_s (Fr.rfl'.up (by omega))
      have r1 : rn Ls xs (d + 9) 42 36 [some (.inr (.inl (some 93))), some (.inl (nI w)), some (.inl (nI n)), some (.inl (nrS (I 94) w 0 (cW (I 94 1)) NN)), some (.inl 0)] [] (S, va_up I 97 (thS (I 94) (I 97) 92), R) = _ := r1
      refine ⟨va_up I3 94 (I 94), hm.fr (g4.up (by omega)) (by rw [vu_s]; exact hm.now), ?_⟩
      have kn := k_M_nearer (Ls := Ls) (xs := xs) (d := d + 6) (I := va_up I 97 (thS (I 94) (I 97) 92)) (x := NN) h (show w < 14 by omega) (by rw [vu_n (by decide)]; exact hr2)
      rw [vu_n (show 94 ≠ 97 by decide)] at kn
      simp only [e_M_nearest_0, e_M_nearest_1, e_M_nearest_2, e_M_nearest_5, e_M_nearest_8, e_M_nearest_9, e_M_nearest_10, e_M_nearest_12, e_M_nearest_15, e_M_nearest_18, e_M_nearest_20, e_M_nearest_21, e_M_nearest_22, e_M_nearest_25, e_M_nearest_26, e_M_nearest_27, e_M_nearest_29, e_M_nearest_32, e_M_nearest_33, e_M_nearest_34, k_M_isWreck h hm14 e2, k_M_in, rb_i, rb_v, in0, in1, h2, h3, and_self, and_true, true_and, and_false, false_and, or_true, true_or, or_false, false_or, not_true_eq_false, not_false_eq_true, if_true, if_false, ne_eq, ite_self, reduceCtorEq, i10, Decidable.not_not, Bool.and_self, Bool.and_true, Bool.true_and, is_93 h, k_M_thinks h, kn, r1, isWr, em]
      simp only [e_M_nearest_59, e_M_nearest_60, e_M_nearest_63, e_M_nearest_64, is_93 h, and_self, and_true, true_and, and_false, false_and, or_true, true_or, or_false, false_or, not_true_eq_false, not_false_eq_true, if_true, if_false, ne_eq, ite_self, reduceCtorEq, i10, Decidable.not_not, Bool.and_self, Bool.and_true, Bool.true_and, k_M_back' h g3 (fun i hi => by rw [g1]; exact hrs_hi hr2 hi n), rb_v, cW, nI_clamp (show n < 2 ^ 31 by omega), nI_clamp (show w < 2 ^ 31 by omega), ← hm.now]
    · exact ⟨I, hm, by simp only [e_M_nearest_0, e_M_nearest_1, e_M_nearest_2, e_M_nearest_5, e_M_nearest_8, e_M_nearest_9, e_M_nearest_10, e_M_nearest_12, e_M_nearest_15, e_M_nearest_18, e_M_nearest_20, e_M_nearest_21, e_M_nearest_22, e_M_nearest_25, e_M_nearest_26, e_M_nearest_27, e_M_nearest_29, e_M_nearest_32, e_M_nearest_33, e_M_nearest_34, k_M_isWreck h hm14 e2, k_M_in, rb_i, in0, in1, is_93 h, h2, h3, and_self, and_true, true_and, and_false, false_and, or_true, true_or, or_false, false_or, not_true_eq_false, not_false_eq_true, if_true, if_false, ne_eq, ite_self, reduceCtorEq, i10, Decidable.not_not, Bool.and_self, Bool.and_true, Bool.true_and, isWr, em]⟩
  · have h2 : ¬ (0 ≤ x ∧ x ≤ nI m - 1) := by rw [isWr, em] at h1; exact h1
    exact ⟨I, hm, by simp only [e_M_nearest_0, e_M_nearest_1, e_M_nearest_2, e_M_nearest_5, e_M_nearest_8, e_M_nearest_9, e_M_nearest_10, e_M_nearest_12, e_M_nearest_15, e_M_nearest_18, e_M_nearest_20, e_M_nearest_21, e_M_nearest_22, e_M_nearest_25, e_M_nearest_26, e_M_nearest_27, e_M_nearest_29, e_M_nearest_32, e_M_nearest_33, e_M_nearest_34, k_M_isWreck h hm14 e2, rb_i, in0, in1, is_93 h, h2, and_self, and_true, true_and, and_false, false_and, or_true, true_or, or_false, false_or, not_true_eq_false, not_false_eq_true, if_true, if_false, ne_eq, ite_self, reduceCtorEq, i10, Decidable.not_not, Bool.and_self, Bool.and_true, Bool.true_and, isWr, em]⟩
end MT17

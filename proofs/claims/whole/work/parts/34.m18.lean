/-! THE REFERENCE's calls: seen -/
noncomputable def dfS (a c : Nat → Int32) (b : Nat) : Nat → Nat → Int32
  | 0, _ => 0
  | k + 1, w => dfS a c b k w + (if c (24 * b + k) = NN then 0 else apS (rdS (c (24 * b + k))) (hrsS a k (8 + 6 * w + 2)))
def mnS (f : Nat → Int32) : Nat → Nat → Nat → Nat
  | b, _, 0 => b
  | b, p, j + 1 => mnS f (if f p < f b then p else b) (p + 1) j
section MT18
variable {Ls : Nat} {xs : Nat → Int32} {d : Nat} {S : mS} {I A : mI} {R : mR} {x y z u v : Int32}
theorem l_M_seen0 (h : WF S R) {l5 l6 : Option mV} {c : Nat → Int32} {n : Nat} (hn : n ≤ 14) : ∀ (j k : Nat), k + j = n → rn Ls xs d 44 45 [some (.inr (.inl (some 93))), some (.inl x), some (.inl y), some (.inl (nI n)), some (.inl (nI k)), l5, l6] [] (S, va_up I 100 (thS (fun _ => 0) c k), R) = rn Ls xs d 44 65 [some (.inr (.inl (some 93))), some (.inl x), some (.inl y), some (.inl (nI n)), some (.inl (nI n)), l5, l6] [] (S, va_up I 100 (thS (fun _ => 0) c n), R) := by
  intro j
  induction j with
  | zero =>
    intro k hk
    have : k = n := by omega
    subst this
    rw [e_M_seen_45]
    simp only [e_M_seen_47, e_M_seen_48, nI_le' (show k < 2 ^ 31 by omega) (show k < 2 ^ 31 by omega), Nat.le_refl, and_self, and_true, true_and, and_false, false_and, or_true, true_or, or_false, false_or, not_true_eq_false, not_false_eq_true, if_true, if_false, ne_eq, ite_self, reduceCtorEq, i10, Decidable.not_not, Bool.and_self, Bool.and_true, Bool.true_and]
  | succ j ih =>
    intro k hk
    have q3 := thS_s (a := fun _ => 0) (b := c) (k := k)
    rw [e_M_seen_45]
    simp only [e_M_seen_47, e_M_seen_48, e_M_seen_51, e_M_seen_52, e_M_seen_55, e_M_seen_57, e_M_seen_58, e_M_seen_59, e_M_seen_62, nI_le' (show n < 2 ^ 31 by omega) (show k < 2 ^ 31 by omega), show ¬ n ≤ k by omega, and_self, and_true, true_and, and_false, false_and, or_true, true_or, or_false, false_or, not_true_eq_false, not_false_eq_true, if_true, if_false, ne_eq, ite_self, reduceCtorEq, i10, Decidable.not_not, Bool.and_self, Bool.and_true, Bool.true_and, is_93 h, rf_93_7 h, ia_100 h (show k < 14 by omega), nI_clamp (show k < 2 ^ 31 by omega), vu_s, vu_vu, q3, nI_1]
    exact ih (k + 1) (by omega)
theorem l_M_seen1 (h : WF S R) {N f : Nat → Int32} {l4 : Option mV} {n : Nat} (hn : n ≤ 14) (hN : ∀ p, p < n → f p + (if v = NN then 0 else apS (rdS v) (I 94 (8 + 6 * p + 2))) = N p) : ∀ (j p : Nat), p + j = n → rn Ls xs (d + 2) 44 96 [some (.inr (.inl (some 93))), some (.inl x), some (.inl y), some (.inl (nI n)), l4, some (.inl v), some (.inl (nI p))] [] (S, va_up I 100 (thS N f p), R) = rn Ls xs (d + 2) 44 144 [some (.inr (.inl (some 93))), some (.inl x), some (.inl y), some (.inl (nI n)), l4, some (.inl v), some (.inl (nI n))] [] (S, va_up I 100 (thS N f n), R) := by
  intro j
  induction j with
  | zero =>
    intro k hk
    have : k = n := by omega
    subst this
    rw [e_M_seen_96]
    simp only [e_M_seen_98, e_M_seen_99, nI_le' (show k < 2 ^ 31 by omega) (show k < 2 ^ 31 by omega), Nat.le_refl, and_self, and_true, true_and, and_false, false_and, or_true, true_or, or_false, false_or, not_true_eq_false, not_false_eq_true, if_true, if_false, ne_eq, ite_self, reduceCtorEq, i10, Decidable.not_not, Bool.and_self, Bool.and_true, Bool.true_and]
  | succ j ih =>
    intro k hk
    have hN1 := hN k (by omega)
    rw [e_M_seen_96]
    by_cases hv : v = NN
    · rw [if_pos hv] at hN1
      simp only [e_M_seen_98, e_M_seen_99, e_M_seen_102, e_M_seen_103, e_M_seen_106, e_M_seen_108, e_M_seen_109, e_M_seen_110, e_M_seen_112, e_M_seen_114, e_M_seen_117, e_M_seen_118, e_M_seen_121, e_M_seen_123, e_M_seen_126, e_M_seen_127, e_M_seen_129, e_M_seen_130, e_M_seen_133, e_M_seen_136, e_M_seen_137, e_M_seen_138, e_M_seen_141, nI_le' (show n < 2 ^ 31 by omega) (show k < 2 ^ 31 by omega), show ¬ n ≤ k by omega, and_self, and_true, true_and, and_false, false_and, or_true, true_or, or_false, false_or, not_true_eq_false, not_false_eq_true, if_true, if_false, ne_eq, ite_self, reduceCtorEq, i10, Decidable.not_not, Bool.and_self, Bool.and_true, Bool.true_and, is_93 h, rf_93_7 h, ia_100 h (show k < 14 by omega), nI_clamp (show k < 2 ^ 31 by omega), vu_s, vu_vu, thS_ge (Nat.le_refl k), hv, hN1, thS_s, nI_1]
      rw [← hv]
      exact ih (k + 1) (by omega)
    · rw [if_neg hv] at hN1
      simp only [rdS] at hN1
      simp only [e_M_seen_98, e_M_seen_99, e_M_seen_102, e_M_seen_103, e_M_seen_106, e_M_seen_108, e_M_seen_109, e_M_seen_110, e_M_seen_112, e_M_seen_114, e_M_seen_117, e_M_seen_118, e_M_seen_121, e_M_seen_123, e_M_seen_126, e_M_seen_127, e_M_seen_129, e_M_seen_130, e_M_seen_133, e_M_seen_136, e_M_seen_137, e_M_seen_138, e_M_seen_141, nI_le' (show n < 2 ^ 31 by omega) (show k < 2 ^ 31 by omega), show ¬ n ≤ k by omega, and_self, and_true, true_and, and_false, false_and, or_true, true_or, or_false, false_or, not_true_eq_false, not_false_eq_true, if_true, if_false, ne_eq, ite_self, reduceCtorEq, i10, Decidable.not_not, Bool.and_self, Bool.and_true, Bool.true_and, is_93 h, rf_93_7 h, ia_100 h (show k < 14 by omega), nI_clamp (show k < 2 ^ 31 by omega), vu_s, vu_vu, thS_ge (Nat.le_refl k), hv, k_M_round, rb_i, k_M_of_2 h (show k < 14 by omega), vu_n (show 94 ≠ 100 by decide), k_M_apart, hN1, thS_s, nI_1]
      exact ih (k + 1) (by omega)
theorem l_M_seen2 (h : WF S R) {a t c : Nat → Int32} {n b m : Nat} (hn : n ≤ 14) (hb : b < 4) (hm : m ≤ 24) (ha : rwOK a) (e110 : I 110 b = nI m) (e111 : I 111 = c) : ∀ (j k : Nat) (I2 : mI) (l5 l6 : Option mV), k + j = m → I2 94 = hrsS a k → (∀ p, p < n → I2 100 p = dfS a c b k p) → I2 97 = t → Fr I I2 → ∃ I3 o5 o6, I3 94 = hrsS a m ∧ (∀ p, p < n → I3 100 p = dfS a c b m p) ∧ I3 97 = t ∧ Fr I I3 ∧
    rn Ls xs (d + 4) 44 68 [some (.inr (.inl (some 93))), some (.inl (nI b)), some (.inl y), some (.inl (nI n)), some (.inl (nI k)), l5, l6] [] (S, I2, R) = rn Ls xs (d + 4) 44 154 [some (.inr (.inl (some 93))), some (.inl (nI b)), some (.inl y), some (.inl (nI n)), some (.inl (nI m)), o5, o6] [] (S, I3, R) := by
  intro j
  induction j with
  | zero =>
    intro k I2 l5 l6 hk e1 e2 e3 hf
    have : k = m := by omega
    subst this
    refine ⟨I2, l5, l6, e1, e2, e3, hf, ?_⟩
    rw [e_M_seen_68]
    simp only [e_M_seen_70, e_M_seen_71, e_M_seen_74, e_M_seen_75, e_M_seen_76, is_93 h, rf_93_27 h, and_self, and_true, true_and, and_false, false_and, or_true, true_or, or_false, false_or, not_true_eq_false, not_false_eq_true, if_true, if_false, ne_eq, ite_self, reduceCtorEq, i10, Decidable.not_not, Bool.and_self, Bool.and_true, Bool.true_and, ia_110 h hb, nI_clamp (show b < 2 ^ 31 by omega), hf 110 (by omega), e110, nI_le' (show k < 2 ^ 31 by omega) (show k < 2 ^ 31 by omega), Nat.le_refl]
  | succ j ih =>
    intro k I2 l5 l6 hk e1 e2 e3 hf
    have hr : rwOK (I2 94) := by rw [e1]; exact rwOK_hrs ha k
    have q1 : (24 : Int32) * nI b + nI k = nI (24 * b + k) := by simp only [li, pk_mul, nI_add]
    have r5 := l_M_seen1 (Ls := Ls) (xs := xs) (d := d + 2) (x := nI b) (y := y) (v := c (24 * b + k)) (I := I2) (N := dfS a c b (k + 1)) (f := I2 100) (l4 := some (.inl (nI k))) h hn (fun p hp => by rw [e2 p hp, e1, dfS]) n 0 (by omega)
    rw [thS_0, vu_id] at r5
    have r5 : rn Ls xs (d + 4) 44 96 [some (.inr (.inl (some 93))), some (.inl (nI b)), some (.inl y), some (.inl (nI n)), some (.inl (nI k)), some (.inl (c (24 * b + k))), some (.inl 0)] [] (S, I2, R) = _ := r5
    obtain ⟨I3, f1, f2, r3⟩ := k_M_hour' (Ls := Ls) (xs := xs) (d := d) (I := va_up I2 100 (thS (dfS a c b (k + 1)) (I2 100) n)) h (by rw [vu_n (by decide)]; exact hr)
    rw [vu_n (by decide), e1] at f1
    have f1 : I3 94 = hrsS a (k + 1) := f1
    obtain ⟨I4, o5, o6, g1, g2, g3, g4, r6⟩ := ih (k + 1) I3 (some (.inl (c (24 * b + k)))) (some (.inl (nI n))) (by omega) f1 (fun p hp => by rw [f2 100 (by decide) (by decide) (by decide), vu_s, thS_lt hp]) (by rw [f2 97 (by decide) (by decide) (by decide), vu_n (by decide), e3]) ((hf.up (b := 100) (by omega)).hr f2)
    refine ⟨I4, o5, o6, g1, g2, g3, g4, ?_⟩
    rw [e_M_seen_68]
    simp only [e_M_seen_70, e_M_seen_71, e_M_seen_74, e_M_seen_75, e_M_seen_76, e_M_seen_79, e_M_seen_80, e_M_seen_83, e_M_seen_85, e_M_seen_86, e_M_seen_87, e_M_seen_89, e_M_seen_90, e_M_seen_91, e_M_seen_93, e_M_seen_94, is_93 h, rf_93_27 h, rf_93_28 h, and_self, and_true, true_and, and_false, false_and, or_true, true_or, or_false, false_or, not_true_eq_false, not_false_eq_true, if_true, if_false, ne_eq, ite_self, reduceCtorEq, i10, Decidable.not_not, Bool.and_self, Bool.and_true, Bool.true_and, ia_110 h hb, nI_clamp (show b < 2 ^ 31 by omega), hf 110 (by omega), hf 111 (by omega), e110, e111, nI_le' (show m < 2 ^ 31 by omega) (show k < 2 ^ 31 by omega), show ¬ m ≤ k by omega, q1, ia_111 h (show 24 * b + k < 96 by omega), nI_clamp (show 24 * b + k < 2 ^ 31 by omega), r5]
    simp only [e_M_seen_144, e_M_seen_145, e_M_seen_148, e_M_seen_151, is_93 h, and_self, and_true, true_and, and_false, false_and, or_true, true_or, or_false, false_or, not_true_eq_false, not_false_eq_true, if_true, if_false, ne_eq, ite_self, reduceCtorEq, i10, Decidable.not_not, Bool.and_self, Bool.and_true, Bool.true_and, r3, rb_v, nI_1, r6]
theorem l_M_seen3 (h : WF S R) {f : Nat → Int32} {n : Nat} (hn : n ≤ 14) (hn1 : 1 ≤ n) (hf : ∀ p, p < n → I 100 p = f p) {l6 : Option mV} : ∀ (j p b : Nat), p + j = n → b < n → rn Ls xs d 44 164 [some (.inr (.inl (some 93))), some (.inl x), some (.inl y), some (.inl (nI n)), some (.inl (nI b)), some (.inl (nI p)), l6] [] (S, I, R) = some (some (.inl (if y = 0 then nI (mnS f b p j) else f (mnS f b p j))), (S, I, R)) := by
  intro j
  induction j with
  | zero =>
    intro p b hp hb
    have : p = n := by omega
    subst this
    rw [e_M_seen_164]
    simp only [e_M_seen_166, e_M_seen_167, e_M_seen_170, e_M_seen_171, e_M_seen_174, e_M_seen_176, e_M_seen_177, e_M_seen_178, e_M_seen_181, e_M_seen_183, e_M_seen_184, e_M_seen_187, e_M_seen_189, e_M_seen_192, e_M_seen_194, e_M_seen_196, e_M_seen_199, e_M_seen_202, e_M_seen_203, e_M_seen_206, e_M_seen_208, e_M_seen_211, e_M_seen_212, e_M_seen_215, e_M_seen_217, e_M_seen_220, e_M_seen_221, e_M_seen_224, e_M_seen_226, e_M_seen_227, nI_le' (show p < 2 ^ 31 by omega) (show p < 2 ^ 31 by omega), Nat.le_refl, nI_ne0 (show 0 < p by omega) (show p < 2 ^ 31 by omega), and_self, and_true, true_and, and_false, false_and, or_true, true_or, or_false, false_or, not_true_eq_false, not_false_eq_true, if_true, if_false, ne_eq, ite_self, reduceCtorEq, i10, Decidable.not_not, Bool.and_self, Bool.and_true, Bool.true_and, is_93 h, rf_93_7 h, ia_100 h (show b < 14 by omega), nI_clamp (show b < 2 ^ 31 by omega), hf b hb, it_i, mnS, ite_not]
  | succ j ih =>
    intro p b hp hb
    rw [e_M_seen_164]
    simp only [e_M_seen_166, e_M_seen_167, e_M_seen_170, e_M_seen_171, e_M_seen_174, e_M_seen_176, e_M_seen_177, e_M_seen_178, e_M_seen_181, e_M_seen_183, e_M_seen_184, e_M_seen_187, e_M_seen_189, e_M_seen_192, e_M_seen_194, e_M_seen_196, e_M_seen_199, nI_le' (show n < 2 ^ 31 by omega) (show p < 2 ^ 31 by omega), show ¬ n ≤ p by omega, and_self, and_true, true_and, and_false, false_and, or_true, true_or, or_false, false_or, not_true_eq_false, not_false_eq_true, if_true, if_false, ne_eq, ite_self, reduceCtorEq, i10, Decidable.not_not, Bool.and_self, Bool.and_true, Bool.true_and, is_93 h, rf_93_7 h, ia_100 h (show b < 14 by omega), ia_100 h (show p < 14 by omega), nI_clamp (show b < 2 ^ 31 by omega), nI_clamp (show p < 2 ^ 31 by omega), hf b hb, hf p (by omega), nI_1, mnS]
    by_cases hl : f p < f b
    · rw [if_neg (i_nle.mpr hl)]
      simp only [hl, and_self, and_true, true_and, and_false, false_and, or_true, true_or, or_false, false_or, not_true_eq_false, not_false_eq_true, if_true, if_false, ne_eq, ite_self, reduceCtorEq, i10, Decidable.not_not, Bool.and_self, Bool.and_true, Bool.true_and]
      exact ih (p + 1) p (by omega) (by omega)
    · rw [if_pos (i_nlt.mp hl)]
      simp only [hl, and_self, and_true, true_and, and_false, false_and, or_true, true_or, or_false, false_or, not_true_eq_false, not_false_eq_true, if_true, if_false, ne_eq, ite_self, reduceCtorEq, i10, Decidable.not_not, Bool.and_self, Bool.and_true, Bool.true_and]
      exact ih (p + 1) b (by omega) hb
noncomputable def sp_seen (A : mI) (x y : Int32) : Int32 × mI := (if isSh x = true ∧ 0 ≤ y ∧ y ≤ 1 then (if A 109 (cW x) < 0 then -1000000011 else if cW (A 94 1) = 0 then NN else if y = 0 then nI (mnS (dfS (A 94) (A 111) (cW x) (cW (A 110 (cW x)))) 0 1 (cW (A 94 1) - 1)) else dfS (A 94) (A 111) (cW x) (cW (A 110 (cW x))) (mnS (dfS (A 94) (A 111) (cW x) (cW (A 110 (cW x)))) 0 1 (cW (A 94 1) - 1))) else BADi, A)
theorem o_M_seen (h : WF S R) (hm : MR I A) (hr : rwOK (A 94)) (hs : shOK A) : ∃ I2, MR I2 (sp_seen A x y).2 ∧ rn Ls xs (d + 9) 44 0 [some (.inr (.inl (some 93))), some (.inl x), some (.inl y), none, none, none, none] [] (S, I, R) = some (some (.inl (sp_seen A x y).1), (S, I2, R)) := by
  obtain ⟨n, hn, en⟩ := hr.1
  have e2 : I 94 1 = nI n := by rw [hm.now, en]
  have hr2 : rwOK (I 94) := by rw [hm.now]; exact hr
  unfold sp_seen
  by_cases h1 : isSh x = true
  · obtain ⟨b, -, hb, rfl⟩ := inN (a := 0) (b := 3) (by decide) (isSh_iff.mp h1) rfl rfl
    have cb := nI_clamp (show b < 2 ^ 31 by omega)
    obtain ⟨-, m, hm24, em⟩ := hs b (by omega)
    have e9 := hm.r (b := 109) (by decide) (by decide)
    have e10 := hm.r (b := 110) (by decide) (by decide)
    have e11 := hm.r (b := 111) (by decide) (by decide)
    by_cases h2 : 0 ≤ y ∧ y ≤ 1
    · by_cases h3 : A 109 b < 0
      · exact ⟨I, hm, by simp only [e_M_seen_0, e_M_seen_1, e_M_seen_4, e_M_seen_7, e_M_seen_8, e_M_seen_9, e_M_seen_10, e_M_seen_13, e_M_seen_16, e_M_seen_18, e_M_seen_19, e_M_seen_20, e_M_seen_23, e_M_seen_24, e_M_seen_25, e_M_seen_28, e_M_seen_30, k_M_isSheet, k_M_in, rb_i, in0, in1, h1, h2, h3, i_nle.mpr h3, and_self, and_true, true_and, and_false, false_and, or_true, true_or, or_false, false_or, not_true_eq_false, not_false_eq_true, if_true, if_false, ne_eq, ite_self, reduceCtorEq, i10, Decidable.not_not, Bool.and_self, Bool.and_true, Bool.true_and, is_93 h, rf_93_26 h, ia_109 h (show b < 4 by omega), cb, e9]⟩
      · have r0 := l_M_seen0 (Ls := Ls) (xs := xs) (d := d + 9) (x := nI b) (y := y) (I := va_up I 97 (thS (I 94) (I 97) 92)) (l5 := none) (l6 := none) (c := I 100) h hn n 0 (by omega)
        rw [thS_0, vu_id' (I := va_up I 97 (thS (I 94) (I 97) 92)) (by rw [vu_n (by decide)])] at r0
        have r0 : rn Ls xs (d + 9) 44 45 [some (.inr (.inl (some 93))), some (.inl (nI b)), some (.inl y), some (.inl (nI n)), some (.inl 0), none, none] [] (S, va_up I 97 (thS (I 94) (I 97) 92), R) = _ := r0
        obtain ⟨I3, o5, o6, g1, g2, g3, g4, r1⟩ := l_M_seen2 (Ls := Ls) (xs := xs) (d := d + 5) (y := y) (I := I) (a := I 94) (c := I 111) (t := thS (I 94) (I 97) 92) h hn (show b < 4 by omega) hm24 hr2 (by rw [e10]; exact em) rfl m 0 (va_up (va_up I 97 (thS (I 94) (I 97) 92)) 100 (thS (fun _ => 0) (I 100) n)) none none (by omega) (by rw [vu_n (by decide), vu_n (by decide)]; rfl) (fun p hp => by rw [vu_s, thS_lt hp]; rfl) (by rw [vu_n (by decide), vu_s]) ((Fr.rfl'.up (by omega)).up (by omega))
        have r1 : rn Ls xs (d + 9) 44 68 [some (.inr (.inl (some 93))), some (.inl (nI b)), some (.inl y), some (.inl (nI n)), some (.inl 0), none, none] [] (S, va_up (va_up I 97 (thS (I 94) (I 97) 92)) 100 (thS (fun _ => 0) (I 100) n), R) = _ := r1
        refine ⟨va_up I3 94 (I 94), hm.fr (g4.up (by omega)) (by rw [vu_s]; exact hm.now), ?_⟩
        simp only [e_M_seen_0, e_M_seen_1, e_M_seen_4, e_M_seen_7, e_M_seen_8, e_M_seen_9, e_M_seen_10, e_M_seen_13, e_M_seen_16, e_M_seen_18, e_M_seen_19, e_M_seen_20, e_M_seen_23, e_M_seen_24, e_M_seen_25, e_M_seen_28, e_M_seen_30, e_M_seen_31, e_M_seen_32, e_M_seen_35, e_M_seen_36, e_M_seen_39, e_M_seen_40, e_M_seen_41, e_M_seen_42, e_M_seen_43, k_M_isSheet, k_M_in, rb_i, rb_v, in0, in1, h1, h2, h3, i_nlt.mp h3, and_self, and_true, true_and, and_false, false_and, or_true, true_or, or_false, false_or, not_true_eq_false, not_false_eq_true, if_true, if_false, ne_eq, ite_self, reduceCtorEq, i10, Decidable.not_not, Bool.and_self, Bool.and_true, Bool.true_and, is_93 h, rf_93_0 h, rf_93_26 h, ia_109 h (show b < 4 by omega), cb, e9, k_M_thinks h, ia94_1 h, cl_1, vu_n (show 94 ≠ 97 by decide), e2, r0]
        simp only [e_M_seen_65, e_M_seen_66, r1]
        by_cases hn0 : n = 0
        · subst hn0
          simp only [e_M_seen_154, e_M_seen_155, e_M_seen_158, e_M_seen_159, e_M_seen_161, e_M_seen_162, is_93 h, and_self, and_true, true_and, and_false, false_and, or_true, true_or, or_false, false_or, not_true_eq_false, not_false_eq_true, if_true, if_false, ne_eq, ite_self, reduceCtorEq, i10, Decidable.not_not, Bool.and_self, Bool.and_true, Bool.true_and, k_M_back' h g3 (fun i hi => by rw [g1]; exact hrs_hi hr2 hi m), rb_v]
          rw [e_M_seen_164]
          simp only [e_M_seen_166, e_M_seen_167, e_M_seen_170, e_M_seen_171, e_M_seen_174, e_M_seen_176, e_M_seen_177, e_M_seen_178, e_M_seen_181, e_M_seen_183, e_M_seen_184, e_M_seen_187, e_M_seen_189, e_M_seen_192, e_M_seen_194, e_M_seen_196, e_M_seen_199, e_M_seen_202, e_M_seen_203, e_M_seen_206, e_M_seen_208, e_M_seen_211, e_M_seen_212, e_M_seen_215, e_M_seen_217, e_M_seen_220, e_M_seen_221, e_M_seen_224, e_M_seen_226, e_M_seen_227, show ((0 : Int32) ≤ 1) by decide, show (nI 0 = 0) from rfl, and_self, and_true, true_and, and_false, false_and, or_true, true_or, or_false, false_or, not_true_eq_false, not_false_eq_true, if_true, if_false, ne_eq, ite_self, reduceCtorEq, i10, Decidable.not_not, Bool.and_self, Bool.and_true, Bool.true_and, en, show (0 : Int32).toNatClampNeg = 0 from rfl]
        · have r2 : rn Ls xs (d + 9) 44 164 [some (.inr (.inl (some 93))), some (.inl (nI b)), some (.inl y), some (.inl (nI n)), some (.inl 0), some (.inl 1), o6] [] (S, va_up I3 94 (I 94), R) = _ := l_M_seen3 (Ls := Ls) (xs := xs) (d := d + 9) (x := nI b) (y := y) (I := va_up I3 94 (I 94)) (f := dfS (I 94) (I 111) b m) (l6 := o6) h hn (show 1 ≤ n by omega) (fun p hp => by rw [vu_n (by decide)]; exact g2 p hp) (n - 1) 1 0 (by omega) (by omega)
          simp only [e_M_seen_154, e_M_seen_155, e_M_seen_158, e_M_seen_159, e_M_seen_161, e_M_seen_162, is_93 h, and_self, and_true, true_and, and_false, false_and, or_true, true_or, or_false, false_or, not_true_eq_false, not_false_eq_true, if_true, if_false, ne_eq, ite_self, reduceCtorEq, i10, Decidable.not_not, Bool.and_self, Bool.and_true, Bool.true_and, k_M_back' h g3 (fun i hi => by rw [g1]; exact hrs_hi hr2 hi m), rb_v, r2, en, em, nI_clamp (show n < 2 ^ 31 by omega), nI_clamp (show m < 2 ^ 31 by omega), hn0, ← hm.now, ← e11]
    · exact ⟨I, hm, by simp only [e_M_seen_0, e_M_seen_1, e_M_seen_4, e_M_seen_7, e_M_seen_8, e_M_seen_9, e_M_seen_10, e_M_seen_13, e_M_seen_16, e_M_seen_18, e_M_seen_19, e_M_seen_20, e_M_seen_23, e_M_seen_24, e_M_seen_25, e_M_seen_28, e_M_seen_30, k_M_isSheet, k_M_in, rb_i, in0, in1, h1, h2, and_self, and_true, true_and, and_false, false_and, or_true, true_or, or_false, false_or, not_true_eq_false, not_false_eq_true, if_true, if_false, ne_eq, ite_self, reduceCtorEq, i10, Decidable.not_not, Bool.and_self, Bool.and_true, Bool.true_and]⟩
  · exact ⟨I, hm, by simp only [e_M_seen_0, e_M_seen_1, e_M_seen_4, e_M_seen_7, e_M_seen_8, e_M_seen_9, e_M_seen_10, e_M_seen_13, e_M_seen_16, e_M_seen_18, e_M_seen_19, e_M_seen_20, e_M_seen_23, e_M_seen_24, e_M_seen_25, e_M_seen_28, e_M_seen_30, k_M_isSheet, k_M_in, rb_i, in0, in1, h1, and_self, and_true, true_and, and_false, false_and, or_true, true_or, or_false, false_or, not_true_eq_false, not_false_eq_true, if_true, if_false, ne_eq, ite_self, reduceCtorEq, i10, Decidable.not_not, Bool.and_self, Bool.and_true, Bool.true_and]⟩
end MT18

/-! THE CLASS: the told numbers, counts of bits -/
section CTF
variable {Ls : Nat} {xs : Nat → Int32} {d : Nat} {S : mS} {I I2 I3 : mI} {R R2 R3 : mR} {x y z : Int32} {H : mH} {p q r : Nat} {a : Nat → Int32}
theorem l_F_rightOnes (h : WF S R) (hg : gd a) {t m many : Nat} {T : Nat → Int32} (ht : t + m < 2 ^ 29) (e2 : a 2 = nI t) (hm : many ≤ 60) {l1 : Option mV} : ∀ (j k : Nat) (I : mI), k + j = m → SkR S I R 38 (hrsS a k) → (∀ i, i < many → I 64 i = T i) → ∃ I2, Fq 38 I I2 ∧ rn Ls xs (d + 5) 170 14 [some (.inr (.inl (some 37))), l1, some (.inl (nI m)), some (.inr (.inl (some 64))), some (.inl (nI many)), some (.inl (nI (2 * k))), some (.inl (nI k))] [] (S, I, R) = some (some (.inl (nI (rtS a T many j k))), (S, I2, R)) := by
  intro j
  induction j with
  | zero =>
    intro k I hk hs hT
    have : k = m := by omega
    subst this
    refine ⟨I, Fq.rfl', ?_⟩
    rw [e_F_rightOnes_14]
    simp only [e_F_rightOnes_0, e_F_rightOnes_1, e_F_rightOnes_4, e_F_rightOnes_5, e_F_rightOnes_8, e_F_rightOnes_9, e_F_rightOnes_11, e_F_rightOnes_12, e_F_rightOnes_16, e_F_rightOnes_17, e_F_rightOnes_20, e_F_rightOnes_21, e_F_rightOnes_24, e_F_rightOnes_25, e_F_rightOnes_28, e_F_rightOnes_30, e_F_rightOnes_32, e_F_rightOnes_35, e_F_rightOnes_36, e_F_rightOnes_38, e_F_rightOnes_39, e_F_rightOnes_40, e_F_rightOnes_43, e_F_rightOnes_46, e_F_rightOnes_49, e_F_rightOnes_51, e_F_rightOnes_52, e_F_rightOnes_55, e_F_rightOnes_57, e_F_rightOnes_59, e_F_rightOnes_62, e_F_rightOnes_63, e_F_rightOnes_65, e_F_rightOnes_66, e_F_rightOnes_67, e_F_rightOnes_70, e_F_rightOnes_73, e_F_rightOnes_76, e_F_rightOnes_78, e_F_rightOnes_79, e_F_rightOnes_82, e_F_rightOnes_85, e_F_rightOnes_88, e_F_rightOnes_90, nI_le' (show k < 2 ^ 31 by omega) (show k < 2 ^ 31 by omega), Nat.le_refl, if_true, rtS]
  | succ j ih =>
    intro k I hk hs hT
    obtain ⟨I3, s3, f3, r3⟩ := k_S_passHours (Ls := Ls) (xs := xs) (d := d) (n := 1) h q38 (show t + k + 1 < 2 ^ 30 by omega) hs (gd_hrs hg k) (hrs_2 hg e2 k)
    have s3 : SkR S I3 R 38 (hrsS a (k + 1)) := s3
    have r3 : rn Ls xs (d + 4) 119 0 [some (.inr (.inl (some 38))), some (.inl 1), none] [] (S, I, R) = _ := r3
    have e64 : I3 64 = I 64 := f3 64 (by omega)
    have r4 := k_S_upPlaceSum (Ls := Ls) (xs := xs) (d := d + 4) h q38 s3 (gd_hrs hg (k + 1))
    have k2 : nI (2 * k) + 1 = nI (2 * k + 1) := nI_1 _
    have k3 : nI (2 * k + 1) + 1 = nI (2 * (k + 1)) := nI_1 _
    by_cases h1 : 2 * k < many ∧ T (2 * k) = hrsS a (k + 1) 4
    · by_cases h2 : 2 * k + 1 < many ∧ T (2 * k + 1) = upsS (hrsS a (k + 1)) 4 0 (cW (hrsS a (k + 1) 1)) 0
      · obtain ⟨I6, f6, r6⟩ := ih (k + 1) I3 (by omega) s3 (fun i hi => by rw [e64]; exact hT i hi)
        refine ⟨I6, f3.trans' f6, ?_⟩
        rw [e_F_rightOnes_14, rtS, if_pos h1, if_pos h2, ← r6]
        simp only [e_F_rightOnes_0, e_F_rightOnes_1, e_F_rightOnes_4, e_F_rightOnes_5, e_F_rightOnes_8, e_F_rightOnes_9, e_F_rightOnes_11, e_F_rightOnes_12, e_F_rightOnes_16, e_F_rightOnes_17, e_F_rightOnes_20, e_F_rightOnes_21, e_F_rightOnes_24, e_F_rightOnes_25, e_F_rightOnes_28, e_F_rightOnes_30, e_F_rightOnes_32, e_F_rightOnes_35, e_F_rightOnes_36, e_F_rightOnes_38, e_F_rightOnes_39, e_F_rightOnes_40, e_F_rightOnes_43, e_F_rightOnes_46, e_F_rightOnes_49, e_F_rightOnes_51, e_F_rightOnes_52, e_F_rightOnes_55, e_F_rightOnes_57, e_F_rightOnes_59, e_F_rightOnes_62, e_F_rightOnes_63, e_F_rightOnes_65, e_F_rightOnes_66, e_F_rightOnes_67, e_F_rightOnes_70, e_F_rightOnes_73, e_F_rightOnes_76, e_F_rightOnes_78, e_F_rightOnes_79, e_F_rightOnes_82, e_F_rightOnes_85, e_F_rightOnes_88, e_F_rightOnes_90, nI_le' (show m < 2 ^ 31 by omega) (show k < 2 ^ 31 by omega), show ¬ m ≤ k by omega, and_self, and_true, true_and, and_false, false_and, or_true, true_or, or_false, false_or, not_true_eq_false, not_false_eq_true, if_true, if_false, ne_eq, ite_self, reduceCtorEq, i10, Decidable.not_not, Bool.and_self, Bool.and_true, Bool.true_and, is_37 h, rf_37_0 h, is_38 h, r3, rb_v, nI_le' (show many < 2 ^ 31 by omega) (show 2 * k < 2 ^ 31 by omega), show ¬ many ≤ 2 * k by omega, ia_64 h (show 2 * k < 60 by omega), nI_clamp (show 2 * k < 2 ^ 31 by omega), e64, hT (2 * k) h1.1, h1.2, s3.f6, k2, nI_le' (show many < 2 ^ 31 by omega) (show 2 * k + 1 < 2 ^ 31 by omega), show ¬ many ≤ 2 * k + 1 by omega, ia_64 h (show 2 * k + 1 < 60 by omega), nI_clamp (show 2 * k + 1 < 2 ^ 31 by omega), hT (2 * k + 1) h2.1, h2.2, r4, rb_i, k3, nI_1]
      · refine ⟨I3, f3, ?_⟩
        rw [e_F_rightOnes_14, rtS, if_pos h1, if_neg h2]
        by_cases h3 : many ≤ 2 * k + 1
        · simp only [e_F_rightOnes_0, e_F_rightOnes_1, e_F_rightOnes_4, e_F_rightOnes_5, e_F_rightOnes_8, e_F_rightOnes_9, e_F_rightOnes_11, e_F_rightOnes_12, e_F_rightOnes_16, e_F_rightOnes_17, e_F_rightOnes_20, e_F_rightOnes_21, e_F_rightOnes_24, e_F_rightOnes_25, e_F_rightOnes_28, e_F_rightOnes_30, e_F_rightOnes_32, e_F_rightOnes_35, e_F_rightOnes_36, e_F_rightOnes_38, e_F_rightOnes_39, e_F_rightOnes_40, e_F_rightOnes_43, e_F_rightOnes_46, e_F_rightOnes_49, e_F_rightOnes_51, e_F_rightOnes_52, e_F_rightOnes_55, e_F_rightOnes_57, e_F_rightOnes_59, e_F_rightOnes_62, e_F_rightOnes_63, e_F_rightOnes_65, e_F_rightOnes_66, e_F_rightOnes_67, e_F_rightOnes_70, e_F_rightOnes_73, e_F_rightOnes_76, e_F_rightOnes_78, e_F_rightOnes_79, e_F_rightOnes_82, e_F_rightOnes_85, e_F_rightOnes_88, e_F_rightOnes_90, nI_le' (show m < 2 ^ 31 by omega) (show k < 2 ^ 31 by omega), show ¬ m ≤ k by omega, and_self, and_true, true_and, and_false, false_and, or_true, true_or, or_false, false_or, not_true_eq_false, not_false_eq_true, if_true, if_false, ne_eq, ite_self, reduceCtorEq, i10, Decidable.not_not, Bool.and_self, Bool.and_true, Bool.true_and, is_37 h, rf_37_0 h, is_38 h, r3, rb_v, nI_le' (show many < 2 ^ 31 by omega) (show 2 * k < 2 ^ 31 by omega), show ¬ many ≤ 2 * k by omega, ia_64 h (show 2 * k < 60 by omega), nI_clamp (show 2 * k < 2 ^ 31 by omega), e64, hT (2 * k) h1.1, h1.2, s3.f6, k2, nI_le' (show many < 2 ^ 31 by omega) (show 2 * k + 1 < 2 ^ 31 by omega), h3]
        · have h4 : ¬ T (2 * k + 1) = upsS (hrsS a (k + 1)) 4 0 (cW (hrsS a (k + 1) 1)) 0 := fun q => h2 ⟨by omega, q⟩
          simp only [e_F_rightOnes_0, e_F_rightOnes_1, e_F_rightOnes_4, e_F_rightOnes_5, e_F_rightOnes_8, e_F_rightOnes_9, e_F_rightOnes_11, e_F_rightOnes_12, e_F_rightOnes_16, e_F_rightOnes_17, e_F_rightOnes_20, e_F_rightOnes_21, e_F_rightOnes_24, e_F_rightOnes_25, e_F_rightOnes_28, e_F_rightOnes_30, e_F_rightOnes_32, e_F_rightOnes_35, e_F_rightOnes_36, e_F_rightOnes_38, e_F_rightOnes_39, e_F_rightOnes_40, e_F_rightOnes_43, e_F_rightOnes_46, e_F_rightOnes_49, e_F_rightOnes_51, e_F_rightOnes_52, e_F_rightOnes_55, e_F_rightOnes_57, e_F_rightOnes_59, e_F_rightOnes_62, e_F_rightOnes_63, e_F_rightOnes_65, e_F_rightOnes_66, e_F_rightOnes_67, e_F_rightOnes_70, e_F_rightOnes_73, e_F_rightOnes_76, e_F_rightOnes_78, e_F_rightOnes_79, e_F_rightOnes_82, e_F_rightOnes_85, e_F_rightOnes_88, e_F_rightOnes_90, nI_le' (show m < 2 ^ 31 by omega) (show k < 2 ^ 31 by omega), show ¬ m ≤ k by omega, and_self, and_true, true_and, and_false, false_and, or_true, true_or, or_false, false_or, not_true_eq_false, not_false_eq_true, if_true, if_false, ne_eq, ite_self, reduceCtorEq, i10, Decidable.not_not, Bool.and_self, Bool.and_true, Bool.true_and, is_37 h, rf_37_0 h, is_38 h, r3, rb_v, nI_le' (show many < 2 ^ 31 by omega) (show 2 * k < 2 ^ 31 by omega), show ¬ many ≤ 2 * k by omega, ia_64 h (show 2 * k < 60 by omega), nI_clamp (show 2 * k < 2 ^ 31 by omega), e64, hT (2 * k) h1.1, h1.2, s3.f6, k2, nI_le' (show many < 2 ^ 31 by omega) (show 2 * k + 1 < 2 ^ 31 by omega), h3, ia_64 h (show 2 * k + 1 < 60 by omega), nI_clamp (show 2 * k + 1 < 2 ^ 31 by omega), hT (2 * k + 1) (by omega), h4, r4, rb_i]
    · refine ⟨I3, f3, ?_⟩
      rw [e_F_rightOnes_14, rtS, if_neg h1]
      by_cases h3 : many ≤ 2 * k
      · simp only [e_F_rightOnes_0, e_F_rightOnes_1, e_F_rightOnes_4, e_F_rightOnes_5, e_F_rightOnes_8, e_F_rightOnes_9, e_F_rightOnes_11, e_F_rightOnes_12, e_F_rightOnes_16, e_F_rightOnes_17, e_F_rightOnes_20, e_F_rightOnes_21, e_F_rightOnes_24, e_F_rightOnes_25, e_F_rightOnes_28, e_F_rightOnes_30, e_F_rightOnes_32, e_F_rightOnes_35, e_F_rightOnes_36, e_F_rightOnes_38, e_F_rightOnes_39, e_F_rightOnes_40, e_F_rightOnes_43, e_F_rightOnes_46, e_F_rightOnes_49, e_F_rightOnes_51, e_F_rightOnes_52, e_F_rightOnes_55, e_F_rightOnes_57, e_F_rightOnes_59, e_F_rightOnes_62, e_F_rightOnes_63, e_F_rightOnes_65, e_F_rightOnes_66, e_F_rightOnes_67, e_F_rightOnes_70, e_F_rightOnes_73, e_F_rightOnes_76, e_F_rightOnes_78, e_F_rightOnes_79, e_F_rightOnes_82, e_F_rightOnes_85, e_F_rightOnes_88, e_F_rightOnes_90, nI_le' (show m < 2 ^ 31 by omega) (show k < 2 ^ 31 by omega), show ¬ m ≤ k by omega, and_self, and_true, true_and, and_false, false_and, or_true, true_or, or_false, false_or, not_true_eq_false, not_false_eq_true, if_true, if_false, ne_eq, ite_self, reduceCtorEq, i10, Decidable.not_not, Bool.and_self, Bool.and_true, Bool.true_and, is_37 h, rf_37_0 h, is_38 h, r3, rb_v, nI_le' (show many < 2 ^ 31 by omega) (show 2 * k < 2 ^ 31 by omega), h3]
      · have h4 : ¬ T (2 * k) = hrsS a (k + 1) 4 := fun q => h1 ⟨by omega, q⟩
        simp only [e_F_rightOnes_0, e_F_rightOnes_1, e_F_rightOnes_4, e_F_rightOnes_5, e_F_rightOnes_8, e_F_rightOnes_9, e_F_rightOnes_11, e_F_rightOnes_12, e_F_rightOnes_16, e_F_rightOnes_17, e_F_rightOnes_20, e_F_rightOnes_21, e_F_rightOnes_24, e_F_rightOnes_25, e_F_rightOnes_28, e_F_rightOnes_30, e_F_rightOnes_32, e_F_rightOnes_35, e_F_rightOnes_36, e_F_rightOnes_38, e_F_rightOnes_39, e_F_rightOnes_40, e_F_rightOnes_43, e_F_rightOnes_46, e_F_rightOnes_49, e_F_rightOnes_51, e_F_rightOnes_52, e_F_rightOnes_55, e_F_rightOnes_57, e_F_rightOnes_59, e_F_rightOnes_62, e_F_rightOnes_63, e_F_rightOnes_65, e_F_rightOnes_66, e_F_rightOnes_67, e_F_rightOnes_70, e_F_rightOnes_73, e_F_rightOnes_76, e_F_rightOnes_78, e_F_rightOnes_79, e_F_rightOnes_82, e_F_rightOnes_85, e_F_rightOnes_88, e_F_rightOnes_90, nI_le' (show m < 2 ^ 31 by omega) (show k < 2 ^ 31 by omega), show ¬ m ≤ k by omega, and_self, and_true, true_and, and_false, false_and, or_true, true_or, or_false, false_or, not_true_eq_false, not_false_eq_true, if_true, if_false, ne_eq, ite_self, reduceCtorEq, i10, Decidable.not_not, Bool.and_self, Bool.and_true, Bool.true_and, is_37 h, rf_37_0 h, is_38 h, r3, rb_v, nI_le' (show many < 2 ^ 31 by omega) (show 2 * k < 2 ^ 31 by omega), h3, ia_64 h (show 2 * k < 60 by omega), nI_clamp (show 2 * k < 2 ^ 31 by omega), e64, hT (2 * k) (by omega), h4, s3.f6]
theorem k_F_rightOnes (h : WF S R) (hq : isP q) (hs : SkR S I R q a) (hg : gd a) {t m many : Nat} {T : Nat → Int32} (ht : t + m < 2 ^ 29) (e2 : a 2 = nI t) (hm : many ≤ 60) (hT : ∀ i, i < many → I 64 i = T i) : ∃ I2 R2, Ff I I2 R R2 ∧ rn Ls xs (d + 5) 170 0 [some (.inr (.inl (some 37))), some (.inr (.inl (some q))), some (.inl (nI m)), some (.inr (.inl (some 64))), some (.inl (nI many)), none, none] [] (S, I, R) = some (some (.inl (nI (rtS a T many m 0))), (S, I2, R2)) := by
  obtain ⟨n, hn, e1, cn⟩ := hg.n
  obtain ⟨I2, R2, s2, f2, g2, w2, r2⟩ := k_S_becomeAs (Ls := Ls) (xs := xs) (d := d + 3) h q38 hq.q hq.ne hs hg
  obtain ⟨I4, f4, r4⟩ := l_F_rightOnes (Ls := Ls) (xs := xs) (d := d) (l1 := some (.inr (.inl (some q)))) (T := T) w2 hg ht e2 hm m 0 I2 (by omega) s2 (fun i hi => by rw [f2 64 (by omega)]; exact hT i hi)
  have r4 : rn Ls xs (d + 5) 170 14 [some (.inr (.inl (some 37))), some (.inr (.inl (some q))), some (.inl (nI m)), some (.inr (.inl (some 64))), some (.inl (nI many)), some (.inl 0), some (.inl 0)] [] (S, I2, R2) = _ := r4
  refine ⟨I4, R2, (f2.ffr g2).trans' f4.ff, ?_⟩
  simp only [e_F_rightOnes_0, e_F_rightOnes_1, e_F_rightOnes_4, e_F_rightOnes_5, e_F_rightOnes_8, e_F_rightOnes_9, e_F_rightOnes_11, e_F_rightOnes_12, is_37 h, is_38 h, rf_37_0 h, and_self, and_true, true_and, and_false, false_and, or_true, true_or, or_false, false_or, not_true_eq_false, not_false_eq_true, if_true, if_false, ne_eq, ite_self, reduceCtorEq, i10, Decidable.not_not, Bool.and_self, Bool.and_true, Bool.true_and, r2, rb_v, r4]
end CTF
/-! bits -/
def us (n k : Int32) : Int32 := (n.toUInt32 >>> (k.toUInt32 &&& Int32.toUInt32 31)).toInt32
def bcS (i : Int32) : Int32 :=
  let i := i - (us i 1 &&& 1431655765)
  let i := (i &&& 858993459) + (us i 2 &&& 858993459)
  let i := (i + us i 4) &&& 252645135
  let i := i + us i 8
  let i := i + us i 16
  i &&& 63
theorem k_J_bitCount {Ls : Nat} {xs : Nat → Int32} {d : Nat} {x : Int32} {H : mH} : rn Ls xs d 127 0 [some (.inl x)] [] H = some (some (.inl (bcS x)), H) := by
  simp only [e_JInteger_bitCount_0, e_JInteger_bitCount_1, e_JInteger_bitCount_2, e_JInteger_bitCount_3, e_JInteger_bitCount_4, e_JInteger_bitCount_7, e_JInteger_bitCount_8, e_JInteger_bitCount_9, e_JInteger_bitCount_10, e_JInteger_bitCount_11, e_JInteger_bitCount_14, e_JInteger_bitCount_15, e_JInteger_bitCount_16, e_JInteger_bitCount_17, e_JInteger_bitCount_18, e_JInteger_bitCount_21, e_JInteger_bitCount_22, e_JInteger_bitCount_23, e_JInteger_bitCount_24, e_JInteger_bitCount_25, e_JInteger_bitCount_26, e_JInteger_bitCount_27, e_JInteger_bitCount_28, e_JInteger_bitCount_29, e_JInteger_bitCount_32, e_JInteger_bitCount_33, e_JInteger_bitCount_34, e_JInteger_bitCount_35, e_JInteger_bitCount_36, e_JInteger_bitCount_38, e_JInteger_bitCount_39, e_JInteger_bitCount_40, e_JInteger_bitCount_41, e_JInteger_bitCount_42, e_JInteger_bitCount_43, e_JInteger_bitCount_45, e_JInteger_bitCount_46, e_JInteger_bitCount_47, e_JInteger_bitCount_48, e_JInteger_bitCount_49, e_JInteger_bitCount_51, e_JInteger_bitCount_52, bcS, us]
def pop : Nat → Nat → Nat
  | 0, _ => 0
  | k + 1, m => m % 2 + pop k (m / 2)
def bcB (m : Nat) : Bool := decide (bcS (nI m) = nI (pop 14 m))
def bcAll : Nat → Bool
  | 0 => true
  | m + 1 => bcB m && bcAll m
theorem pop_add : ∀ (k w m : Nat), m < 2 ^ w → w < k → pop k (m + 2 ^ w) = pop k m + 1
  | 0, _, _, _, h => absurd h (by omega)
  | k + 1, 0, m, hm, _ => by
    have : m = 0 := by omega
    subst this
    show (0 + 1) % 2 + pop k ((0 + 1) / 2) = 0 % 2 + pop k (0 / 2) + 1
    simp
    omega
  | k + 1, w + 1, m, hm, hw => by
    have hp : 2 ^ (w + 1) = 2 * 2 ^ w := by rw [Nat.pow_succ]; omega
    have := pop_add k w (m / 2) (by omega) (by omega)
    show (m + 2 ^ (w + 1)) % 2 + pop k ((m + 2 ^ (w + 1)) / 2) = m % 2 + pop k (m / 2) + 1
    rw [hp, show (m + 2 * 2 ^ w) % 2 = m % 2 by omega, show (m + 2 * 2 ^ w) / 2 = m / 2 + 2 ^ w by omega, this]
    omega

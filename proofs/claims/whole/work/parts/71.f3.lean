/-! TEXTS: Strings; the reader's small methods -/
def lW (s : Nat) : Nat := c_len.getD (s - 10) 0
def bW (s k : Nat) : Int32 := (c_byt.getD (s - 10) []).getD k 0
def mtW (T : Nat → Int32) (a s : Nat) : Nat → Nat → Bool
  | 0, _ => true
  | j + 1, k => if T (a + k) = bW s k then mtW T a s j (k + 1) else false
def ixW (s : Nat) (c : Int32) : Nat → Nat → Int32
  | 0, _ => -1
  | j + 1, k => if bW s k = c then nI k else ixW s c j (k + 1)
theorem sh0 (x : Int32) : x >>> ((0 : Int32) &&& 31) = x := by
  apply i_eqI
  rw [pk_shr x _ 0 (by decide)]
  exact Int.shiftRight_zero _
theorem bw_ch : ∀ s, s < 17 → ∀ k, k < 4 → (((bW s k) &&& 255).toUInt32 % 65536).toInt32 = bW s k ∧ 0 ≤ (bW s k).toInt ∧ (bW s k).toInt < 65536 := by decide
theorem lw_4 : ∀ s, s < 17 → lW s ≤ 4 := by decide
section STR
variable {Ls : Nat} {xs : Nat → Int32} {d : Nat} {S : mS} {I I2 I3 : mI} {R R2 R3 : mR} {x y z u v : Int32} {H : mH} {T : Nat → Int32} {n s k : Nat}
theorem k_len (h1 : 10 ≤ s) (h2 : s < 17) : rn Ls xs (d + 1) 216 0 [some (.inr (.inr s))] [] H = some (some (.inl (nI (lW s))), H) := by
  have e : s + 10 - 20 = s - 10 := by omega
  simp only [e_JSt_length_0, e_JSt_length_1, e_JSt_length_4, e_JSt_length_5, e_JSt_length_6, e_JSt_length_9, e_JSt_length_10, e_JSt_coder_0, e_JSt_coder_3, e_JSt_coder_6, e_JSt_coder_7, e_JSt_coder_10, e_JSt_coder_13, e_JSt_coder_14, h1, h2, show 20 ≤ s + 10 by omega, show s + 10 < 27 by omega, and_self, and_true, true_and, and_false, false_and, or_true, true_or, or_false, false_or, not_true_eq_false, not_false_eq_true, if_true, if_false, ne_eq, ite_self, reduceCtorEq, i10, Decidable.not_not, Bool.and_self, Bool.and_true, Bool.true_and, t1, bo_0, rb_i, sh0, e, ofn, lW]
theorem k_char (h1 : 10 ≤ s) (h2 : s < 17) (hk : k < lW s) : rn Ls xs (d + 4) 217 0 [some (.inr (.inr s)), some (.inl (nI k))] [] H = some (some (.inl (bW s k)), H) := by
  have l4 := lw_4 s h2
  have e : s + 10 - 20 = s - 10 := by omega
  obtain ⟨b1, b2, b3⟩ := bw_ch s h2 k (by omega)
  have ln : nI k < nI (lW s) := by rw [nI_lt' (by omega) (by omega)]; exact hk
  have hk2 : (k : Int) < (c_len.getD (s - 10) 0 : Nat) := by have : k < c_len.getD (s - 10) 0 := hk; omega
  have i0 : (0 : Int) ≤ k := by omega
  simp only [bW] at b1 b2 b3
  simp only [lW] at ln
  simp only [e_JSt_charAt_0, e_JSt_charAt_1, e_JSt_charAt_4, e_JSt_charAt_7, e_JSt_charAt_8, e_JSt_charAt_11, e_JSt_charAt_12, e_JSt_charAt_15, e_JSt_charAt_16, e_JSt_charAt_17, e_JSt_charAt_20, e_JSt_charAt_24, e_JSt_isLatin1_0, e_JSt_isLatin1_3, e_JSt_isLatin1_6, e_JSt_isLatin1_7, e_JSt_isLatin1_10, e_JSt_isLatin1_13, e_JSt_isLatin1_14, e_JSt_isLatin1_17, e_JSt_isLatin1_18, e_JStL_charAt_0, e_JStL_charAt_1, e_JStL_charAt_2, e_JStL_charAt_3, e_JStL_charAt_6, e_JStL_charAt_7, e_JStL_charAt_8, e_JStL_charAt_9, e_JStL_charAt_12, e_JStL_charAt_13, e_JStL_charAt_14, e_JSt_checkIndex_0, e_JSt_checkIndex_1, e_JSt_checkIndex_2, e_JSt_checkIndex_5, e_JSt_checkIndex_8, e_JSt_checkIndex_9, e_JPreconditions_checkIndex_0, e_JPreconditions_checkIndex_1, e_JPreconditions_checkIndex_4, e_JPreconditions_checkIndex_5, e_JPreconditions_checkIndex_6, e_JPreconditions_checkIndex_9, e_JPreconditions_checkIndex_10, e_JPreconditions_checkIndex_11, e_JPreconditions_checkIndex_16, e_JPreconditions_checkIndex_17, h1, h2, show 20 ≤ s + 10 by omega, show s + 10 < 27 by omega, and_self, and_true, true_and, and_false, false_and, or_true, true_or, or_false, false_or, not_true_eq_false, not_false_eq_true, if_true, if_false, ne_eq, ite_self, reduceCtorEq, i10, Decidable.not_not, Bool.and_self, Bool.and_true, Bool.true_and, t1, bo_1, rb_i, rb_v, e, ofn, nI_n0 (show k < 2 ^ 31 by omega), ln, nI_toInt (show k < 2 ^ 31 by omega), nI_clamp (show k < 2 ^ 31 by omega), i0, hk2, b1, b2, b3, bW]
theorem ch26 : ∀ v, v < 26 → (nI (97 + v)).toInt8.toInt32 = nI (97 + v) := by decide
theorem l_ix (h1 : 10 ≤ s) (h2 : s < 17) {l1 l2 : Option mV} : ∀ (j k : Nat), k + j = lW s → rn Ls xs d 230 7 [some (.inr (.inr (s + 10))), l1, l2, some (.inl (nI (lW s))), some (.inl x), some (.inl (nI k))] [] H = some (some (.inl (ixW s x j k)), H) := by
  have l4 := lw_4 s h2
  intro j
  induction j with
  | zero =>
    intro k hk
    have : k = lW s := by omega
    rw [e_JStL_indexOfChar_7]
    simp only [e_JStL_indexOfChar_0, e_JStL_indexOfChar_1, e_JStL_indexOfChar_2, e_JStL_indexOfChar_4, e_JStL_indexOfChar_5, e_JStL_indexOfChar_9, e_JStL_indexOfChar_10, e_JStL_indexOfChar_13, e_JStL_indexOfChar_14, e_JStL_indexOfChar_16, e_JStL_indexOfChar_17, e_JStL_indexOfChar_19, e_JStL_indexOfChar_22, e_JStL_indexOfChar_24, e_JStL_indexOfChar_25, e_JStL_indexOfChar_28, e_JStL_indexOfChar_31, e_JStL_indexOfChar_32, this, nI_le' (show lW s < 2 ^ 31 by omega) (show lW s < 2 ^ 31 by omega), Nat.le_refl, if_true, ixW]
  | succ j ih =>
    intro k hk
    have e : s + 10 - 20 = s - 10 := by omega
    have hk2 : (k : Int) < (c_len.getD (s - 10) 0 : Nat) := by have : k < c_len.getD (s - 10) 0 := (show k < lW s by omega); omega
    have i0 : (0 : Int) ≤ k := by omega
    have nle : ¬ nI (lW s) ≤ nI k := by rw [nI_le' (by omega) (by omega)]; omega
    rw [e_JStL_indexOfChar_7]
    by_cases hb : bW s k = x
    · rw [show ixW s x (j + 1) k = nI k by rw [ixW, if_pos hb]]
      simp only [bW] at hb
      simp only [e_JStL_indexOfChar_0, e_JStL_indexOfChar_1, e_JStL_indexOfChar_2, e_JStL_indexOfChar_4, e_JStL_indexOfChar_5, e_JStL_indexOfChar_9, e_JStL_indexOfChar_10, e_JStL_indexOfChar_13, e_JStL_indexOfChar_14, e_JStL_indexOfChar_16, e_JStL_indexOfChar_17, e_JStL_indexOfChar_19, e_JStL_indexOfChar_22, e_JStL_indexOfChar_24, e_JStL_indexOfChar_25, e_JStL_indexOfChar_28, e_JStL_indexOfChar_31, e_JStL_indexOfChar_32, nle, and_self, and_true, true_and, and_false, false_and, or_true, true_or, or_false, false_or, not_true_eq_false, not_false_eq_true, if_true, if_false, ne_eq, ite_self, reduceCtorEq, i10, Decidable.not_not, Bool.and_self, Bool.and_true, Bool.true_and, show 20 ≤ s + 10 by omega, show s + 10 < 27 by omega, nI_toInt (show k < 2 ^ 31 by omega), nI_clamp (show k < 2 ^ 31 by omega), i0, e, hk2, hb]
    · rw [show ixW s x (j + 1) k = ixW s x j (k + 1) by rw [ixW, if_neg hb], ← ih (k + 1) (by omega)]
      simp only [bW] at hb
      simp only [e_JStL_indexOfChar_0, e_JStL_indexOfChar_1, e_JStL_indexOfChar_2, e_JStL_indexOfChar_4, e_JStL_indexOfChar_5, e_JStL_indexOfChar_9, e_JStL_indexOfChar_10, e_JStL_indexOfChar_13, e_JStL_indexOfChar_14, e_JStL_indexOfChar_16, e_JStL_indexOfChar_17, e_JStL_indexOfChar_19, e_JStL_indexOfChar_22, e_JStL_indexOfChar_24, e_JStL_indexOfChar_25, e_JStL_indexOfChar_28, e_JStL_indexOfChar_31, e_JStL_indexOfChar_32, nle, and_self, and_true, true_and, and_false, false_and, or_true, true_or, or_false, false_or, not_true_eq_false, not_false_eq_true, if_true, if_false, ne_eq, ite_self, reduceCtorEq, i10, Decidable.not_not, Bool.and_self, Bool.and_true, Bool.true_and, show 20 ≤ s + 10 by omega, show s + 10 < 27 by omega, nI_toInt (show k < 2 ^ 31 by omega), nI_clamp (show k < 2 ^ 31 by omega), i0, e, hk2, hb, nI_1]
theorem k_ix (h1 : 10 ≤ s) (h2 : s < 17) (h0 : 0 < lW s) {v : Nat} (hv : v < 26) : rn Ls xs (d + 4) 224 0 [some (.inr (.inr s)), some (.inl (nI (97 + v)))] [] H = some (some (.inl (ixW s (nI (97 + v)) (lW s) 0)), H) := by
  have l4 := lw_4 s h2
  have e : s + 10 - 20 = s - 10 := by omega
  have l : ∀ {d : Nat} {l1 l2 : Option mV}, rn Ls xs d 230 7 [some (.inr (.inr (s + 10))), l1, l2, some (.inl (nI (lW s))), some (.inl (nI (97 + v))), some (.inl 0)] [] H = _ := fun {d l1 l2} => l_ix (Ls := Ls) (xs := xs) (d := d) (l1 := l1) (l2 := l2) (x := nI (97 + v)) (H := H) h1 h2 (lW s) 0 (by omega)
  have m1 : maS 0 0 = 0 := rfl
  have m2 : miS (nI (lW s)) (nI (lW s)) = nI (lW s) := by unfold miS; exact ite_self _
  have n0 : ¬ nI (97 + v) < 0 := nI_n0 (by omega)
  have n255 : ¬ (255 : Int32) < nI (97 + v) := by rw [show (255 : Int32) = nI 255 from rfl, nI_lt' (by decide) (by omega)]; omega
  have z : (0 : Int32) < nI (lW s) := by rw [show (0 : Int32) = nI 0 from rfl, nI_lt' (by decide) (by omega)]; exact h0
  have kl : ∀ {d : Nat}, rn Ls xs (d + 1) 216 0 [some (.inr (.inr s))] [] H = some (some (.inl (nI (lW s))), H) := fun {d} => k_len h1 h2
  simp only [e_JSt_indexOf_0, e_JSt_indexOf_1, e_JSt_indexOf_2, e_JSt_indexOf_3, e_JSt_indexOf_6, e_JSt_indexOf2_0, e_JSt_indexOf2_1, e_JSt_indexOf2_4, e_JSt_indexOf2_7, e_JSt_indexOf2_8, e_JSt_indexOf2_11, e_JSt_indexOf2_12, e_JSt_indexOf2_13, e_JSt_indexOf2_14, e_JSt_indexOf2_17, e_JSt_indexOf2_20, e_JSt_indexOf2_23, e_JSt_indexOf2_24, e_JSt_indexOf2_27, e_JSt_indexOf2_28, e_JSt_indexOf2_29, e_JSt_indexOf2_30, e_JSt_indexOf2_36, e_JSt_isLatin1_0, e_JSt_isLatin1_3, e_JSt_isLatin1_6, e_JSt_isLatin1_7, e_JSt_isLatin1_10, e_JSt_isLatin1_13, e_JSt_isLatin1_14, e_JSt_isLatin1_17, e_JSt_isLatin1_18, e_JStL_indexOf_0, e_JStL_indexOf_1, e_JStL_indexOf_4, e_JStL_indexOf_7, e_JStL_indexOf_8, e_JStL_indexOf_9, e_JStL_indexOf_10, e_JStL_indexOf_11, e_JStL_indexOf_14, e_JStL_indexOf_15, e_JStL_indexOf_16, e_JStL_indexOf_17, e_JStL_indexOf_18, e_JStL_indexOf_21, e_JStL_indexOf_22, e_JStL_indexOf_23, e_JStL_indexOf_24, e_JStL_indexOf_27, e_JStL_indexOf_28, e_JStL_indexOf_29, e_JStL_indexOf_30, e_JStL_indexOf_31, e_JStL_indexOf_32, e_JStL_indexOf_33, e_JStL_indexOf_36, e_JStL_canEncode_0, e_JStL_canEncode_1, e_JStL_canEncode_4, e_JStL_canEncode_5, e_JStL_canEncode_8, e_JStL_canEncode_11, e_JStL_canEncode_12, e_JStL_canEncode_15, e_JStL_canEncode_16, e_JStL_indexOfChar_0, e_JStL_indexOfChar_1, e_JStL_indexOfChar_2, e_JStL_indexOfChar_4, e_JStL_indexOfChar_5, kl, h1, h2, show 20 ≤ s + 10 by omega, show s + 10 < 27 by omega, and_self, and_true, true_and, and_false, false_and, or_true, true_or, or_false, false_or, not_true_eq_false, not_false_eq_true, if_true, if_false, ne_eq, ite_self, reduceCtorEq, i10, Decidable.not_not, Bool.and_self, Bool.and_true, Bool.true_and, t1, bo_1, rb_i, e, ofn, k_J_max, k_J_min, m1, show nI (c_len.getD (s - 10) 0) = nI (lW s) from rfl, m2, n0, n255, z, ch26 v hv, l]
theorem l_R_isWord (h : WF S R) (hT : TPR I T n) {a b : Nat} (h1 : 10 ≤ s) (h2 : s < 17) (e6 : I 60 6 = nI a) (hab : a + lW s ≤ n) : ∀ (j k : Nat), k + j = lW s → rn Ls xs (d + 5) 211 28 [some (.inr (.inl (some 60))), some (.inr (.inr s)), some (.inl (nI k))] [] (S, I, R) = some (some (.inl (if mtW T a s j k = true then 1 else 0)), (S, I, R)) := by
  obtain ⟨t1', t2', t3'⟩ := id hT
  have l4 := lw_4 s h2
  have kl : ∀ {d : Nat}, rn Ls xs (d + 1) 216 0 [some (.inr (.inr s))] [] (S, I, R) = some (some (.inl (nI (lW s))), (S, I, R)) := fun {d} => k_len h1 h2
  intro j
  induction j with
  | zero =>
    intro k hk
    have : k = lW s := by omega
    rw [e_R_isWord_28]
    simp only [e_R_isWord_0, e_R_isWord_1, e_R_isWord_4, e_R_isWord_5, e_R_isWord_8, e_R_isWord_9, e_R_isWord_12, e_R_isWord_13, e_R_isWord_16, e_R_isWord_17, e_R_isWord_18, e_R_isWord_21, e_R_isWord_24, e_R_isWord_25, e_R_isWord_26, e_R_isWord_27, e_R_isWord_29, e_R_isWord_30, e_R_isWord_33, e_R_isWord_36, e_R_isWord_37, e_R_isWord_40, e_R_isWord_43, e_R_isWord_44, e_R_isWord_47, e_R_isWord_48, e_R_isWord_49, e_R_isWord_50, e_R_isWord_51, e_R_isWord_52, e_R_isWord_55, e_R_isWord_58, e_R_isWord_59, e_R_isWord_60, e_R_isWord_63, e_R_isWord_66, e_R_isWord_67, this, h1, h2, and_self, and_true, true_and, and_false, false_and, or_true, true_or, or_false, false_or, not_true_eq_false, not_false_eq_true, if_true, if_false, ne_eq, ite_self, reduceCtorEq, i10, Decidable.not_not, Bool.and_self, Bool.and_true, Bool.true_and, kl, rb_i, nI_le' (show lW s < 2 ^ 31 by omega) (show lW s < 2 ^ 31 by omega), Nat.le_refl, mtW, bo_1]
  | succ j ih =>
    intro k hk
    have kc : ∀ {d : Nat}, rn Ls xs (d + 4) 217 0 [some (.inr (.inr s)), some (.inl (nI k))] [] (S, I, R) = some (some (.inl (bW s k)), (S, I, R)) := fun {d} => k_char h1 h2 (by omega)
    have nle : ¬ nI (lW s) ≤ nI k := by rw [nI_le' (by omega) (by omega)]; omega
    have ea : nI a + nI k = nI (a + k) := nI_add a k
    rw [e_R_isWord_28]
    by_cases hb : T (a + k) = bW s k
    · rw [show mtW T a s (j + 1) k = mtW T a s j (k + 1) by rw [mtW, if_pos hb], ← ih (k + 1) (by omega)]
      simp only [e_R_isWord_0, e_R_isWord_1, e_R_isWord_4, e_R_isWord_5, e_R_isWord_8, e_R_isWord_9, e_R_isWord_12, e_R_isWord_13, e_R_isWord_16, e_R_isWord_17, e_R_isWord_18, e_R_isWord_21, e_R_isWord_24, e_R_isWord_25, e_R_isWord_26, e_R_isWord_27, e_R_isWord_29, e_R_isWord_30, e_R_isWord_33, e_R_isWord_36, e_R_isWord_37, e_R_isWord_40, e_R_isWord_43, e_R_isWord_44, e_R_isWord_47, e_R_isWord_48, e_R_isWord_49, e_R_isWord_50, e_R_isWord_51, e_R_isWord_52, e_R_isWord_55, e_R_isWord_58, e_R_isWord_59, e_R_isWord_60, e_R_isWord_63, e_R_isWord_66, e_R_isWord_67, h1, h2, and_self, and_true, true_and, and_false, false_and, or_true, true_or, or_false, false_or, not_true_eq_false, not_false_eq_true, if_true, if_false, ne_eq, ite_self, reduceCtorEq, i10, Decidable.not_not, Bool.and_self, Bool.and_true, Bool.true_and, kl, rb_i, nle, is_60 h, rf_60_0 h, is_58 h, rf_58_0 h, e6, ea, ia_59 h (show a + k < 96 by omega), nI_clamp (show a + k < 2 ^ 31 by omega), t3' (a + k) (by omega), hb, kc, nI_1]
    · rw [show mtW T a s (j + 1) k = false by rw [mtW, if_neg hb]]
      simp only [e_R_isWord_0, e_R_isWord_1, e_R_isWord_4, e_R_isWord_5, e_R_isWord_8, e_R_isWord_9, e_R_isWord_12, e_R_isWord_13, e_R_isWord_16, e_R_isWord_17, e_R_isWord_18, e_R_isWord_21, e_R_isWord_24, e_R_isWord_25, e_R_isWord_26, e_R_isWord_27, e_R_isWord_29, e_R_isWord_30, e_R_isWord_33, e_R_isWord_36, e_R_isWord_37, e_R_isWord_40, e_R_isWord_43, e_R_isWord_44, e_R_isWord_47, e_R_isWord_48, e_R_isWord_49, e_R_isWord_50, e_R_isWord_51, e_R_isWord_52, e_R_isWord_55, e_R_isWord_58, e_R_isWord_59, e_R_isWord_60, e_R_isWord_63, e_R_isWord_66, e_R_isWord_67, h1, h2, and_self, and_true, true_and, and_false, false_and, or_true, true_or, or_false, false_or, not_true_eq_false, not_false_eq_true, if_true, if_false, ne_eq, ite_self, reduceCtorEq, i10, Decidable.not_not, Bool.and_self, Bool.and_true, Bool.true_and, kl, rb_i, nle, is_60 h, rf_60_0 h, is_58 h, rf_58_0 h, e6, ea, ia_59 h (show a + k < 96 by omega), nI_clamp (show a + k < 2 ^ 31 by omega), t3' (a + k) (by omega), hb, kc, bo_0, Bool.false_eq_true]
/-- whether the word i is s -/
def isWd (T : Nat → Int32) (n i s : Nat) : Bool := decide (tC T n i = 1 ∧ tB T n i - tA T n i = lW s) && mtW T (tA T n i) s (lW s) 0
theorem k_R_isWord (h : WF S R) {i : Nat} (hT : TPR I T n) (hR : RT I T n i) (h1 : 10 ≤ s) (h2 : s < 17) : rn Ls xs (d + 5) 211 0 [some (.inr (.inl (some 60))), some (.inr (.inr s)), none] [] (S, I, R) = some (some (.inl (if isWd T n i s = true then 1 else 0)), (S, I, R)) := by
  obtain ⟨e5, e6, e7, e8⟩ := hR
  have l4 := lw_4 s h2
  have bA := tA_b (T := T) (n := n) i
  have bB := tB_b (T := T) (n := n) i
  have bC := tC_le (T := T) (n := n) i
  have t2' := hT.2.1
  have kl : ∀ {d : Nat}, rn Ls xs (d + 1) 216 0 [some (.inr (.inr s))] [] (S, I, R) = some (some (.inl (nI (lW s))), (S, I, R)) := fun {d} => k_len h1 h2
  have es : nI (tB T n i) - nI (tA T n i) = nI (tB T n i - tA T n i) := pk_sub bB.1
  unfold isWd
  by_cases c1 : tC T n i = 1
  · by_cases c2 : tB T n i - tA T n i = lW s
    · have l : rn Ls xs (d + 5) 211 28 [some (.inr (.inl (some 60))), some (.inr (.inr s)), some (.inl 0)] [] (S, I, R) = _ := l_R_isWord (Ls := Ls) (xs := xs) (d := d) (a := tA T n i) (b := 0) h hT h1 h2 e6 (by omega) (lW s) 0 (by omega)
      simp only [c1, c2, and_self, decide_true, Bool.true_and]
      simp only [e_R_isWord_0, e_R_isWord_1, e_R_isWord_4, e_R_isWord_5, e_R_isWord_8, e_R_isWord_9, e_R_isWord_12, e_R_isWord_13, e_R_isWord_16, e_R_isWord_17, e_R_isWord_18, e_R_isWord_21, e_R_isWord_24, e_R_isWord_25, e_R_isWord_26, e_R_isWord_27, is_60 h, and_self, and_true, true_and, and_false, false_and, or_true, true_or, or_false, false_or, not_true_eq_false, not_false_eq_true, if_true, if_false, ne_eq, ite_self, reduceCtorEq, i10, Decidable.not_not, Bool.and_self, Bool.and_true, Bool.true_and, e5, e6, e7, c1, show nI 1 = 1 from rfl, es, c2, h1, h2, kl, rb_i, l]
    · have ne : ¬ nI (tB T n i - tA T n i) = nI (lW s) := by rw [nI_eq' (by omega) (by omega)]; exact c2
      simp only [c1, c2, and_false, decide_false, Bool.false_and, Bool.false_eq_true, if_false]
      simp only [e_R_isWord_0, e_R_isWord_1, e_R_isWord_4, e_R_isWord_5, e_R_isWord_8, e_R_isWord_9, e_R_isWord_12, e_R_isWord_13, e_R_isWord_16, e_R_isWord_17, e_R_isWord_18, e_R_isWord_21, e_R_isWord_24, e_R_isWord_25, is_60 h, and_self, and_true, true_and, and_false, false_and, or_true, true_or, or_false, false_or, not_true_eq_false, not_false_eq_true, if_true, if_false, ne_eq, ite_self, reduceCtorEq, i10, Decidable.not_not, Bool.and_self, Bool.and_true, Bool.true_and, e5, e6, e7, c1, show nI 1 = 1 from rfl, es, h1, h2, kl, rb_i, ne, bo_0]
  · have ne : ¬ nI (tC T n i) = 1 := by rw [show (1 : Int32) = nI 1 from rfl, nI_eq' (by omega) (by omega)]; exact c1
    simp only [c1, false_and, decide_false, Bool.false_and, Bool.false_eq_true, if_false]
    simp only [e_R_isWord_0, e_R_isWord_1, e_R_isWord_4, e_R_isWord_5, e_R_isWord_8, e_R_isWord_9, e_R_isWord_12, e_R_isWord_13, e_R_isWord_16, e_R_isWord_17, e_R_isWord_18, e_R_isWord_21, e_R_isWord_24, e_R_isWord_25, is_60 h, and_self, and_true, true_and, and_false, false_and, or_true, true_or, or_false, false_or, not_true_eq_false, not_false_eq_true, if_true, if_false, ne_eq, ite_self, reduceCtorEq, i10, Decidable.not_not, Bool.and_self, Bool.and_true, Bool.true_and, e5, ne, bo_0]
end STR

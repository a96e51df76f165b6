/-! THE REFERENCE's calls: feed, fee, fine, deal -/
theorem uu {f : Nat → Int32} {k : Nat} {x y : Int32} : upd (upd f k x) k y = upd f k y := by
  funext j
  by_cases h : j = k
  · subst h; rw [up_s, up_s]
  · rw [up_n h, up_n h, up_n h]
def fbS (x y z : Int32) (k : Nat) : Int32 := ((if k < 4 then x else if k < 8 then y else z) >>> ((24 - 8 * (nI k - nI k / 4 * 4)) &&& 31)) &&& 255
/-- a text for a key that isn't the first uses two facts at most -/
theorem wkS_f2 {f f2 c q : Nat → Int32} {n : Nat} (hok : okS c n) (hn : ∀ j, j < n → c j ≠ 10002) (hf : ∀ i, i < 2 → f i = f2 i) : ∀ k, k ≤ n → wkS f c q k = wkS f2 c q k := by
  intro k
  induction k with
  | zero => intro _; rfl
  | succ k ih =>
    intro hk
    unfold wkS
    rw [ih (by omega)]
    by_cases hs : c k < 0
    · simp only [hs, if_true]
    · simp only [hs, if_false]
      rcases (hok.2.2 k (by omega)).2 hs with h1 | ⟨i, hi, h1⟩
      · simp only [h1, if_true]
      · have h3 : c k - 10000 = nI i := by rw [h1, show (10000 : Int32) = nI 10000 from rfl, pk_sub (by omega), show 10000 + i - 10000 = i by omega]
        have h4 : i ≠ 2 := fun q => hn k (by omega) (by rw [h1, q]; rfl)
        rw [h3, nI_clamp (by omega), hf i (by omega)]
theorem val_eq2 {a f f2 q : Nat → Int32} {t m : Nat} (hm : rem (a (92 + 2 * t)) 1000 = nI m) (hok : okS (fun j => a (120 + 96 * t + j)) m) (hn : ∀ j, j < m → a (120 + 96 * t + j) ≠ 10002) (hf : ∀ i, i < 2 → f i = f2 i) : wkS f (fun j => a (120 + 96 * t + j)) q m 0 = valS a t f2 := by
  unfold valS
  rw [hm, nI_clamp (by have := hok.1; omega), ← wkS_f2 hok hn hf m (Nat.le_refl _)]
  exact wkS_same hok m (Nat.le_refl _) 0 (by rw [hok.2.1]; decide)
theorem cntS_or' (a : Nat → Int32) (key : Int32) : ∀ n, cntS a key n = -1 ∨ ∃ t, t < n ∧ cntS a key n = nI t ∧ a (92 + 2 * t) / 1000 = key
  | 0 => Or.inl rfl
  | n + 1 => by
    unfold cntS
    split
    · rename_i h
      exact Or.inr ⟨n, by omega, rfl, h⟩
    · rcases cntS_or' a key n with e | ⟨t, h1, h2, h3⟩
      · exact Or.inl e
      · exact Or.inr ⟨t, by omega, h2, h3⟩
def ftS (a b : Int32) (i : Nat) : Int32 := if i = 0 then a else if i = 1 then b else 0
section MT13
variable {Ls : Nat} {xs : Nat → Int32} {d : Nat} {S : mS} {I A : mI} {R : mR} {x y z u v : Int32}
theorem l_M_feed (h : WF S R) {n : Nat} (hn : n + 12 ≤ 96) {c : Nat → Int32} (e9 : I 93 9 = nI n) : ∀ (j k : Nat) (l5 : Option mV), k + j = 12 →
    rn Ls xs d 50 18 [some (.inr (.inl (some 93))), some (.inl x), some (.inl y), some (.inl z), some (.inl (nI k)), l5] [] (S, va_up I 101 (blS c (fbS x y z) n k), R) = some (some (.inl (nI n + 12)), (S, va_up (va_up I 101 (blS c (fbS x y z) n 12)) 93 (upd (I 93) 9 (nI n + 12)), R)) := by
  intro j
  induction j with
  | zero =>
    intro k l5 hk
    have : k = 12 := by omega
    subst this
    rw [e_M_feed_18]
    simp only [e_M_feed_0, e_M_feed_1, e_M_feed_4, e_M_feed_6, e_M_feed_7, e_M_feed_9, e_M_feed_12, e_M_feed_14, e_M_feed_15, e_M_feed_16, e_M_feed_20, e_M_feed_22, e_M_feed_25, e_M_feed_27, e_M_feed_28, e_M_feed_31, e_M_feed_32, e_M_feed_35, e_M_feed_37, e_M_feed_39, e_M_feed_42, e_M_feed_43, e_M_feed_46, e_M_feed_47, e_M_feed_49, e_M_feed_50, e_M_feed_53, e_M_feed_54, e_M_feed_57, e_M_feed_59, e_M_feed_60, e_M_feed_62, e_M_feed_64, e_M_feed_66, e_M_feed_68, e_M_feed_69, e_M_feed_70, e_M_feed_71, e_M_feed_72, e_M_feed_73, e_M_feed_76, e_M_feed_77, e_M_feed_78, e_M_feed_81, e_M_feed_84, e_M_feed_85, e_M_feed_86, e_M_feed_89, e_M_feed_91, e_M_feed_92, e_M_feed_95, e_M_feed_96, e_M_feed_99, show ((12 : Int32) ≤ nI 12) by decide, and_self, and_true, true_and, and_false, false_and, or_true, true_or, or_false, false_or, not_true_eq_false, not_false_eq_true, if_true, if_false, ne_eq, ite_self, reduceCtorEq, i10, Decidable.not_not, Bool.and_self, Bool.and_true, Bool.true_and, is_93 h, vu_n (show 93 ≠ 101 by decide), e9, vu_s, up_s]
  | succ j ih =>
    intro k l5 hk
    have hlt : ¬ (12 : Int32) ≤ nI k := by rw [show (12 : Int32) = nI 12 from rfl, nI_le' (by decide) (by omega)]; omega
    have q3 := blS_s (c := c) (m := fbS x y z) (o := n) (k := k)
    rw [e_M_feed_18]
    by_cases h4 : k < 4
    · have g4 : ¬ (4 : Int32) ≤ nI k := by rw [show (4 : Int32) = nI 4 from rfl, nI_le' (by decide) (by omega)]; omega
      have q4 : fbS x y z k = (x >>> ((24 - 8 * (nI k - nI k / 4 * 4)) &&& 31)) &&& 255 := by unfold fbS; rw [if_pos h4]
      rw [q4] at q3
      simp only [e_M_feed_0, e_M_feed_1, e_M_feed_4, e_M_feed_6, e_M_feed_7, e_M_feed_9, e_M_feed_12, e_M_feed_14, e_M_feed_15, e_M_feed_16, e_M_feed_20, e_M_feed_22, e_M_feed_25, e_M_feed_27, e_M_feed_28, e_M_feed_31, e_M_feed_32, e_M_feed_35, e_M_feed_37, e_M_feed_39, e_M_feed_42, e_M_feed_43, e_M_feed_46, e_M_feed_47, e_M_feed_49, e_M_feed_50, e_M_feed_53, e_M_feed_54, e_M_feed_57, e_M_feed_59, e_M_feed_60, e_M_feed_62, e_M_feed_64, e_M_feed_66, e_M_feed_68, e_M_feed_69, e_M_feed_70, e_M_feed_71, e_M_feed_72, e_M_feed_73, e_M_feed_76, e_M_feed_77, e_M_feed_78, e_M_feed_81, e_M_feed_84, e_M_feed_85, e_M_feed_86, e_M_feed_89, e_M_feed_91, e_M_feed_92, e_M_feed_95, e_M_feed_96, e_M_feed_99, hlt, g4, and_self, and_true, true_and, and_false, false_and, or_true, true_or, or_false, false_or, not_true_eq_false, not_false_eq_true, if_true, if_false, ne_eq, ite_self, reduceCtorEq, i10, Decidable.not_not, Bool.and_self, Bool.and_true, Bool.true_and, Int32.reduceAdd, Int32.reduceSub, Int32.reduceLT, Int32.reduceLE, Int32.reduceMul, n_0_1, n_0_2, n_0_3, n_0_4, n_0_5, n_0_6, n_0_7, n_0_8, n_0_9, n_1_0, n_1_2, n_1_3, n_1_4, n_1_5, n_1_6, n_1_7, n_1_8, n_1_9, n_2_0, n_2_1, n_2_3, n_2_4, n_2_5, n_2_6, n_2_7, n_2_8, n_2_9, n_3_0, n_3_1, n_3_2, n_3_4, n_3_5, n_3_6, n_3_7, n_3_8, n_3_9, n_4_0, n_4_1, n_4_2, n_4_3, n_4_5, n_4_6, n_4_7, n_4_8, n_4_9, n_5_0, n_5_1, n_5_2, n_5_3, n_5_4, n_5_6, n_5_7, n_5_8, n_5_9, n_6_0, n_6_1, n_6_2, n_6_3, n_6_4, n_6_5, n_6_7, n_6_8, n_6_9, n_7_0, n_7_1, n_7_2, n_7_3, n_7_4, n_7_5, n_7_6, n_7_8, n_7_9, n_8_0, n_8_1, n_8_2, n_8_3, n_8_4, n_8_5, n_8_6, n_8_7, n_8_9, n_9_0, n_9_1, n_9_2, n_9_3, n_9_4, n_9_5, n_9_6, n_9_7, n_9_8, is_93 h, rf_93_8 h, vu_n (show 93 ≠ 101 by decide), e9, nI_add, ia_101 h (show n + k < 96 by omega), nI_clamp (show n + k < 2 ^ 31 by omega), vu_s, vu_vu, q3, nI_1]
      exact ih (k + 1) _ (by omega)
    · have g4 : (4 : Int32) ≤ nI k := by rw [show (4 : Int32) = nI 4 from rfl, nI_le' (by decide) (by omega)]; omega
      by_cases h8 : k < 8
      · have g8 : ¬ (8 : Int32) ≤ nI k := by rw [show (8 : Int32) = nI 8 from rfl, nI_le' (by decide) (by omega)]; omega
        have q4 : fbS x y z k = (y >>> ((24 - 8 * (nI k - nI k / 4 * 4)) &&& 31)) &&& 255 := by unfold fbS; rw [if_neg h4, if_pos h8]
        rw [q4] at q3
        simp only [e_M_feed_0, e_M_feed_1, e_M_feed_4, e_M_feed_6, e_M_feed_7, e_M_feed_9, e_M_feed_12, e_M_feed_14, e_M_feed_15, e_M_feed_16, e_M_feed_20, e_M_feed_22, e_M_feed_25, e_M_feed_27, e_M_feed_28, e_M_feed_31, e_M_feed_32, e_M_feed_35, e_M_feed_37, e_M_feed_39, e_M_feed_42, e_M_feed_43, e_M_feed_46, e_M_feed_47, e_M_feed_49, e_M_feed_50, e_M_feed_53, e_M_feed_54, e_M_feed_57, e_M_feed_59, e_M_feed_60, e_M_feed_62, e_M_feed_64, e_M_feed_66, e_M_feed_68, e_M_feed_69, e_M_feed_70, e_M_feed_71, e_M_feed_72, e_M_feed_73, e_M_feed_76, e_M_feed_77, e_M_feed_78, e_M_feed_81, e_M_feed_84, e_M_feed_85, e_M_feed_86, e_M_feed_89, e_M_feed_91, e_M_feed_92, e_M_feed_95, e_M_feed_96, e_M_feed_99, hlt, g4, g8, and_self, and_true, true_and, and_false, false_and, or_true, true_or, or_false, false_or, not_true_eq_false, not_false_eq_true, if_true, if_false, ne_eq, ite_self, reduceCtorEq, i10, Decidable.not_not, Bool.and_self, Bool.and_true, Bool.true_and, Int32.reduceAdd, Int32.reduceSub, Int32.reduceLT, Int32.reduceLE, Int32.reduceMul, n_0_1, n_0_2, n_0_3, n_0_4, n_0_5, n_0_6, n_0_7, n_0_8, n_0_9, n_1_0, n_1_2, n_1_3, n_1_4, n_1_5, n_1_6, n_1_7, n_1_8, n_1_9, n_2_0, n_2_1, n_2_3, n_2_4, n_2_5, n_2_6, n_2_7, n_2_8, n_2_9, n_3_0, n_3_1, n_3_2, n_3_4, n_3_5, n_3_6, n_3_7, n_3_8, n_3_9, n_4_0, n_4_1, n_4_2, n_4_3, n_4_5, n_4_6, n_4_7, n_4_8, n_4_9, n_5_0, n_5_1, n_5_2, n_5_3, n_5_4, n_5_6, n_5_7, n_5_8, n_5_9, n_6_0, n_6_1, n_6_2, n_6_3, n_6_4, n_6_5, n_6_7, n_6_8, n_6_9, n_7_0, n_7_1, n_7_2, n_7_3, n_7_4, n_7_5, n_7_6, n_7_8, n_7_9, n_8_0, n_8_1, n_8_2, n_8_3, n_8_4, n_8_5, n_8_6, n_8_7, n_8_9, n_9_0, n_9_1, n_9_2, n_9_3, n_9_4, n_9_5, n_9_6, n_9_7, n_9_8, is_93 h, rf_93_8 h, vu_n (show 93 ≠ 101 by decide), e9, nI_add, ia_101 h (show n + k < 96 by omega), nI_clamp (show n + k < 2 ^ 31 by omega), vu_s, vu_vu, q3, nI_1]
        exact ih (k + 1) _ (by omega)
      · have g8 : (8 : Int32) ≤ nI k := by rw [show (8 : Int32) = nI 8 from rfl, nI_le' (by decide) (by omega)]; omega
        have q4 : fbS x y z k = (z >>> ((24 - 8 * (nI k - nI k / 4 * 4)) &&& 31)) &&& 255 := by unfold fbS; rw [if_neg h4, if_neg h8]
        rw [q4] at q3
        simp only [e_M_feed_0, e_M_feed_1, e_M_feed_4, e_M_feed_6, e_M_feed_7, e_M_feed_9, e_M_feed_12, e_M_feed_14, e_M_feed_15, e_M_feed_16, e_M_feed_20, e_M_feed_22, e_M_feed_25, e_M_feed_27, e_M_feed_28, e_M_feed_31, e_M_feed_32, e_M_feed_35, e_M_feed_37, e_M_feed_39, e_M_feed_42, e_M_feed_43, e_M_feed_46, e_M_feed_47, e_M_feed_49, e_M_feed_50, e_M_feed_53, e_M_feed_54, e_M_feed_57, e_M_feed_59, e_M_feed_60, e_M_feed_62, e_M_feed_64, e_M_feed_66, e_M_feed_68, e_M_feed_69, e_M_feed_70, e_M_feed_71, e_M_feed_72, e_M_feed_73, e_M_feed_76, e_M_feed_77, e_M_feed_78, e_M_feed_81, e_M_feed_84, e_M_feed_85, e_M_feed_86, e_M_feed_89, e_M_feed_91, e_M_feed_92, e_M_feed_95, e_M_feed_96, e_M_feed_99, hlt, g4, g8, and_self, and_true, true_and, and_false, false_and, or_true, true_or, or_false, false_or, not_true_eq_false, not_false_eq_true, if_true, if_false, ne_eq, ite_self, reduceCtorEq, i10, Decidable.not_not, Bool.and_self, Bool.and_true, Bool.true_and, Int32.reduceAdd, Int32.reduceSub, Int32.reduceLT, Int32.reduceLE, Int32.reduceMul, n_0_1, n_0_2, n_0_3, n_0_4, n_0_5, n_0_6, n_0_7, n_0_8, n_0_9, n_1_0, n_1_2, n_1_3, n_1_4, n_1_5, n_1_6, n_1_7, n_1_8, n_1_9, n_2_0, n_2_1, n_2_3, n_2_4, n_2_5, n_2_6, n_2_7, n_2_8, n_2_9, n_3_0, n_3_1, n_3_2, n_3_4, n_3_5, n_3_6, n_3_7, n_3_8, n_3_9, n_4_0, n_4_1, n_4_2, n_4_3, n_4_5, n_4_6, n_4_7, n_4_8, n_4_9, n_5_0, n_5_1, n_5_2, n_5_3, n_5_4, n_5_6, n_5_7, n_5_8, n_5_9, n_6_0, n_6_1, n_6_2, n_6_3, n_6_4, n_6_5, n_6_7, n_6_8, n_6_9, n_7_0, n_7_1, n_7_2, n_7_3, n_7_4, n_7_5, n_7_6, n_7_8, n_7_9, n_8_0, n_8_1, n_8_2, n_8_3, n_8_4, n_8_5, n_8_6, n_8_7, n_8_9, n_9_0, n_9_1, n_9_2, n_9_3, n_9_4, n_9_5, n_9_6, n_9_7, n_9_8, is_93 h, rf_93_8 h, vu_n (show 93 ≠ 101 by decide), e9, nI_add, ia_101 h (show n + k < 96 by omega), nI_clamp (show n + k < 2 ^ 31 by omega), vu_s, vu_vu, q3, nI_1]
        exact ih (k + 1) _ (by omega)
def sp_feed (A : mI) (x y z : Int32) : Int32 × mI := if A 93 9 + 12 ≤ 96 then (A 93 9 + 12, va_up (va_up A 101 (blS (A 101) (fbS x y z) (cW (A 93 9)) 12)) 93 (upd (A 93) 9 (A 93 9 + 12))) else (-1000000003, A)
theorem MR.tape (h : MR I A) : I 101 = A 101 := h.2.1
theorem o_M_feed (h : WF S R) (hm : MR I A) {n : Nat} (hn : n ≤ 96) (e : A 93 9 = nI n) : ∃ I2, MR I2 (sp_feed A x y z).2 ∧ rn Ls xs (d + 9) 50 0 [some (.inr (.inl (some 93))), some (.inl x), some (.inl y), some (.inl z), none, none] [] (S, I, R) = some (some (.inl (sp_feed A x y z).1), (S, I2, R)) := by
  have e9 : I 93 9 = nI n := hm.f9.trans e
  have q : (nI n + 12 ≤ 96) = (n + 12 ≤ 96) := by
    rw [show (nI n + 12 : Int32) = nI (n + 12) from nI_add n 12]
    exact nI_le' (b := 96) (by omega) (by decide)
  unfold sp_feed
  rw [e]
  by_cases h1 : n + 12 ≤ 96
  · have r1 := l_M_feed (Ls := Ls) (xs := xs) (d := d + 9) (x := x) (y := y) (z := z) (c := I 101) h h1 e9 12 0 none (by omega)
    rw [blS_0, vu_id] at r1
    have r1 : rn Ls xs (d + 9) 50 18 [some (.inr (.inl (some 93))), some (.inl x), some (.inl y), some (.inl z), some (.inl 0), none] [] (S, I, R) = _ := r1
    have h3 := ((hm.up 101 (blS (I 101) (fbS x y z) n 12) (by decide)).fld 9 (nI n + 12))
    rw [vu_n (show 93 ≠ 101 by decide), vu_n (show 93 ≠ 101 by decide)] at h3
    refine ⟨va_up (va_up I 101 (blS (I 101) (fbS x y z) n 12)) 93 (upd (I 93) 9 (nI n + 12)), ?_, ?_⟩
    · simp only [q, h1, and_self, and_true, true_and, and_false, false_and, or_true, true_or, or_false, false_or, not_true_eq_false, not_false_eq_true, if_true, if_false, ne_eq, ite_self, reduceCtorEq, i10, Decidable.not_not, Bool.and_self, Bool.and_true, Bool.true_and, nI_clamp (show n < 2 ^ 31 by omega), ← hm.tape]
      exact h3
    · simp only [e_M_feed_0, e_M_feed_1, e_M_feed_4, e_M_feed_6, e_M_feed_7, e_M_feed_9, e_M_feed_12, e_M_feed_14, e_M_feed_15, e_M_feed_16, e_M_feed_20, e_M_feed_22, e_M_feed_25, e_M_feed_27, e_M_feed_28, e_M_feed_31, e_M_feed_32, e_M_feed_35, e_M_feed_37, e_M_feed_39, e_M_feed_42, e_M_feed_43, e_M_feed_46, e_M_feed_47, e_M_feed_49, e_M_feed_50, e_M_feed_53, e_M_feed_54, e_M_feed_57, e_M_feed_59, e_M_feed_60, e_M_feed_62, e_M_feed_64, e_M_feed_66, e_M_feed_68, e_M_feed_69, e_M_feed_70, e_M_feed_71, e_M_feed_72, e_M_feed_73, e_M_feed_76, e_M_feed_77, e_M_feed_78, e_M_feed_81, e_M_feed_84, e_M_feed_85, e_M_feed_86, e_M_feed_89, e_M_feed_91, e_M_feed_92, e_M_feed_95, e_M_feed_96, e_M_feed_99, is_93 h, and_self, and_true, true_and, and_false, false_and, or_true, true_or, or_false, false_or, not_true_eq_false, not_false_eq_true, if_true, if_false, ne_eq, ite_self, reduceCtorEq, i10, Decidable.not_not, Bool.and_self, Bool.and_true, Bool.true_and, e9, q, h1, r1]
  · refine ⟨I, by simp only [q, h1, and_self, and_true, true_and, and_false, false_and, or_true, true_or, or_false, false_or, not_true_eq_false, not_false_eq_true, if_true, if_false, ne_eq, ite_self, reduceCtorEq, i10, Decidable.not_not, Bool.and_self, Bool.and_true, Bool.true_and]; exact hm, ?_⟩
    simp only [e_M_feed_0, e_M_feed_1, e_M_feed_4, e_M_feed_6, e_M_feed_7, e_M_feed_9, e_M_feed_12, e_M_feed_14, e_M_feed_15, e_M_feed_16, e_M_feed_20, e_M_feed_22, e_M_feed_25, e_M_feed_27, e_M_feed_28, e_M_feed_31, e_M_feed_32, e_M_feed_35, e_M_feed_37, e_M_feed_39, e_M_feed_42, e_M_feed_43, e_M_feed_46, e_M_feed_47, e_M_feed_49, e_M_feed_50, e_M_feed_53, e_M_feed_54, e_M_feed_57, e_M_feed_59, e_M_feed_60, e_M_feed_62, e_M_feed_64, e_M_feed_66, e_M_feed_68, e_M_feed_69, e_M_feed_70, e_M_feed_71, e_M_feed_72, e_M_feed_73, e_M_feed_76, e_M_feed_77, e_M_feed_78, e_M_feed_81, e_M_feed_84, e_M_feed_85, e_M_feed_86, e_M_feed_89, e_M_feed_91, e_M_feed_92, e_M_feed_95, e_M_feed_96, e_M_feed_99, is_93 h, and_self, and_true, true_and, and_false, false_and, or_true, true_or, or_false, false_or, not_true_eq_false, not_false_eq_true, if_true, if_false, ne_eq, ite_self, reduceCtorEq, i10, Decidable.not_not, Bool.and_self, Bool.and_true, Bool.true_and, e9, q, h1]
def sp_fee (A : mI) : Int32 × mI := (if cntS (A 94) 1 (cW (A 94 7)) < 0 then A 94 4 else valS (A 94) (cW (cntS (A 94) 1 (cW (A 94 7)))) (ftS (A 94 4) (A 94 5)), A)
theorem o_M_fee (h : WF S R) (hm : MR I A) (hr : rwOK (A 94)) : ∃ I2, MR I2 (sp_fee A).2 ∧ rn Ls xs (d + 9) 46 0 [some (.inr (.inl (some 93))), none] [] (S, I, R) = some (some (.inl (sp_fee A).1), (S, I2, R)) := by
  obtain ⟨n, hn, e7, htx⟩ := hr.2
  rw [← hm.now] at e7 htx
  have hc7 : cW (I 94 7) = n := by rw [e7, cW, nI_clamp (by omega)]
  have run := k_M_counts (Ls := Ls) (xs := xs) (d := d + 8) h (key := 1) hn e7
  unfold sp_fee
  rw [← hm.now, hc7]
  rcases cntS_or' (I 94) 1 n with e | ⟨t, htn, e, ekey⟩
  · refine ⟨_, hm.hid (b := 108) (f := upd (upd (I 108) 0 (I 94 4)) 1 (I 94 5)) (by omega), ?_⟩
    simp only [e_M_fee_0, e_M_fee_1, e_M_fee_2, e_M_fee_5, e_M_fee_6, e_M_fee_7, e_M_fee_10, e_M_fee_11, e_M_fee_12, e_M_fee_15, e_M_fee_16, e_M_fee_17, e_M_fee_18, e_M_fee_19, e_M_fee_22, e_M_fee_23, e_M_fee_24, e_M_fee_27, e_M_fee_28, e_M_fee_29, e_M_fee_30, e_M_fee_31, e_M_fee_34, e_M_fee_35, e_M_fee_38, e_M_fee_39, e_M_fee_40, e_M_fee_43, e_M_fee_44, e_M_fee_45, e_M_fee_48, is_93 h, rf_93_25 h, rf_93_0 h, and_self, and_true, true_and, and_false, false_and, or_true, true_or, or_false, false_or, not_true_eq_false, not_false_eq_true, if_true, if_false, ne_eq, ite_self, reduceCtorEq, i10, Decidable.not_not, Bool.and_self, Bool.and_true, Bool.true_and, run, e, rb_i, ia108_0 h, ia108_1 h, cl_0, cl_1, cl_4, cl_5, ia94_4 h, ia94_5 h, vu_s, vu_vu, vu_n (show 94 ≠ 108 by decide), show ((-1 : Int32) < 0) by decide, show ¬ (0 : Int32) ≤ -1 by decide]
  · obtain ⟨m, hm2, hok, hno⟩ := htx t htn
    have hno := hno (by rw [ekey]; decide)
    have run2 := k_M_worksOut (Ls := Ls) (xs := xs) (d := d + 7) (I := va_up I 108 (upd (upd (I 108) 0 (I 94 4)) 1 (I 94 5))) h (show t < 14 by omega) hok (by rw [vu_n (show 94 ≠ 108 by decide)]; exact hm2) (fun j _ => by rw [vu_n (show 94 ≠ 108 by decide)]) (vu_s)
    rw [val_eq2 (f2 := ftS (I 94 4) (I 94 5)) hm2 hok hno (by intro i hi; rcases (show i = 0 ∨ i = 1 by omega) with rfl | rfl <;> simp [upd, ftS])] at run2
    obtain ⟨I2, m2, r2⟩ : ∃ I2, MR I2 A ∧ rn Ls xs (d + 8) 152 0 [some (.inr (.inl (some 93))), some (.inl (nI t)), none, none, none, none] [] (S, va_up I 108 (upd (upd (I 108) 0 (I 94 4)) 1 (I 94 5)), R) = some (some (.inl (valS (I 94) t (ftS (I 94 4) (I 94 5)))), (S, I2, R)) := ⟨_, (hm.hid (b := 108) (f := upd (upd (I 108) 0 (I 94 4)) 1 (I 94 5)) (by omega)).hid (b := 107) (by omega), run2⟩
    · refine ⟨I2, m2, ?_⟩
      have h0 : (0 : Int32) ≤ nI t := nI_pos' (by omega)
      simp only [e_M_fee_0, e_M_fee_1, e_M_fee_2, e_M_fee_5, e_M_fee_6, e_M_fee_7, e_M_fee_10, e_M_fee_11, e_M_fee_12, e_M_fee_15, e_M_fee_16, e_M_fee_17, e_M_fee_18, e_M_fee_19, e_M_fee_22, e_M_fee_23, e_M_fee_24, e_M_fee_27, e_M_fee_28, e_M_fee_29, e_M_fee_30, e_M_fee_31, e_M_fee_34, e_M_fee_35, e_M_fee_38, e_M_fee_39, e_M_fee_40, e_M_fee_43, e_M_fee_44, e_M_fee_45, e_M_fee_48, is_93 h, rf_93_25 h, rf_93_0 h, and_self, and_true, true_and, and_false, false_and, or_true, true_or, or_false, false_or, not_true_eq_false, not_false_eq_true, if_true, if_false, ne_eq, ite_self, reduceCtorEq, i10, Decidable.not_not, Bool.and_self, Bool.and_true, Bool.true_and, run, e, rb_i, ia108_0 h, ia108_1 h, cl_0, cl_1, cl_4, cl_5, ia94_4 h, ia94_5 h, vu_s, vu_vu, vu_n (show 94 ≠ 108 by decide), h0, nI_n0 (show t < 2 ^ 31 by omega), r2, nI_clamp (show t < 2 ^ 31 by omega)]
def sp_fine (A : mI) (x : Int32) : Int32 × mI := (if isWr A x then (if cntS (A 94) 2 (cW (A 94 7)) < 0 then A 94 (8 + 6 * cW x + 4) else valS (A 94) (cW (cntS (A 94) 2 (cW (A 94 7)))) (ftS (A 94 (8 + 6 * cW x + 4)) (A 94 (8 + 6 * cW x + 2)))) else BADi, A)
theorem o_M_fine (h : WF S R) (hm : MR I A) (hr : rwOK (A 94)) : ∃ I2, MR I2 (sp_fine A x).2 ∧ rn Ls xs (d + 9) 48 0 [some (.inr (.inl (some 93))), some (.inl x), none] [] (S, I, R) = some (some (.inl (sp_fine A x).1), (S, I2, R)) := by
  obtain ⟨nw, hnw, e1⟩ := hr.1
  have e2 : I 94 1 = nI nw := by rw [hm.now, e1]
  obtain ⟨n, hn, e7, htx⟩ := hr.2
  rw [← hm.now] at e7 htx
  have hc7 : cW (I 94 7) = n := by rw [e7, cW, nI_clamp (by omega)]
  have run := k_M_counts (Ls := Ls) (xs := xs) (d := d + 8) h (key := 2) hn e7
  unfold sp_fine
  by_cases h1 : isWr A x
  · obtain ⟨w, hw, rfl⟩ := isW hnw (by rw [← e1]; exact h1)
    have hw14 : w < 14 := by omega
    have h2 : 0 ≤ nI w ∧ nI w ≤ nI nw - 1 := by rw [isWr, e1] at h1; exact h1
    simp only [isWr, e1, h2, and_self, and_true, true_and, and_false, false_and, or_true, true_or, or_false, false_or, not_true_eq_false, not_false_eq_true, if_true, if_false, ne_eq, ite_self, reduceCtorEq, i10, Decidable.not_not, Bool.and_self, Bool.and_true, Bool.true_and, nI_clamp (show w < 2 ^ 31 by omega), ← hm.now, hc7]
    rcases cntS_or' (I 94) 2 n with e | ⟨t, htn, e, ekey⟩
    · refine ⟨_, hm.hid (b := 108) (f := upd (upd (I 108) 0 (I 94 (8 + 6 * w + 4))) 1 (I 94 (8 + 6 * w + 2))) (by omega), ?_⟩
      simp only [e_M_fine_0, e_M_fine_1, e_M_fine_2, e_M_fine_5, e_M_fine_8, e_M_fine_10, e_M_fine_11, e_M_fine_12, e_M_fine_13, e_M_fine_16, e_M_fine_17, e_M_fine_18, e_M_fine_21, e_M_fine_22, e_M_fine_23, e_M_fine_24, e_M_fine_25, e_M_fine_28, e_M_fine_29, e_M_fine_30, e_M_fine_33, e_M_fine_34, e_M_fine_35, e_M_fine_36, e_M_fine_37, e_M_fine_40, e_M_fine_41, e_M_fine_42, e_M_fine_45, e_M_fine_46, e_M_fine_47, e_M_fine_48, e_M_fine_51, e_M_fine_54, e_M_fine_55, e_M_fine_56, e_M_fine_59, k_M_isWreck h hnw e2, h2, in1, is_93 h, rf_93_25 h, rf_93_0 h, and_self, and_true, true_and, and_false, false_and, or_true, true_or, or_false, false_or, not_true_eq_false, not_false_eq_true, if_true, if_false, ne_eq, ite_self, reduceCtorEq, i10, Decidable.not_not, Bool.and_self, Bool.and_true, Bool.true_and, run, e, rb_i, ia108_0 h, ia108_1 h, cl_0, cl_1, k_M_of_4 h hw14, k_M_of_2 h hw14, vu_s, vu_vu, vu_n (show 94 ≠ 108 by decide), show ((-1 : Int32) < 0) by decide, show ¬ (0 : Int32) ≤ -1 by decide]
    · obtain ⟨m, hm2, hok, hno⟩ := htx t htn
      have hno := hno (by rw [ekey]; decide)
      have run2 := k_M_worksOut (Ls := Ls) (xs := xs) (d := d + 7) (I := va_up I 108 (upd (upd (I 108) 0 (I 94 (8 + 6 * w + 4))) 1 (I 94 (8 + 6 * w + 2)))) h (show t < 14 by omega) hok (by rw [vu_n (show 94 ≠ 108 by decide)]; exact hm2) (fun j _ => by rw [vu_n (show 94 ≠ 108 by decide)]) (vu_s)
      rw [val_eq2 (f2 := ftS (I 94 (8 + 6 * w + 4)) (I 94 (8 + 6 * w + 2))) hm2 hok hno (by intro i hi; rcases (show i = 0 ∨ i = 1 by omega) with rfl | rfl <;> simp [upd, ftS])] at run2
      obtain ⟨I2, m2, r2⟩ : ∃ I2, MR I2 A ∧ rn Ls xs (d + 8) 152 0 [some (.inr (.inl (some 93))), some (.inl (nI t)), none, none, none, none] [] (S, va_up I 108 (upd (upd (I 108) 0 (I 94 (8 + 6 * w + 4))) 1 (I 94 (8 + 6 * w + 2))), R) = some (some (.inl (valS (I 94) t (ftS (I 94 (8 + 6 * w + 4)) (I 94 (8 + 6 * w + 2))))), (S, I2, R)) := ⟨_, (hm.hid (b := 108) (f := upd (upd (I 108) 0 (I 94 (8 + 6 * w + 4))) 1 (I 94 (8 + 6 * w + 2))) (by omega)).hid (b := 107) (by omega), run2⟩
      · refine ⟨I2, m2, ?_⟩
        have h0 : (0 : Int32) ≤ nI t := nI_pos' (by omega)
        simp only [e_M_fine_0, e_M_fine_1, e_M_fine_2, e_M_fine_5, e_M_fine_8, e_M_fine_10, e_M_fine_11, e_M_fine_12, e_M_fine_13, e_M_fine_16, e_M_fine_17, e_M_fine_18, e_M_fine_21, e_M_fine_22, e_M_fine_23, e_M_fine_24, e_M_fine_25, e_M_fine_28, e_M_fine_29, e_M_fine_30, e_M_fine_33, e_M_fine_34, e_M_fine_35, e_M_fine_36, e_M_fine_37, e_M_fine_40, e_M_fine_41, e_M_fine_42, e_M_fine_45, e_M_fine_46, e_M_fine_47, e_M_fine_48, e_M_fine_51, e_M_fine_54, e_M_fine_55, e_M_fine_56, e_M_fine_59, k_M_isWreck h hnw e2, h2, in1, is_93 h, rf_93_25 h, rf_93_0 h, and_self, and_true, true_and, and_false, false_and, or_true, true_or, or_false, false_or, not_true_eq_false, not_false_eq_true, if_true, if_false, ne_eq, ite_self, reduceCtorEq, i10, Decidable.not_not, Bool.and_self, Bool.and_true, Bool.true_and, run, e, rb_i, ia108_0 h, ia108_1 h, cl_0, cl_1, k_M_of_4 h hw14, k_M_of_2 h hw14, vu_s, vu_vu, vu_n (show 94 ≠ 108 by decide), h0, nI_n0 (show t < 2 ^ 31 by omega), r2, nI_clamp (show t < 2 ^ 31 by omega)]
  · have h2 : ¬ (0 ≤ x ∧ x ≤ nI nw - 1) := by rw [isWr, e1] at h1; exact h1
    refine ⟨I, hm, ?_⟩
    simp only [e_M_fine_0, e_M_fine_1, e_M_fine_2, e_M_fine_5, e_M_fine_8, e_M_fine_10, e_M_fine_11, e_M_fine_12, e_M_fine_13, e_M_fine_16, e_M_fine_17, e_M_fine_18, e_M_fine_21, e_M_fine_22, e_M_fine_23, e_M_fine_24, e_M_fine_25, e_M_fine_28, e_M_fine_29, e_M_fine_30, e_M_fine_33, e_M_fine_34, e_M_fine_35, e_M_fine_36, e_M_fine_37, e_M_fine_40, e_M_fine_41, e_M_fine_42, e_M_fine_45, e_M_fine_46, e_M_fine_47, e_M_fine_48, e_M_fine_51, e_M_fine_54, e_M_fine_55, e_M_fine_56, e_M_fine_59, k_M_isWreck h hnw e2, rb_i, in0, in1, is_93 h, isWr, e1, e2, h2, and_self, and_true, true_and, and_false, false_and, or_true, true_or, or_false, false_or, not_true_eq_false, not_false_eq_true, if_true, if_false, ne_eq, ite_self, reduceCtorEq, i10, Decidable.not_not, Bool.and_self, Bool.and_true, Bool.true_and]
abbrev z5S (z : Int32) : Int32 := zS (zS (zS (zS (zS z))))
def dlS1 (a : Nat → Int32) (n : Nat) : Nat → Int32 := comesS (upd a 0 (z5S (a 0))) n (rem (sh8 (zS (a 0))) 6) (rem (sh8 (zS (zS (a 0)))) 8) (rem (sh8 (zS (zS (zS (a 0))))) 30) (rem (sh8 (zS (zS (zS (zS (a 0)))))) 19 - 9) (1 + rem (sh8 (z5S (a 0))) 30)
def dlS (a : Nat → Int32) (n : Nat) : Nat → (Nat → Int32)
  | 0 => a
  | j + 1 => dlS (dlS1 a n) (n + 1) j
theorem l_M_deal (h : WF S R) {k : Nat} (hk : k ≤ 14) : ∀ (j m n : Nat) (I : mI) (l3 l4 l5 l6 l7 : Option mV), I 94 1 = nI n → n + j ≤ 14 → m + j ≤ k → (m + j = k ∨ n + j = 14) →
    rn Ls xs (d + 2) 20 15 [some (.inr (.inl (some 93))), some (.inl (nI k)), some (.inl (nI m)), l3, l4, l5, l6, l7] [] (S, I, R) = some (some (.inl (nI (m + j))), (S, va_up I 94 (dlS (I 94) n j), R)) := by
  intro j
  induction j with
  | zero =>
    intro m n I l3 l4 l5 l6 l7 e1 hn hm ho
    rw [e_M_deal_15]
    by_cases hmk : k ≤ m
    · simp only [e_M_deal_0, e_M_deal_1, e_M_deal_2, e_M_deal_4, e_M_deal_7, e_M_deal_10, e_M_deal_12, e_M_deal_13, e_M_deal_14, e_M_deal_16, e_M_deal_17, e_M_deal_20, e_M_deal_21, e_M_deal_24, e_M_deal_25, e_M_deal_26, e_M_deal_28, e_M_deal_31, e_M_deal_32, e_M_deal_35, e_M_deal_37, e_M_deal_38, e_M_deal_39, e_M_deal_40, e_M_deal_43, e_M_deal_45, e_M_deal_46, e_M_deal_48, e_M_deal_49, e_M_deal_52, e_M_deal_54, e_M_deal_55, e_M_deal_57, e_M_deal_58, e_M_deal_61, e_M_deal_63, e_M_deal_64, e_M_deal_66, e_M_deal_67, e_M_deal_69, e_M_deal_70, e_M_deal_71, e_M_deal_73, e_M_deal_75, e_M_deal_77, e_M_deal_78, e_M_deal_79, e_M_deal_82, e_M_deal_84, e_M_deal_85, e_M_deal_86, e_M_deal_89, e_M_deal_91, e_M_deal_94, e_M_deal_97, e_M_deal_98, nI_le' (show k < 2 ^ 31 by omega) (show m < 2 ^ 31 by omega), hmk, and_self, and_true, true_and, and_false, false_and, or_true, true_or, or_false, false_or, not_true_eq_false, not_false_eq_true, if_true, if_false, ne_eq, ite_self, reduceCtorEq, i10, Decidable.not_not, Bool.and_self, Bool.and_true, Bool.true_and, dlS, vu_id, Nat.add_zero]
    · have hn14 : n = 14 := by omega
      subst hn14
      simp only [e_M_deal_0, e_M_deal_1, e_M_deal_2, e_M_deal_4, e_M_deal_7, e_M_deal_10, e_M_deal_12, e_M_deal_13, e_M_deal_14, e_M_deal_16, e_M_deal_17, e_M_deal_20, e_M_deal_21, e_M_deal_24, e_M_deal_25, e_M_deal_26, e_M_deal_28, e_M_deal_31, e_M_deal_32, e_M_deal_35, e_M_deal_37, e_M_deal_38, e_M_deal_39, e_M_deal_40, e_M_deal_43, e_M_deal_45, e_M_deal_46, e_M_deal_48, e_M_deal_49, e_M_deal_52, e_M_deal_54, e_M_deal_55, e_M_deal_57, e_M_deal_58, e_M_deal_61, e_M_deal_63, e_M_deal_64, e_M_deal_66, e_M_deal_67, e_M_deal_69, e_M_deal_70, e_M_deal_71, e_M_deal_73, e_M_deal_75, e_M_deal_77, e_M_deal_78, e_M_deal_79, e_M_deal_82, e_M_deal_84, e_M_deal_85, e_M_deal_86, e_M_deal_89, e_M_deal_91, e_M_deal_94, e_M_deal_97, e_M_deal_98, nI_le' (show k < 2 ^ 31 by omega) (show m < 2 ^ 31 by omega), hmk, and_self, and_true, true_and, and_false, false_and, or_true, true_or, or_false, false_or, not_true_eq_false, not_false_eq_true, if_true, if_false, ne_eq, ite_self, reduceCtorEq, i10, Decidable.not_not, Bool.and_self, Bool.and_true, Bool.true_and, dlS, vu_id, Nat.add_zero, is_93 h, rf_93_0 h, ia94_1 h, cl_1, e1, show ((14 : Int32) ≤ nI 14) by decide]
  | succ j ih =>
    intro m n I l3 l4 l5 l6 l7 e1 hn hm ho
    have hlt : ¬ (14 : Int32) ≤ nI n := by rw [show (14 : Int32) = nI 14 from rfl, nI_le' (by decide) (by omega)]; omega
    have e0 : ∀ q, upd (I 94) 0 q 1 = nI n := fun q => by rw [up_n (by decide)]; exact e1
    have kc : ∀ {q k ht p pc mm}, rn Ls xs (d + 1) 99 0 [some (.inr (.inl (some 93))), some (.inl k), some (.inl ht), some (.inl p), some (.inl pc), some (.inl mm), none] [] (S, va_up I 94 (upd (I 94) 0 q), R) = some (some (.inl (nI n)), (S, va_up I 94 (comesS (upd (I 94) 0 q) n k ht p pc mm), R)) := by
      intro q k ht p pc mm
      have := k_M_comes (Ls := Ls) (xs := xs) (d := d) (I := va_up I 94 (upd (I 94) 0 q)) (k := k) (ht := ht) (p := p) (pc := pc) (m := mm) h (show n < 14 by omega) (by rw [vu_s]; exact e0 q)
      rw [vu_s, vu_vu] at this
      exact this
    have ih1 := fun l3 l4 l5 l6 l7 => ih (m + 1) (n + 1) (va_up I 94 (dlS1 (I 94) n)) l3 l4 l5 l6 l7 (by rw [vu_s]; unfold dlS1 comesS; rw [up_n (by omega), up_n (by omega), up_n (by omega), up_n (by omega), up_n (by omega), up_n (by omega), up_s]) (by omega) (by omega) (by omega)
    simp only [vu_s, vu_vu] at ih1
    rw [e_M_deal_15]
    simp only [e_M_deal_0, e_M_deal_1, e_M_deal_2, e_M_deal_4, e_M_deal_7, e_M_deal_10, e_M_deal_12, e_M_deal_13, e_M_deal_14, e_M_deal_16, e_M_deal_17, e_M_deal_20, e_M_deal_21, e_M_deal_24, e_M_deal_25, e_M_deal_26, e_M_deal_28, e_M_deal_31, e_M_deal_32, e_M_deal_35, e_M_deal_37, e_M_deal_38, e_M_deal_39, e_M_deal_40, e_M_deal_43, e_M_deal_45, e_M_deal_46, e_M_deal_48, e_M_deal_49, e_M_deal_52, e_M_deal_54, e_M_deal_55, e_M_deal_57, e_M_deal_58, e_M_deal_61, e_M_deal_63, e_M_deal_64, e_M_deal_66, e_M_deal_67, e_M_deal_69, e_M_deal_70, e_M_deal_71, e_M_deal_73, e_M_deal_75, e_M_deal_77, e_M_deal_78, e_M_deal_79, e_M_deal_82, e_M_deal_84, e_M_deal_85, e_M_deal_86, e_M_deal_89, e_M_deal_91, e_M_deal_94, e_M_deal_97, e_M_deal_98, nI_le' (show k < 2 ^ 31 by omega) (show m < 2 ^ 31 by omega), show ¬ k ≤ m by omega, and_self, and_true, true_and, and_false, false_and, or_true, true_or, or_false, false_or, not_true_eq_false, not_false_eq_true, if_true, if_false, ne_eq, ite_self, reduceCtorEq, i10, Decidable.not_not, Bool.and_self, Bool.and_true, Bool.true_and, Int32.reduceAdd, Int32.reduceSub, Int32.reduceLT, Int32.reduceLE, Int32.reduceMul, n_0_1, n_0_2, n_0_3, n_0_4, n_0_5, n_0_6, n_0_7, n_0_8, n_0_9, n_1_0, n_1_2, n_1_3, n_1_4, n_1_5, n_1_6, n_1_7, n_1_8, n_1_9, n_2_0, n_2_1, n_2_3, n_2_4, n_2_5, n_2_6, n_2_7, n_2_8, n_2_9, n_3_0, n_3_1, n_3_2, n_3_4, n_3_5, n_3_6, n_3_7, n_3_8, n_3_9, n_4_0, n_4_1, n_4_2, n_4_3, n_4_5, n_4_6, n_4_7, n_4_8, n_4_9, n_5_0, n_5_1, n_5_2, n_5_3, n_5_4, n_5_6, n_5_7, n_5_8, n_5_9, n_6_0, n_6_1, n_6_2, n_6_3, n_6_4, n_6_5, n_6_7, n_6_8, n_6_9, n_7_0, n_7_1, n_7_2, n_7_3, n_7_4, n_7_5, n_7_6, n_7_8, n_7_9, n_8_0, n_8_1, n_8_2, n_8_3, n_8_4, n_8_5, n_8_6, n_8_7, n_8_9, n_9_0, n_9_1, n_9_2, n_9_3, n_9_4, n_9_5, n_9_6, n_9_7, n_9_8, is_93 h, rf_93_0 h, ia94_1 h, cl_1, e1, hlt, k_M_draw h, rb_i, vu_s, vu_vu, up_s, uu, show ¬ (30 : Int32) = 0 by decide, show ¬ (19 : Int32) = 0 by decide, kc, nI_1, dlS]
    rw [show m + (j + 1) = m + 1 + j by omega]
    exact ih1 _ _ _ _ _
def sp_deal (A : mI) (x : Int32) : Int32 × mI := if 1 ≤ x ∧ x ≤ 14 then (nI (min (cW x) (14 - cW (A 94 1))), va_up A 94 (dlS (A 94) (cW (A 94 1)) (min (cW x) (14 - cW (A 94 1))))) else (BADi, A)
theorem o_M_deal (h : WF S R) (hm : MR I A) (hr : rwOK (A 94)) : ∃ I2, MR I2 (sp_deal A x).2 ∧ rn Ls xs (d + 9) 20 0 [some (.inr (.inl (some 93))), some (.inl x), none, none, none, none, none, none] [] (S, I, R) = some (some (.inl (sp_deal A x).1), (S, I2, R)) := by
  obtain ⟨n, hn, e1⟩ := hr.1
  have e2 : I 94 1 = nI n := by rw [hm.now, e1]
  unfold sp_deal
  by_cases h1 : 1 ≤ x ∧ x ≤ 14
  · obtain ⟨k, hk1, hk2, rfl⟩ := inN (a := 1) (b := 14) (by decide) h1 rfl rfl
    have r1 := l_M_deal (Ls := Ls) (xs := xs) (d := d + 7) h hk2 (min k (14 - n)) 0 n I none none none none none e2 (by omega) (by omega) (by omega)
    have r1 : rn Ls xs (d + 9) 20 15 [some (.inr (.inl (some 93))), some (.inl (nI k)), some (.inl 0), none, none, none, none, none] [] (S, I, R) = _ := r1
    refine ⟨va_up I 94 (dlS (I 94) n (min k (14 - n))), ?_, ?_⟩
    · simp only [h1, and_self, and_true, true_and, and_false, false_and, or_true, true_or, or_false, false_or, not_true_eq_false, not_false_eq_true, if_true, if_false, ne_eq, ite_self, reduceCtorEq, i10, Decidable.not_not, Bool.and_self, Bool.and_true, Bool.true_and, e1, cW, nI_clamp (show n < 2 ^ 31 by omega), nI_clamp (show k < 2 ^ 31 by omega), hm.now]
      exact hm.up 94 _ (by decide)
    · simp only [e_M_deal_0, e_M_deal_1, e_M_deal_2, e_M_deal_4, e_M_deal_7, e_M_deal_10, e_M_deal_12, e_M_deal_13, e_M_deal_14, e_M_deal_16, e_M_deal_17, e_M_deal_20, e_M_deal_21, e_M_deal_24, e_M_deal_25, e_M_deal_26, e_M_deal_28, e_M_deal_31, e_M_deal_32, e_M_deal_35, e_M_deal_37, e_M_deal_38, e_M_deal_39, e_M_deal_40, e_M_deal_43, e_M_deal_45, e_M_deal_46, e_M_deal_48, e_M_deal_49, e_M_deal_52, e_M_deal_54, e_M_deal_55, e_M_deal_57, e_M_deal_58, e_M_deal_61, e_M_deal_63, e_M_deal_64, e_M_deal_66, e_M_deal_67, e_M_deal_69, e_M_deal_70, e_M_deal_71, e_M_deal_73, e_M_deal_75, e_M_deal_77, e_M_deal_78, e_M_deal_79, e_M_deal_82, e_M_deal_84, e_M_deal_85, e_M_deal_86, e_M_deal_89, e_M_deal_91, e_M_deal_94, e_M_deal_97, e_M_deal_98, k_M_in, rb_i, in1, h1, and_self, and_true, true_and, and_false, false_and, or_true, true_or, or_false, false_or, not_true_eq_false, not_false_eq_true, if_true, if_false, ne_eq, ite_self, reduceCtorEq, i10, Decidable.not_not, Bool.and_self, Bool.and_true, Bool.true_and, r1, e1, cW, nI_clamp (show n < 2 ^ 31 by omega), nI_clamp (show k < 2 ^ 31 by omega), Nat.zero_add]
  · refine ⟨I, by simp only [h1, and_self, and_true, true_and, and_false, false_and, or_true, true_or, or_false, false_or, not_true_eq_false, not_false_eq_true, if_true, if_false, ne_eq, ite_self, reduceCtorEq, i10, Decidable.not_not, Bool.and_self, Bool.and_true, Bool.true_and]; exact hm, ?_⟩
    simp only [e_M_deal_0, e_M_deal_1, e_M_deal_2, e_M_deal_4, e_M_deal_7, e_M_deal_10, e_M_deal_12, e_M_deal_13, e_M_deal_14, e_M_deal_16, e_M_deal_17, e_M_deal_20, e_M_deal_21, e_M_deal_24, e_M_deal_25, e_M_deal_26, e_M_deal_28, e_M_deal_31, e_M_deal_32, e_M_deal_35, e_M_deal_37, e_M_deal_38, e_M_deal_39, e_M_deal_40, e_M_deal_43, e_M_deal_45, e_M_deal_46, e_M_deal_48, e_M_deal_49, e_M_deal_52, e_M_deal_54, e_M_deal_55, e_M_deal_57, e_M_deal_58, e_M_deal_61, e_M_deal_63, e_M_deal_64, e_M_deal_66, e_M_deal_67, e_M_deal_69, e_M_deal_70, e_M_deal_71, e_M_deal_73, e_M_deal_75, e_M_deal_77, e_M_deal_78, e_M_deal_79, e_M_deal_82, e_M_deal_84, e_M_deal_85, e_M_deal_86, e_M_deal_89, e_M_deal_91, e_M_deal_94, e_M_deal_97, e_M_deal_98, k_M_in, rb_i, in1, h1, and_self, and_true, true_and, and_false, false_and, or_true, true_or, or_false, false_or, not_true_eq_false, not_false_eq_true, if_true, if_false, ne_eq, ite_self, reduceCtorEq, i10, Decidable.not_not, Bool.and_self, Bool.and_true, Bool.true_and]
end MT13

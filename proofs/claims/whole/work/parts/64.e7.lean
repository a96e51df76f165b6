/-! THE CLASS: reads, seen, copy -/
section CRI
variable {Ls : Nat} {xs : Nat → Int32} {d : Nat} {S : mS} {I I2 I3 A A2 : mI} {R R2 R3 : mR} {x y z u v : Int32} {i k : Nat}
theorem l_W_reads (h : WF S R) (hc : CR S I R A) {n w sz : Nat} (hn : n ≤ 14) (e1 : A 94 1 = nI n) (hw : w < 4) (hz : sz ≤ 24) (em : I (65 + 2 * w) 2 = nI sz) (ec : ∀ k, k < 24 → I (66 + 2 * w) k = A 111 (24 * w + k)) : ∀ (j k : Nat), k + j = sz → rn Ls xs (d + 3) 65 29 [some (.inr (.inl (some 0))), some (.inl x), some (.inr (.inl (some (65 + 2 * w)))), some (.inl (nI k))] [] (S, I, R) = some (some (.inl (rsS (A 94) (A 111) w n k j)), (S, I, R)) := by
  have cn : cW (A 94 1) = n := by rw [e1, cW, nI_clamp (by omega)]
  intro j
  induction j with
  | zero =>
    intro k hk
    have : k = sz := by omega
    subst this
    rw [e_W_reads_29]
    simp only [e_W_reads_0, e_W_reads_1, e_W_reads_4, e_W_reads_7, e_W_reads_9, e_W_reads_10, e_W_reads_11, e_W_reads_14, e_W_reads_15, e_W_reads_16, e_W_reads_17, e_W_reads_18, e_W_reads_21, e_W_reads_24, e_W_reads_26, e_W_reads_27, e_W_reads_28, e_W_reads_30, e_W_reads_31, e_W_reads_34, e_W_reads_37, e_W_reads_38, e_W_reads_39, e_W_reads_42, e_W_reads_45, e_W_reads_46, e_W_reads_49, e_W_reads_50, e_W_reads_53, e_W_reads_56, e_W_reads_57, e_W_reads_60, e_W_reads_63, e_W_reads_64, e_W_reads_65, e_W_reads_68, e_W_reads_69, e_W_reads_72, e_W_reads_73, e_W_reads_74, e_W_reads_77, e_W_reads_78, e_W_reads_79, e_W_reads_82, e_W_reads_85, e_W_reads_88, sh_is h hw, em, nI_le' (show k < 2 ^ 31 by omega) (show k < 2 ^ 31 by omega), Nat.le_refl, if_true, rsS]
  | succ j ih =>
    intro k hk
    have hnm := k_H_hasNumber (Ls := Ls) (xs := xs) (d := d) (sh_is h hw) (sc_r h hw) (fun k hk => sc_ia h hw hk) hz em (show k < 2 ^ 31 by omega)
    rw [ec k (by omega)] at hnm
    rw [e_W_reads_29]
    by_cases hv : A 111 (24 * w + k) = NN
    · rw [if_neg (fun q => q.2 hv)] at hnm
      rw [rsS, if_pos hv, ← ih (k + 1) (by omega)]
      simp only [e_W_reads_0, e_W_reads_1, e_W_reads_4, e_W_reads_7, e_W_reads_9, e_W_reads_10, e_W_reads_11, e_W_reads_14, e_W_reads_15, e_W_reads_16, e_W_reads_17, e_W_reads_18, e_W_reads_21, e_W_reads_24, e_W_reads_26, e_W_reads_27, e_W_reads_28, e_W_reads_30, e_W_reads_31, e_W_reads_34, e_W_reads_37, e_W_reads_38, e_W_reads_39, e_W_reads_42, e_W_reads_45, e_W_reads_46, e_W_reads_49, e_W_reads_50, e_W_reads_53, e_W_reads_56, e_W_reads_57, e_W_reads_60, e_W_reads_63, e_W_reads_64, e_W_reads_65, e_W_reads_68, e_W_reads_69, e_W_reads_72, e_W_reads_73, e_W_reads_74, e_W_reads_77, e_W_reads_78, e_W_reads_79, e_W_reads_82, e_W_reads_85, e_W_reads_88, sh_is h hw, em, nI_le' (show sz < 2 ^ 31 by omega) (show k < 2 ^ 31 by omega), show ¬ sz ≤ k by omega, and_self, and_true, true_and, and_false, false_and, or_true, true_or, or_false, false_or, not_true_eq_false, not_false_eq_true, if_true, if_false, ne_eq, ite_self, reduceCtorEq, i10, Decidable.not_not, Bool.and_self, Bool.and_true, Bool.true_and, hnm, rb_i, nI_1]
    · rw [if_pos ⟨by omega, hv⟩] at hnm
      by_cases hkn : k < n
      · have hk14 : k < 14 := by omega
        have w2 : I (1 + 4 + k) 2 = A 94 (8 + 6 * k + 2) := hc.w cn hkn (by decide)
        have hwr : isWr A (nI k) := by
          show 0 ≤ nI k ∧ nI k ≤ A 94 1 - 1
          rw [e1, in_iff (by omega) (by omega)]
          exact hkn
        by_cases he : A 111 (24 * w + k) = A 94 (8 + 6 * k + 2)
        · rw [rsS, if_neg hv, if_pos ⟨hkn, he⟩, ← ih (k + 1) (by omega)]
          simp only [e_W_reads_0, e_W_reads_1, e_W_reads_4, e_W_reads_7, e_W_reads_9, e_W_reads_10, e_W_reads_11, e_W_reads_14, e_W_reads_15, e_W_reads_16, e_W_reads_17, e_W_reads_18, e_W_reads_21, e_W_reads_24, e_W_reads_26, e_W_reads_27, e_W_reads_28, e_W_reads_30, e_W_reads_31, e_W_reads_34, e_W_reads_37, e_W_reads_38, e_W_reads_39, e_W_reads_42, e_W_reads_45, e_W_reads_46, e_W_reads_49, e_W_reads_50, e_W_reads_53, e_W_reads_56, e_W_reads_57, e_W_reads_60, e_W_reads_63, e_W_reads_64, e_W_reads_65, e_W_reads_68, e_W_reads_69, e_W_reads_72, e_W_reads_73, e_W_reads_74, e_W_reads_77, e_W_reads_78, e_W_reads_79, e_W_reads_82, e_W_reads_85, e_W_reads_88, sh_is h hw, em, nI_le' (show sz < 2 ^ 31 by omega) (show k < 2 ^ 31 by omega), show ¬ sz ≤ k by omega, and_self, and_true, true_and, and_false, false_and, or_true, true_or, or_false, false_or, not_true_eq_false, not_false_eq_true, if_true, if_false, ne_eq, ite_self, reduceCtorEq, i10, Decidable.not_not, Bool.and_self, Bool.and_true, Bool.true_and, hnm, rb_i, t1, is_0 h, rf_0_0 h, is_1 h, k_hw_y h hc hwr, q_r0 h q1, q_ia1 h q1 hk14, nI_clamp (show k < 2 ^ 31 by omega), q_w h q1 hk14, q_wi h q1 hk14, w2, sc_r h hw, sc_ia h hw (show k < 24 by omega), ec k (show k < 24 by omega), he, nI_1]
        · have he' : ¬ A 94 (8 + 6 * k + 2) = A 111 (24 * w + k) := fun q => he q.symm
          rw [rsS, if_neg hv, if_neg (fun q => he q.2)]
          simp only [e_W_reads_0, e_W_reads_1, e_W_reads_4, e_W_reads_7, e_W_reads_9, e_W_reads_10, e_W_reads_11, e_W_reads_14, e_W_reads_15, e_W_reads_16, e_W_reads_17, e_W_reads_18, e_W_reads_21, e_W_reads_24, e_W_reads_26, e_W_reads_27, e_W_reads_28, e_W_reads_30, e_W_reads_31, e_W_reads_34, e_W_reads_37, e_W_reads_38, e_W_reads_39, e_W_reads_42, e_W_reads_45, e_W_reads_46, e_W_reads_49, e_W_reads_50, e_W_reads_53, e_W_reads_56, e_W_reads_57, e_W_reads_60, e_W_reads_63, e_W_reads_64, e_W_reads_65, e_W_reads_68, e_W_reads_69, e_W_reads_72, e_W_reads_73, e_W_reads_74, e_W_reads_77, e_W_reads_78, e_W_reads_79, e_W_reads_82, e_W_reads_85, e_W_reads_88, sh_is h hw, em, nI_le' (show sz < 2 ^ 31 by omega) (show k < 2 ^ 31 by omega), show ¬ sz ≤ k by omega, and_self, and_true, true_and, and_false, false_and, or_true, true_or, or_false, false_or, not_true_eq_false, not_false_eq_true, if_true, if_false, ne_eq, ite_self, reduceCtorEq, i10, Decidable.not_not, Bool.and_self, Bool.and_true, Bool.true_and, hnm, rb_i, t1, is_0 h, rf_0_0 h, is_1 h, k_hw_y h hc hwr, q_r0 h q1, q_ia1 h q1 hk14, nI_clamp (show k < 2 ^ 31 by omega), q_w h q1 hk14, q_wi h q1 hk14, w2, sc_r h hw, sc_ia h hw (show k < 24 by omega), ec k (show k < 24 by omega), he']
      · have hwr : ¬ isWr A (nI k) := by
          show ¬ (0 ≤ nI k ∧ nI k ≤ A 94 1 - 1)
          rw [e1, in_iff (by omega) (by omega)]
          exact hkn
        rw [rsS, if_neg hv, if_neg (fun q => hkn q.1)]
        simp only [e_W_reads_0, e_W_reads_1, e_W_reads_4, e_W_reads_7, e_W_reads_9, e_W_reads_10, e_W_reads_11, e_W_reads_14, e_W_reads_15, e_W_reads_16, e_W_reads_17, e_W_reads_18, e_W_reads_21, e_W_reads_24, e_W_reads_26, e_W_reads_27, e_W_reads_28, e_W_reads_30, e_W_reads_31, e_W_reads_34, e_W_reads_37, e_W_reads_38, e_W_reads_39, e_W_reads_42, e_W_reads_45, e_W_reads_46, e_W_reads_49, e_W_reads_50, e_W_reads_53, e_W_reads_56, e_W_reads_57, e_W_reads_60, e_W_reads_63, e_W_reads_64, e_W_reads_65, e_W_reads_68, e_W_reads_69, e_W_reads_72, e_W_reads_73, e_W_reads_74, e_W_reads_77, e_W_reads_78, e_W_reads_79, e_W_reads_82, e_W_reads_85, e_W_reads_88, sh_is h hw, em, nI_le' (show sz < 2 ^ 31 by omega) (show k < 2 ^ 31 by omega), show ¬ sz ≤ k by omega, and_self, and_true, true_and, and_false, false_and, or_true, true_or, or_false, false_or, not_true_eq_false, not_false_eq_true, if_true, if_false, ne_eq, ite_self, reduceCtorEq, i10, Decidable.not_not, Bool.and_self, Bool.and_true, Bool.true_and, hnm, rb_i, t1, is_0 h, rf_0_0 h, is_1 h, k_hw_n h hc hwr]
theorem cw_reads (h : WF S R) (hc : CR S I R A) : COp S I R (sp_reads A x) (rn Ls xs (d + 9) 65 0 [some (.inr (.inl (some 0))), some (.inl x), none, none] [] (S, I, R)) := by
  obtain ⟨n, hn, e1, cn⟩ := hc.g.n
  unfold sp_reads
  refine COp.same h hc ?_
  by_cases h1 : isSh x = true
  · have h1' := h1
    obtain ⟨w, hw, rfl⟩ := sh_get h1
    have cw : cW (nI w) = w := nI_clamp (by omega)
    obtain ⟨g1, g2, g3, g4, sz, hz, en⟩ := hc.sh hw
    rw [if_pos h1', cw]
    by_cases hm : A 109 w < 0
    · rw [if_pos hm]
      simp only [e_W_reads_0, e_W_reads_1, e_W_reads_4, e_W_reads_7, e_W_reads_9, e_W_reads_10, e_W_reads_11, e_W_reads_14, e_W_reads_15, e_W_reads_16, e_W_reads_17, e_W_reads_18, e_W_reads_21, e_W_reads_24, e_W_reads_26, k_W_isSheet, h1', rb_i, t1, and_self, and_true, true_and, and_false, false_and, or_true, true_or, or_false, false_or, not_true_eq_false, not_false_eq_true, if_true, if_false, ne_eq, ite_self, reduceCtorEq, i10, Decidable.not_not, Bool.and_self, Bool.and_true, Bool.true_and, is_0 h, rf_0_5 h, ia_62 h hw, nI_clamp (show w < 2 ^ 31 by omega), sh_r h hw, sh_is h hw, k_mis_y h hc hw hm]
    · rw [if_neg hm, cn, en, show cW (nI sz) = sz from nI_clamp (by omega)]
      have r2 : rn Ls xs (d + 9) 65 29 [some (.inr (.inl (some 0))), some (.inl (nI w)), some (.inr (.inl (some (65 + 2 * w)))), some (.inl 0)] [] (S, I, R) = _ := l_W_reads (Ls := Ls) (xs := xs) (d := d + 6) (x := nI w) h hc hn e1 hw hz (by rw [g2, en]) g3 sz 0 (by omega)
      simp only [e_W_reads_0, e_W_reads_1, e_W_reads_4, e_W_reads_7, e_W_reads_9, e_W_reads_10, e_W_reads_11, e_W_reads_14, e_W_reads_15, e_W_reads_16, e_W_reads_17, e_W_reads_18, e_W_reads_21, e_W_reads_24, e_W_reads_26, e_W_reads_27, e_W_reads_28, k_W_isSheet, h1', rb_i, t1, and_self, and_true, true_and, and_false, false_and, or_true, true_or, or_false, false_or, not_true_eq_false, not_false_eq_true, if_true, if_false, ne_eq, ite_self, reduceCtorEq, i10, Decidable.not_not, Bool.and_self, Bool.and_true, Bool.true_and, is_0 h, rf_0_5 h, ia_62 h hw, nI_clamp (show w < 2 ^ 31 by omega), sh_r h hw, sh_is h hw, k_mis_n h hc hw hm, r2]
  · rw [if_neg h1]
    simp only [e_W_reads_0, e_W_reads_1, e_W_reads_4, e_W_reads_7, e_W_reads_9, e_W_reads_10, e_W_reads_11, e_W_reads_14, e_W_reads_15, e_W_reads_16, e_W_reads_17, e_W_reads_18, e_W_reads_21, e_W_reads_24, e_W_reads_26, k_W_isSheet, h1, rb_i, t1, and_self, and_true, true_and, and_false, false_and, or_true, true_or, or_false, false_or, not_true_eq_false, not_false_eq_true, if_true, if_false, ne_eq, ite_self, reduceCtorEq, i10, Decidable.not_not, Bool.and_self, Bool.and_true, Bool.true_and]
theorem cw_seen (h : WF S R) (hc : CR S I R A) : COp S I R (sp_seen A x y) (rn Ls xs (d + 9) 43 0 [some (.inr (.inl (some 0))), some (.inl x), some (.inl y)] [] (S, I, R)) := by
  obtain ⟨n, hn, e1, cn⟩ := hc.g.n
  obtain ⟨t, ht, e2⟩ := hc.t
  unfold sp_seen
  by_cases h1 : isSh x = true
  · have h1' := h1
    obtain ⟨w, hw, rfl⟩ := sh_get h1
    have cw : cW (nI w) = w := nI_clamp (by omega)
    obtain ⟨g1, g2, g3, g4, sz, hz, en⟩ := hc.sh hw
    by_cases hy : 0 ≤ y ∧ y ≤ 1
    · rw [if_pos ⟨h1', hy⟩, cw]
      by_cases hm : A 109 w < 0
      · rw [if_pos hm]
        exact COp.same h hc (by simp only [e_W_seen_0, e_W_seen_1, e_W_seen_4, e_W_seen_7, e_W_seen_8, e_W_seen_9, e_W_seen_10, e_W_seen_13, e_W_seen_16, e_W_seen_18, e_W_seen_19, e_W_seen_20, e_W_seen_23, e_W_seen_24, e_W_seen_25, e_W_seen_28, e_W_seen_31, e_W_seen_33, k_W_isSheet, h1', k_W_within, hy, rb_i, t1, and_self, and_true, true_and, and_false, false_and, or_true, true_or, or_false, false_or, not_true_eq_false, not_false_eq_true, if_true, if_false, ne_eq, ite_self, reduceCtorEq, i10, Decidable.not_not, Bool.and_self, Bool.and_true, Bool.true_and, is_0 h, rf_0_5 h, ia_62 h hw, nI_clamp (show w < 2 ^ 31 by omega), sh_r h hw, sh_is h hw, k_mis_y h hc hw hm])
      · rw [if_neg hm, cn, en, show cW (nI sz) = sz from nI_clamp (by omega)]
        obtain ⟨I2, R2, f2, c2, r2⟩ := k_F_chooseSeen (Ls := Ls) (xs := xs) (d := d + 3) (c := A 111) (bb := w) h p1 hc.s hc.g (show t < 2 ^ 29 by omega) e2 hn e1 (sh_is h hw) (sc_r h hw) (show 58 ≤ 66 + 2 * w by omega) (show 58 ≤ 65 + 2 * w by omega) (fun k hk => sc_ia h hw hk) hz (by rw [g2, en]) g3
        have w2 := h.ff f2
        have tl := k_F_toldOf (Ls := Ls) (xs := xs) (d := d + 8) (y := y) (I := I2) w2
        rw [told_A c2] at tl
        have fin : ∀ {v : Int32}, oA y (lsS (dfS (A 94) (A 111) w sz) 0 n none) = v → COp S I R (v, A) (rn Ls xs (d + 9) 43 0 [some (.inr (.inl (some 0))), some (.inl (nI w)), some (.inl y)] [] (S, I, R)) := by
          intro v ev
          subst ev
          exact COp.ff h hc f2 (by simp only [e_W_seen_0, e_W_seen_1, e_W_seen_4, e_W_seen_7, e_W_seen_8, e_W_seen_9, e_W_seen_10, e_W_seen_13, e_W_seen_16, e_W_seen_18, e_W_seen_19, e_W_seen_20, e_W_seen_23, e_W_seen_24, e_W_seen_25, e_W_seen_28, e_W_seen_31, e_W_seen_33, e_W_seen_34, e_W_seen_35, e_W_seen_38, e_W_seen_39, e_W_seen_42, e_W_seen_43, e_W_seen_46, e_W_seen_47, e_W_seen_48, e_W_seen_51, e_W_seen_52, e_W_seen_55, e_W_seen_56, e_W_seen_59, k_W_isSheet, h1', k_W_within, hy, rb_i, t1, and_self, and_true, true_and, and_false, false_and, or_true, true_or, or_false, false_or, not_true_eq_false, not_false_eq_true, if_true, if_false, ne_eq, ite_self, reduceCtorEq, i10, Decidable.not_not, Bool.and_self, Bool.and_true, Bool.true_and, is_0 h, rf_0_5 h, rf_0_0 h, rf_0_2 h, rf_0_2 w2, is_37 h, ia_62 h hw, nI_clamp (show w < 2 ^ 31 by omega), sh_r h hw, sh_is h hw, k_mis_n h hc hw hm, r2, rb_v, tl])
        by_cases h0 : n = 0
        · rw [if_pos h0]
          exact fin (by rw [h0]; rfl)
        · rw [if_neg h0]
          have el : lsS (dfS (A 94) (A 111) w sz) 0 n none = some (mnS (dfS (A 94) (A 111) w sz) 0 1 (n - 1), dfS (A 94) (A 111) w sz (mnS (dfS (A 94) (A 111) w sz) 0 1 (n - 1))) := by
            obtain ⟨m, rfl⟩ : ∃ m, n = m + 1 := ⟨n - 1, by omega⟩
            show lsS _ 1 m (some (0, _)) = _
            rw [Nat.add_sub_cancel]
            exact ls_mn _ m 1 0
          rw [el] at fin
          by_cases hy0 : y = 0
          · rw [if_pos hy0]
            exact fin (by subst hy0; rfl)
          · rw [if_neg hy0]
            exact fin (if_neg hy0)
    · rw [if_neg (fun q => hy q.2)]
      exact COp.same h hc (by simp only [e_W_seen_0, e_W_seen_1, e_W_seen_4, e_W_seen_7, e_W_seen_8, e_W_seen_9, e_W_seen_10, e_W_seen_13, e_W_seen_16, e_W_seen_18, k_W_isSheet, h1', k_W_within, hy, rb_i, t1, and_self, and_true, true_and, and_false, false_and, or_true, true_or, or_false, false_or, not_true_eq_false, not_false_eq_true, if_true, if_false, ne_eq, ite_self, reduceCtorEq, i10, Decidable.not_not, Bool.and_self, Bool.and_true, Bool.true_and])
  · rw [if_neg (fun q => h1 q.1)]
    exact COp.same h hc (by simp only [e_W_seen_0, e_W_seen_1, e_W_seen_4, e_W_seen_7, e_W_seen_8, e_W_seen_9, e_W_seen_10, e_W_seen_13, e_W_seen_16, e_W_seen_18, k_W_isSheet, h1, rb_i, t1, and_self, and_true, true_and, and_false, false_and, or_true, true_or, or_false, false_or, not_true_eq_false, not_false_eq_true, if_true, if_false, ne_eq, ite_self, reduceCtorEq, i10, Decidable.not_not, Bool.and_self, Bool.and_true, Bool.true_and])
/-- places for as many -/
def hpP (n : Nat) (y v : Int32) : Prop := 0 ≤ y ∧ 0 ≤ v ∧ y.toInt + v.toInt ≤ n
theorem k_H_hasPlaces {p n : Nat} (hp : h_is S p 2 3 = true) (hn : n ≤ 24) (en : I p 2 = nI n) : (hpP n y v → rn Ls xs (d + 1) 164 0 [some (.inr (.inl (some p))), some (.inl y), some (.inl v)] [] (S, I, R) = some (some (.inl 1), (S, I, R))) ∧ (¬ hpP n y v → rn Ls xs (d + 1) 164 0 [some (.inr (.inl (some p))), some (.inl y), some (.inl v)] [] (S, I, R) = some (some (.inl 0), (S, I, R))) := by
  have z0 : Int32.toInt 0 = 0 := rfl
  have ln := nI_toInt (show n < 2 ^ 31 by omega)
  by_cases hv : v < 0
  · refine ⟨fun q => absurd hv (i_nlt.mpr q.2.1), fun _ => ?_⟩
    simp only [e_H_hasPlaces_0, e_H_hasPlaces_1, e_H_hasPlaces_4, e_H_hasPlaces_5, e_H_hasPlaces_6, e_H_hasPlaces_7, e_H_hasPlaces_10, e_H_hasPlaces_13, e_H_hasPlaces_16, e_H_hasPlaces_17, e_H_hasPlaces_18, e_H_hasPlaces_21, e_H_hasPlaces_22, e_H_hasPlaces_23, e_H_hasPlaces_26, e_H_hasPlaces_27, e_H_hasPlaces_30, e_H_hasPlaces_31, hv, and_self, and_true, true_and, and_false, false_and, or_true, true_or, or_false, false_or, not_true_eq_false, not_false_eq_true, if_true, if_false, ne_eq, ite_self, reduceCtorEq, i10, Decidable.not_not, Bool.and_self, Bool.and_true, Bool.true_and, bo_0]
  · have hv' := i_nlt.mp hv
    by_cases hy : 0 ≤ y ∧ y ≤ nI n
    · have a1 := hy.1
      have a2 := hy.2
      rw [i_le, z0] at a1
      rw [i_le, ln] at a2
      have es : (nI n - y).toInt = (n : Int) - y.toInt := by rw [sub_I (by omega) (by omega), ln]
      by_cases hl : nI n - y < v
      · have hl2 := hl
        rw [i_lt, es] at hl2
        refine ⟨fun q => absurd q.2.2 (by omega), fun _ => ?_⟩
        simp only [e_H_hasPlaces_0, e_H_hasPlaces_1, e_H_hasPlaces_4, e_H_hasPlaces_5, e_H_hasPlaces_6, e_H_hasPlaces_7, e_H_hasPlaces_10, e_H_hasPlaces_13, e_H_hasPlaces_16, e_H_hasPlaces_17, e_H_hasPlaces_18, e_H_hasPlaces_21, e_H_hasPlaces_22, e_H_hasPlaces_23, e_H_hasPlaces_26, e_H_hasPlaces_27, e_H_hasPlaces_30, e_H_hasPlaces_31, hv, and_self, and_true, true_and, and_false, false_and, or_true, true_or, or_false, false_or, not_true_eq_false, not_false_eq_true, if_true, if_false, ne_eq, ite_self, reduceCtorEq, i10, Decidable.not_not, Bool.and_self, Bool.and_true, Bool.true_and, k_W_within, hp, en, hy, rb_i, t1, hl, bo_0]
      · have hl2 := hl
        rw [i_lt, es] at hl2
        refine ⟨fun _ => ?_, fun q => absurd ⟨hy.1, hv', by omega⟩ q⟩
        simp only [e_H_hasPlaces_0, e_H_hasPlaces_1, e_H_hasPlaces_4, e_H_hasPlaces_5, e_H_hasPlaces_6, e_H_hasPlaces_7, e_H_hasPlaces_10, e_H_hasPlaces_13, e_H_hasPlaces_16, e_H_hasPlaces_17, e_H_hasPlaces_18, e_H_hasPlaces_21, e_H_hasPlaces_22, e_H_hasPlaces_23, e_H_hasPlaces_26, e_H_hasPlaces_27, e_H_hasPlaces_30, e_H_hasPlaces_31, hv, and_self, and_true, true_and, and_false, false_and, or_true, true_or, or_false, false_or, not_true_eq_false, not_false_eq_true, if_true, if_false, ne_eq, ite_self, reduceCtorEq, i10, Decidable.not_not, Bool.and_self, Bool.and_true, Bool.true_and, k_W_within, hp, en, hy, rb_i, t1, hl, bo_1]
    · refine ⟨fun q => absurd ⟨q.1, by have q3 := q.2.2; have q2 := q.2.1; rw [i_le, z0] at q2; rw [i_le, ln]; omega⟩ hy, fun _ => ?_⟩
      simp only [e_H_hasPlaces_0, e_H_hasPlaces_1, e_H_hasPlaces_4, e_H_hasPlaces_5, e_H_hasPlaces_6, e_H_hasPlaces_7, e_H_hasPlaces_10, e_H_hasPlaces_13, e_H_hasPlaces_16, e_H_hasPlaces_17, e_H_hasPlaces_18, e_H_hasPlaces_21, e_H_hasPlaces_22, e_H_hasPlaces_23, e_H_hasPlaces_26, e_H_hasPlaces_27, e_H_hasPlaces_30, e_H_hasPlaces_31, hv, and_self, and_true, true_and, and_false, false_and, or_true, true_or, or_false, false_or, not_true_eq_false, not_false_eq_true, if_true, if_false, ne_eq, ite_self, reduceCtorEq, i10, Decidable.not_not, Bool.and_self, Bool.and_true, Bool.true_and, k_W_within, hp, en, hy, rb_i, t1, bo_0]
theorem hp_iff {n : Nat} (hn : n ≤ 24) : hpP n y v ↔ (¬ y < 0 ∧ ¬ v < 0 ∧ ¬ nI n - v < y) := by
  have z0 : Int32.toInt 0 = 0 := rfl
  have ln := nI_toInt (show n < 2 ^ 31 by omega)
  unfold hpP
  rw [i_nlt, i_nlt]
  constructor
  · rintro ⟨h1, h2, h3⟩
    refine ⟨h1, h2, ?_⟩
    rw [i_le, z0] at h1 h2
    have hl := v.toInt_lt
    have es : (nI n - v).toInt = (n : Int) - v.toInt := by rw [sub_I (by omega) (by omega), ln]
    rw [i_lt, es]
    omega
  · rintro ⟨h1, h2, h3⟩
    refine ⟨h1, h2, ?_⟩
    rw [i_le, z0] at h1 h2
    have hl := v.toInt_lt
    have es : (nI n - v).toInt = (n : Int) - v.toInt := by rw [sub_I (by omega) (by omega), ln]
    rw [i_lt, es] at h3
    omega
end CRI

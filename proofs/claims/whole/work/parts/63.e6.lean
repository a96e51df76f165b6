/-! THE CLASS: more of sheets -/
section CRH
variable {Ls : Nat} {xs : Nat → Int32} {d : Nat} {S : mS} {I I2 I3 A A2 : mI} {R R2 R3 : mR} {x y z u v : Int32} {i k : Nat}
theorem CR.cell (hc : CR S I R A) {w j : Nat} (hw : w < 4) (hj : j < 24) {t : Int32} : CR S (va_up I (66 + 2 * w) (upd (I (66 + 2 * w)) j t)) R (va_up A 111 (upd (A 111) (24 * w + j) t)) := by
  refine hc.shs (fun b hb => vu_n (by omega)) (fun b _ _ b3 => vu_n b3) ⟨fun i hi => ?_, fun i hi => ?_⟩
  · obtain ⟨g1, g2, g3, -, -⟩ := hc.sh hi
    rw [vu_n (show 65 + 2 * i ≠ 66 + 2 * w by omega), vu_n (show 109 ≠ 111 by decide), vu_n (show 110 ≠ 111 by decide), vu_s]
    refine ⟨g1, g2, fun k hk => ?_⟩
    by_cases e : i = w
    · subst e
      rw [vu_s]
      by_cases ek : k = j
      · subst ek; rw [up_s, up_s]
      · rw [up_n ek, up_n (by omega)]
        exact g3 k hk
    · rw [vu_n (by omega), up_n (by omega)]
      exact g3 k hk
  · rw [vu_n (show 109 ≠ 111 by decide), vu_n (show 110 ≠ 111 by decide)]
    obtain ⟨-, -, -, g4, g5⟩ := hc.sh hi
    exact ⟨g4, g5⟩
theorem cw_mark (h : WF S R) (hc : CR S I R A) : COp S I R (sp_mark A x y z) (rn Ls xs (d + 9) 61 0 [some (.inr (.inl (some 0))), some (.inl x), some (.inl y), some (.inl z), none] [] (S, I, R)) := by
  unfold sp_mark
  by_cases h1 : isSh x = true
  · have h1' := h1
    obtain ⟨w, hw, rfl⟩ := sh_get h1
    have cw : cW (nI w) = w := nI_clamp (by omega)
    obtain ⟨g1, g2, g3, g4, n, hn, en⟩ := hc.sh hw
    rw [if_pos h1', cw]
    by_cases hm : A 109 w < 0
    · rw [if_pos hm]
      exact COp.same h hc (by simp only [e_W_mark_0, e_W_mark_1, e_W_mark_4, e_W_mark_7, e_W_mark_9, e_W_mark_10, e_W_mark_11, e_W_mark_14, e_W_mark_15, e_W_mark_16, e_W_mark_18, e_W_mark_20, e_W_mark_23, e_W_mark_26, e_W_mark_28, k_W_isSheet, h1', rb_i, t1, and_self, and_true, true_and, and_false, false_and, or_true, true_or, or_false, false_or, not_true_eq_false, not_false_eq_true, if_true, if_false, ne_eq, ite_self, reduceCtorEq, i10, Decidable.not_not, Bool.and_self, Bool.and_true, Bool.true_and, is_0 h, rf_0_5 h, ia_62 h hw, nI_clamp (show w < 2 ^ 31 by omega), sh_r h hw, sh_is h hw, k_mis_y h hc hw hm])
    · rw [if_neg hm]
      have st : rn Ls xs (d + 9) 61 0 [some (.inr (.inl (some 0))), some (.inl (nI w)), some (.inl y), some (.inl z), none] [] (S, I, R) = rn Ls xs (d + 9) 61 29 [some (.inr (.inl (some 0))), some (.inl (nI w)), some (.inl y), some (.inl z), some (.inr (.inl (some (65 + 2 * w))))] [] (S, I, R) := by
        simp only [e_W_mark_0, e_W_mark_1, e_W_mark_4, e_W_mark_7, e_W_mark_9, e_W_mark_10, e_W_mark_11, e_W_mark_14, e_W_mark_15, e_W_mark_16, e_W_mark_18, e_W_mark_20, e_W_mark_23, k_W_isSheet, h1', rb_i, t1, and_self, and_true, true_and, and_false, false_and, or_true, true_or, or_false, false_or, not_true_eq_false, not_false_eq_true, if_true, if_false, ne_eq, ite_self, reduceCtorEq, i10, Decidable.not_not, Bool.and_self, Bool.and_true, Bool.true_and, is_0 h, rf_0_5 h, ia_62 h hw, nI_clamp (show w < 2 ^ 31 by omega), sh_r h hw, sh_is h hw, k_mis_n h hc hw hm]
      rw [st]
      by_cases hp : 0 ≤ y ∧ y ≤ A 110 w - 1
      · have hp' := hp
        rw [if_pos hp]
        obtain ⟨j, hj, rfl⟩ := nn (i_nlt.mpr hp.1)
        rw [en, in_iff hj (by omega)] at hp
        have cj : cW (nI j) = j := nI_clamp (by omega)
        have st2 : rn Ls xs (d + 9) 61 29 [some (.inr (.inl (some 0))), some (.inl (nI w)), some (.inl (nI j)), some (.inl z), some (.inr (.inl (some (65 + 2 * w))))] [] (S, I, R) = rn Ls xs (d + 9) 61 47 [some (.inr (.inl (some 0))), some (.inl (nI w)), some (.inl (nI j)), some (.inl z), some (.inr (.inl (some (65 + 2 * w))))] [.inl (A 109 w)] (S, I, R) := by
          simp only [e_W_mark_29, e_W_mark_31, e_W_mark_32, e_W_mark_35, e_W_mark_38, e_W_mark_41, e_W_mark_42, e_W_mark_44, sh_is h hw, k_H_hasPlace (sh_is h hw), g1, g2, hp', rb_i, t1, and_self, and_true, true_and, and_false, false_and, or_true, true_or, or_false, false_or, not_true_eq_false, not_false_eq_true, if_true, if_false, ne_eq, ite_self, reduceCtorEq, i10, Decidable.not_not, Bool.and_self, Bool.and_true, Bool.true_and]
        rw [st2, cj]
        by_cases h0 : A 109 w = 0
        · rw [if_pos h0]
          by_cases hz : z = NN
          · rw [if_pos hz]
            exact COp.same h hc (by simp only [e_W_mark_47, e_W_mark_50, e_W_mark_51, e_W_mark_54, e_W_mark_57, e_W_mark_59, h0, hz, and_self, and_true, true_and, and_false, false_and, or_true, true_or, or_false, false_or, not_true_eq_false, not_false_eq_true, if_true, if_false, ne_eq, ite_self, reduceCtorEq, i10, Decidable.not_not, Bool.and_self, Bool.and_true, Bool.true_and])
          · rw [if_neg hz]
            exact COp.mk (hc.cell hw (show j < 24 by omega)) h (fun b hb => vu_n (by omega)) (by simp only [e_W_mark_47, e_W_mark_50, e_W_mark_51, e_W_mark_54, e_W_mark_57, e_W_mark_59, e_W_mark_60, e_W_mark_62, e_W_mark_65, e_W_mark_66, e_W_mark_67, e_W_mark_68, e_W_mark_69, e_W_mark_70, h0, hz, and_self, and_true, true_and, and_false, false_and, or_true, true_or, or_false, false_or, not_true_eq_false, not_false_eq_true, if_true, if_false, ne_eq, ite_self, reduceCtorEq, i10, Decidable.not_not, Bool.and_self, Bool.and_true, Bool.true_and, sh_is h hw, sc_r h hw, sc_ia h hw (show j < 24 by omega), nI_clamp hj])
        · rw [if_neg h0]
          by_cases hz : z = NN
          · rw [if_pos (Or.inl hz)]
            exact COp.mk (hc.cell hw (show j < 24 by omega)) h (fun b hb => vu_n (by omega)) (by simp only [e_W_mark_47, e_W_mark_50, e_W_mark_51, e_W_mark_54, e_W_mark_57, e_W_mark_59, e_W_mark_60, e_W_mark_62, e_W_mark_65, e_W_mark_66, e_W_mark_67, e_W_mark_68, e_W_mark_69, e_W_mark_70, e_W_mark_71, e_W_mark_72, e_W_mark_75, e_W_mark_78, e_W_mark_79, e_W_mark_82, e_W_mark_85, e_W_mark_88, e_W_mark_91, e_W_mark_93, e_W_mark_94, e_W_mark_96, e_W_mark_99, e_W_mark_100, e_W_mark_101, e_W_mark_102, e_W_mark_103, h0, hz, and_self, and_true, true_and, and_false, false_and, or_true, true_or, or_false, false_or, not_true_eq_false, not_false_eq_true, if_true, if_false, ne_eq, ite_self, reduceCtorEq, i10, Decidable.not_not, Bool.and_self, Bool.and_true, Bool.true_and, sh_is h hw, sc_r h hw, sc_ia h hw (show j < 24 by omega), nI_clamp hj])
          · by_cases hr : (-99999) ≤ z ∧ z ≤ 99999
            · rw [if_pos (Or.inr hr)]
              exact COp.mk (hc.cell hw (show j < 24 by omega)) h (fun b hb => vu_n (by omega)) (by simp only [e_W_mark_47, e_W_mark_50, e_W_mark_51, e_W_mark_54, e_W_mark_57, e_W_mark_59, e_W_mark_60, e_W_mark_62, e_W_mark_65, e_W_mark_66, e_W_mark_67, e_W_mark_68, e_W_mark_69, e_W_mark_70, e_W_mark_71, e_W_mark_72, e_W_mark_75, e_W_mark_78, e_W_mark_79, e_W_mark_82, e_W_mark_85, e_W_mark_88, e_W_mark_91, e_W_mark_93, e_W_mark_94, e_W_mark_96, e_W_mark_99, e_W_mark_100, e_W_mark_101, e_W_mark_102, e_W_mark_103, h0, hz, and_self, and_true, true_and, and_false, false_and, or_true, true_or, or_false, false_or, not_true_eq_false, not_false_eq_true, if_true, if_false, ne_eq, ite_self, reduceCtorEq, i10, Decidable.not_not, Bool.and_self, Bool.and_true, Bool.true_and, k_W_within, hr, rb_i, t1, sh_is h hw, sc_r h hw, sc_ia h hw (show j < 24 by omega), nI_clamp hj])
            · rw [if_neg (fun q => q.elim hz hr)]
              exact COp.same h hc (by simp only [e_W_mark_47, e_W_mark_50, e_W_mark_51, e_W_mark_54, e_W_mark_57, e_W_mark_59, e_W_mark_60, e_W_mark_62, e_W_mark_65, e_W_mark_66, e_W_mark_67, e_W_mark_68, e_W_mark_69, e_W_mark_70, e_W_mark_71, e_W_mark_72, e_W_mark_75, e_W_mark_78, e_W_mark_79, e_W_mark_82, e_W_mark_85, e_W_mark_88, e_W_mark_91, e_W_mark_93, e_W_mark_94, e_W_mark_96, e_W_mark_99, e_W_mark_100, e_W_mark_101, e_W_mark_102, e_W_mark_103, h0, hz, and_self, and_true, true_and, and_false, false_and, or_true, true_or, or_false, false_or, not_true_eq_false, not_false_eq_true, if_true, if_false, ne_eq, ite_self, reduceCtorEq, i10, Decidable.not_not, Bool.and_self, Bool.and_true, Bool.true_and, k_W_within, hr, rb_i, t1])
      · rw [if_neg hp]
        exact COp.same h hc (by simp only [e_W_mark_29, e_W_mark_31, e_W_mark_32, e_W_mark_35, e_W_mark_38, e_W_mark_41, sh_is h hw, k_H_hasPlace (sh_is h hw), g2, hp, rb_i, t1, and_self, and_true, true_and, and_false, false_and, or_true, true_or, or_false, false_or, not_true_eq_false, not_false_eq_true, if_true, if_false, ne_eq, ite_self, reduceCtorEq, i10, Decidable.not_not, Bool.and_self, Bool.and_true, Bool.true_and])
  · rw [if_neg h1]
    exact COp.same h hc (by simp only [e_W_mark_0, e_W_mark_1, e_W_mark_4, e_W_mark_7, e_W_mark_9, k_W_isSheet, h1, rb_i, t1, and_self, and_true, true_and, and_false, false_and, or_true, true_or, or_false, false_or, not_true_eq_false, not_false_eq_true, if_true, if_false, ne_eq, ite_self, reduceCtorEq, i10, Decidable.not_not, Bool.and_self, Bool.and_true, Bool.true_and])
/-- pour: the masses -/
theorem prA_ge {c : Nat → Int32} {b : Nat} : ∀ (j k : Nat) (a : Nat → Int32) (i : Nat), i < 8 → prA c b k j a i = a i
  | 0, _, _, _, _ => rfl
  | j + 1, k, a, i, hi => by
    show prA c b (k + 1) j _ i = a i
    rw [prA_ge j (k + 1) _ i hi, up_n (by omega)]
theorem l_W_pour (h : WF S R) {n w sz : Nat} {c : Nat → Int32} (hn : n ≤ 14) (hw : w < 4) (hz : sz ≤ 24) : ∀ (j k : Nat) (I : mI) (a : Nat → Int32) (s : Int32) (l5 : Option mV), k + j = n → SkR S I R 1 a → gh 9999 a → a 1 = nI n → I (65 + 2 * w) 2 = nI sz → (∀ k, k < 24 → I (66 + 2 * w) k = c (24 * w + k)) → ∃ I2, SkR S I2 R 1 (prA c w k (min sz n - k) a) ∧ gh 9999 (prA c w k (min sz n - k) a) ∧ Fq 1 I I2 ∧ rn Ls xs (d + 3) 63 32 [some (.inr (.inl (some 0))), some (.inl x), some (.inr (.inl (some (65 + 2 * w)))), some (.inl s), some (.inl (nI k)), l5] [] (S, I, R) = some (some (.inl (prN c w k (min sz n - k) a s)), (S, I2, R)) := by
  intro j
  induction j with
  | zero =>
    intro k I a s l5 hk hs hg e1 em ec
    have : k = n := by omega
    subst this
    refine ⟨I, by rw [show min sz k - k = 0 by omega]; exact hs, by rw [show min sz k - k = 0 by omega]; exact hg, Fq.rfl', ?_⟩
    rw [e_W_pour_32, show min sz k - k = 0 by omega]
    simp only [e_W_pour_0, e_W_pour_1, e_W_pour_4, e_W_pour_7, e_W_pour_9, e_W_pour_10, e_W_pour_11, e_W_pour_14, e_W_pour_15, e_W_pour_16, e_W_pour_17, e_W_pour_18, e_W_pour_21, e_W_pour_24, e_W_pour_26, e_W_pour_27, e_W_pour_28, e_W_pour_29, e_W_pour_30, e_W_pour_34, e_W_pour_35, e_W_pour_38, e_W_pour_41, e_W_pour_44, e_W_pour_45, e_W_pour_47, e_W_pour_50, e_W_pour_53, e_W_pour_54, e_W_pour_57, e_W_pour_59, e_W_pour_60, e_W_pour_61, e_W_pour_63, e_W_pour_66, e_W_pour_68, e_W_pour_69, e_W_pour_72, e_W_pour_75, e_W_pour_77, e_W_pour_78, e_W_pour_81, e_W_pour_83, e_W_pour_86, e_W_pour_89, e_W_pour_90, e_W_pour_93, e_W_pour_96, e_W_pour_98, e_W_pour_99, e_W_pour_101, e_W_pour_104, e_W_pour_107, e_W_pour_110, e_W_pour_111, is_0 h, rf_0_0 h, is_1 h, hs.f3, e1, nI_le' (show k < 2 ^ 31 by omega) (show k < 2 ^ 31 by omega), Nat.le_refl, if_true, prN]
  | succ j ih =>
    intro k I a s l5 hk hs hg e1 em ec
    have cn : cW (a 1) = n := by rw [e1, cW, nI_clamp (by omega)]
    have hk14 : k < 14 := by omega
    have wi := q_wi h q1 hk14
    have w4 : I (1 + 4 + k) 4 = a (8 + 6 * k + 4) := hs.2.1 k 4 (by omega) (by omega)
    have hnm := k_H_hasNumber (Ls := Ls) (xs := xs) (d := d) (sh_is h hw) (sc_r h hw) (fun k hk => sc_ia h hw hk) hz em (show k < 2 ^ 31 by omega)
    rw [ec k (by omega)] at hnm
    by_cases hks : k < sz
    · have em2 : min sz n - k = (min sz n - (k + 1)) + 1 := by omega
      by_cases hv : c (24 * w + k) = NN
      · have et : toS a c w k = a (8 + 6 * k + 4) := by unfold toS; rw [if_pos hv]
        have ea : upd a (8 + 6 * k + 4) (toS a c w k) = a := by rw [et, upd_id]
        rw [if_neg (fun q => q.2 hv)] at hnm
        obtain ⟨I2, s2, g2, f2, r2⟩ := ih (k + 1) I a s l5 (by omega) hs hg e1 em ec
        refine ⟨I2, by rw [em2, prA, ea]; exact s2, by rw [em2, prA, ea]; exact g2, f2, ?_⟩
        rw [e_W_pour_32, em2, prN, ea, et, if_pos rfl, Int32.add_zero, ← r2]
        simp only [e_W_pour_0, e_W_pour_1, e_W_pour_4, e_W_pour_7, e_W_pour_9, e_W_pour_10, e_W_pour_11, e_W_pour_14, e_W_pour_15, e_W_pour_16, e_W_pour_17, e_W_pour_18, e_W_pour_21, e_W_pour_24, e_W_pour_26, e_W_pour_27, e_W_pour_28, e_W_pour_29, e_W_pour_30, e_W_pour_34, e_W_pour_35, e_W_pour_38, e_W_pour_41, e_W_pour_44, e_W_pour_45, e_W_pour_47, e_W_pour_50, e_W_pour_53, e_W_pour_54, e_W_pour_57, e_W_pour_59, e_W_pour_60, e_W_pour_61, e_W_pour_63, e_W_pour_66, e_W_pour_68, e_W_pour_69, e_W_pour_72, e_W_pour_75, e_W_pour_77, e_W_pour_78, e_W_pour_81, e_W_pour_83, e_W_pour_86, e_W_pour_89, e_W_pour_90, e_W_pour_93, e_W_pour_96, e_W_pour_98, e_W_pour_99, e_W_pour_101, e_W_pour_104, e_W_pour_107, e_W_pour_110, e_W_pour_111, is_0 h, rf_0_0 h, is_1 h, hs.f3, e1, nI_le' (show n < 2 ^ 31 by omega) (show k < 2 ^ 31 by omega), show ¬ n ≤ k by omega, and_self, and_true, true_and, and_false, false_and, or_true, true_or, or_false, false_or, not_true_eq_false, not_false_eq_true, if_true, if_false, ne_eq, ite_self, reduceCtorEq, i10, Decidable.not_not, Bool.and_self, Bool.and_true, Bool.true_and, sh_is h hw, hnm, rb_i, nI_1]
      · have et : toS a c w k = clS (c (24 * w + k)) 1 99 := by unfold toS; rw [if_neg hv]
        rw [if_pos ⟨hks, hv⟩] at hnm
        have s1 := hs.setW q1 hk14 (show 4 < 6 by decide) (x := clS (c (24 * w + k)) 1 99)
        have g1 : gh 9999 (upd a (8 + 6 * k + 4) (clS (c (24 * w + k)) 1 99)) := gh_fld (k := 4) hg (by omega) (by decide) (clS_in (by decide))
        obtain ⟨I2, s2, g2, f2, r2⟩ := ih (k + 1) _ _ (s + if a (8 + 6 * k + 4) = clS (c (24 * w + k)) 1 99 then 0 else 1) (some (.inl (clS (c (24 * w + k)) 1 99))) (by omega) s1 g1 (by rw [up_n (by omega)]; exact e1) (by rw [vu_n (by omega)]; exact em) (fun k hk => by rw [vu_n (by omega)]; exact ec k hk)
        refine ⟨I2, by rw [em2, prA, et]; exact s2, by rw [em2, prA, et]; exact g2, (Fq.rfl'.up (by omega) (by omega)).trans' f2, ?_⟩
        rw [e_W_pour_32, em2, prN, et, ← r2]
        by_cases hq : a (8 + 6 * k + 4) = clS (c (24 * w + k)) 1 99
        · rw [if_pos hq, Int32.add_zero]
          simp only [clS] at hq ⊢
          simp only [e_W_pour_0, e_W_pour_1, e_W_pour_4, e_W_pour_7, e_W_pour_9, e_W_pour_10, e_W_pour_11, e_W_pour_14, e_W_pour_15, e_W_pour_16, e_W_pour_17, e_W_pour_18, e_W_pour_21, e_W_pour_24, e_W_pour_26, e_W_pour_27, e_W_pour_28, e_W_pour_29, e_W_pour_30, e_W_pour_34, e_W_pour_35, e_W_pour_38, e_W_pour_41, e_W_pour_44, e_W_pour_45, e_W_pour_47, e_W_pour_50, e_W_pour_53, e_W_pour_54, e_W_pour_57, e_W_pour_59, e_W_pour_60, e_W_pour_61, e_W_pour_63, e_W_pour_66, e_W_pour_68, e_W_pour_69, e_W_pour_72, e_W_pour_75, e_W_pour_77, e_W_pour_78, e_W_pour_81, e_W_pour_83, e_W_pour_86, e_W_pour_89, e_W_pour_90, e_W_pour_93, e_W_pour_96, e_W_pour_98, e_W_pour_99, e_W_pour_101, e_W_pour_104, e_W_pour_107, e_W_pour_110, e_W_pour_111, is_0 h, rf_0_0 h, is_1 h, hs.f3, e1, nI_le' (show n < 2 ^ 31 by omega) (show k < 2 ^ 31 by omega), show ¬ n ≤ k by omega, and_self, and_true, true_and, and_false, false_and, or_true, true_or, or_false, false_or, not_true_eq_false, not_false_eq_true, if_true, if_false, ne_eq, ite_self, reduceCtorEq, i10, Decidable.not_not, Bool.and_self, Bool.and_true, Bool.true_and, sh_is h hw, hnm, rb_i, t1, sc_r h hw, sc_ia h hw (show k < 24 by omega), nI_clamp (show k < 2 ^ 31 by omega), ec k (show k < 24 by omega), k_W_held (show (1 : Int32) ≤ 99 by decide), q_r0 h q1, q_ia1 h q1 hk14, q_w h q1 hk14, wi, w4, hq, nI_1]
        · rw [if_neg hq]
          simp only [clS] at hq ⊢
          simp only [e_W_pour_0, e_W_pour_1, e_W_pour_4, e_W_pour_7, e_W_pour_9, e_W_pour_10, e_W_pour_11, e_W_pour_14, e_W_pour_15, e_W_pour_16, e_W_pour_17, e_W_pour_18, e_W_pour_21, e_W_pour_24, e_W_pour_26, e_W_pour_27, e_W_pour_28, e_W_pour_29, e_W_pour_30, e_W_pour_34, e_W_pour_35, e_W_pour_38, e_W_pour_41, e_W_pour_44, e_W_pour_45, e_W_pour_47, e_W_pour_50, e_W_pour_53, e_W_pour_54, e_W_pour_57, e_W_pour_59, e_W_pour_60, e_W_pour_61, e_W_pour_63, e_W_pour_66, e_W_pour_68, e_W_pour_69, e_W_pour_72, e_W_pour_75, e_W_pour_77, e_W_pour_78, e_W_pour_81, e_W_pour_83, e_W_pour_86, e_W_pour_89, e_W_pour_90, e_W_pour_93, e_W_pour_96, e_W_pour_98, e_W_pour_99, e_W_pour_101, e_W_pour_104, e_W_pour_107, e_W_pour_110, e_W_pour_111, is_0 h, rf_0_0 h, is_1 h, hs.f3, e1, nI_le' (show n < 2 ^ 31 by omega) (show k < 2 ^ 31 by omega), show ¬ n ≤ k by omega, and_self, and_true, true_and, and_false, false_and, or_true, true_or, or_false, false_or, not_true_eq_false, not_false_eq_true, if_true, if_false, ne_eq, ite_self, reduceCtorEq, i10, Decidable.not_not, Bool.and_self, Bool.and_true, Bool.true_and, sh_is h hw, hnm, rb_i, t1, sc_r h hw, sc_ia h hw (show k < 24 by omega), nI_clamp (show k < 2 ^ 31 by omega), ec k (show k < 24 by omega), k_W_held (show (1 : Int32) ≤ 99 by decide), q_r0 h q1, q_ia1 h q1 hk14, q_w h q1 hk14, wi, w4, hq, nI_1]
    · rw [if_neg (fun q => hks q.1)] at hnm
      obtain ⟨I2, s2, g2, f2, r2⟩ := ih (k + 1) I a s l5 (by omega) hs hg e1 em ec
      have e0 : min sz n - k = min sz n - (k + 1) := by omega
      have e00 : min sz n - (k + 1) = 0 := by omega
      rw [e00] at s2 g2 r2
      refine ⟨I2, by rw [e0, e00]; exact s2, by rw [e0, e00]; exact g2, f2, ?_⟩
      rw [e_W_pour_32, e0, e00, show prN c w k 0 a s = prN c w (k + 1) 0 a s from rfl, ← r2]
      simp only [e_W_pour_0, e_W_pour_1, e_W_pour_4, e_W_pour_7, e_W_pour_9, e_W_pour_10, e_W_pour_11, e_W_pour_14, e_W_pour_15, e_W_pour_16, e_W_pour_17, e_W_pour_18, e_W_pour_21, e_W_pour_24, e_W_pour_26, e_W_pour_27, e_W_pour_28, e_W_pour_29, e_W_pour_30, e_W_pour_34, e_W_pour_35, e_W_pour_38, e_W_pour_41, e_W_pour_44, e_W_pour_45, e_W_pour_47, e_W_pour_50, e_W_pour_53, e_W_pour_54, e_W_pour_57, e_W_pour_59, e_W_pour_60, e_W_pour_61, e_W_pour_63, e_W_pour_66, e_W_pour_68, e_W_pour_69, e_W_pour_72, e_W_pour_75, e_W_pour_77, e_W_pour_78, e_W_pour_81, e_W_pour_83, e_W_pour_86, e_W_pour_89, e_W_pour_90, e_W_pour_93, e_W_pour_96, e_W_pour_98, e_W_pour_99, e_W_pour_101, e_W_pour_104, e_W_pour_107, e_W_pour_110, e_W_pour_111, is_0 h, rf_0_0 h, is_1 h, hs.f3, e1, nI_le' (show n < 2 ^ 31 by omega) (show k < 2 ^ 31 by omega), show ¬ n ≤ k by omega, and_self, and_true, true_and, and_false, false_and, or_true, true_or, or_false, false_or, not_true_eq_false, not_false_eq_true, if_true, if_false, ne_eq, ite_self, reduceCtorEq, i10, Decidable.not_not, Bool.and_self, Bool.and_true, Bool.true_and, sh_is h hw, hnm, rb_i, nI_1]
theorem cw_pour (h : WF S R) (hc : CR S I R A) : COp S I R (sp_pour A x) (rn Ls xs (d + 9) 63 0 [some (.inr (.inl (some 0))), some (.inl x), none, none, none, none] [] (S, I, R)) := by
  obtain ⟨n, hn, e1, cn⟩ := hc.g.n
  unfold sp_pour
  by_cases h1 : isSh x = true
  · have h1' := h1
    obtain ⟨w, hw, rfl⟩ := sh_get h1
    have cw : cW (nI w) = w := nI_clamp (by omega)
    obtain ⟨g1, g2, g3, g4, sz, hz, en⟩ := hc.sh hw
    rw [if_pos h1', cw]
    by_cases hm : A 109 w < 0
    · rw [if_pos hm]
      exact COp.same h hc (by simp only [e_W_pour_0, e_W_pour_1, e_W_pour_4, e_W_pour_7, e_W_pour_9, e_W_pour_10, e_W_pour_11, e_W_pour_14, e_W_pour_15, e_W_pour_16, e_W_pour_17, e_W_pour_18, e_W_pour_21, e_W_pour_24, e_W_pour_26, k_W_isSheet, h1', rb_i, t1, and_self, and_true, true_and, and_false, false_and, or_true, true_or, or_false, false_or, not_true_eq_false, not_false_eq_true, if_true, if_false, ne_eq, ite_self, reduceCtorEq, i10, Decidable.not_not, Bool.and_self, Bool.and_true, Bool.true_and, is_0 h, rf_0_5 h, ia_62 h hw, nI_clamp (show w < 2 ^ 31 by omega), sh_r h hw, sh_is h hw, k_mis_y h hc hw hm])
    · rw [if_neg hm, cn, en, show cW (nI sz) = sz from nI_clamp (by omega)]
      obtain ⟨I2, s2, gg2, f2, r2⟩ := l_W_pour (Ls := Ls) (xs := xs) (d := d + 6) (x := nI w) (c := A 111) h hn hw hz n 0 I (A 94) 0 none (by omega) hc.s hc.gg e1 (by rw [g2, en]) g3
      rw [Nat.sub_zero] at s2 gg2 r2
      have r2 : rn Ls xs (d + 9) 63 32 [some (.inr (.inl (some 0))), some (.inl (nI w)), some (.inr (.inl (some (65 + 2 * w)))), some (.inl 0), some (.inl 0), none] [] (S, I, R) = _ := r2
      refine COp.now h hc s2 gg2 f2 ?_
      simp only [e_W_pour_0, e_W_pour_1, e_W_pour_4, e_W_pour_7, e_W_pour_9, e_W_pour_10, e_W_pour_11, e_W_pour_14, e_W_pour_15, e_W_pour_16, e_W_pour_17, e_W_pour_18, e_W_pour_21, e_W_pour_24, e_W_pour_26, e_W_pour_27, e_W_pour_28, e_W_pour_29, e_W_pour_30, k_W_isSheet, h1', rb_i, t1, and_self, and_true, true_and, and_false, false_and, or_true, true_or, or_false, false_or, not_true_eq_false, not_false_eq_true, if_true, if_false, ne_eq, ite_self, reduceCtorEq, i10, Decidable.not_not, Bool.and_self, Bool.and_true, Bool.true_and, is_0 h, rf_0_5 h, ia_62 h hw, nI_clamp (show w < 2 ^ 31 by omega), sh_r h hw, sh_is h hw, k_mis_n h hc hw hm, r2]
  · rw [if_neg h1]
    exact COp.same h hc (by simp only [e_W_pour_0, e_W_pour_1, e_W_pour_4, e_W_pour_7, e_W_pour_9, e_W_pour_10, e_W_pour_11, e_W_pour_14, e_W_pour_15, e_W_pour_16, e_W_pour_17, e_W_pour_18, e_W_pour_21, e_W_pour_24, e_W_pour_26, k_W_isSheet, h1, rb_i, t1, and_self, and_true, true_and, and_false, false_and, or_true, true_or, or_false, false_or, not_true_eq_false, not_false_eq_true, if_true, if_false, ne_eq, ite_self, reduceCtorEq, i10, Decidable.not_not, Bool.and_self, Bool.and_true, Bool.true_and])
end CRH

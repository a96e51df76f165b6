/-! THE REFERENCE: texts that count, their values, hardness -/
theorem nI_m1 (n : Nat) : nI n + (-1) = nI n - 1 := by
  apply Int32.toBitVec_inj.mp
  simp [BitVec.sub_eq_add_neg]
theorem nI_neg1 : nI 0 - 1 < 0 := by decide
theorem nI_n0 {n : Nat} (h : n < 2 ^ 31) : ¬ nI n < 0 := nI_pos h
theorem nI_lt' {a b : Nat} (ha : a < 2 ^ 31) (hb : b < 2 ^ 31) : (nI a < nI b) = (a < b) := propext (nI_ltI ha hb)
theorem nI_le' {a b : Nat} (ha : a < 2 ^ 31) (hb : b < 2 ^ 31) : (nI a ≤ nI b) = (a ≤ b) := propext (nI_leI ha hb)
def cntS (a : Nat → Int32) (key : Int32) : Nat → Int32
  | 0 => -1
  | t + 1 => if a (92 + 2 * t) / 1000 = key then nI t else cntS a key t
/-- what two values give -/
def twoS (s a b : Int32) : Int32 := if s = -8 then a * b else if s = -7 then a - b else if s = -6 then a + b else if s = -5 then (if a ≤ b then 0 else 1) else if s = -4 then (if a = b then 1 else 0) else if s = -3 then (if b ≤ a then 0 else 1) else if s = -2 then (if a = 0 then 0 else if b = 0 then 0 else 1) else if s = -1 then (if a = 0 then (if b = 0 then 0 else 1) else 1) else if b = 0 then 0 else a / b
/-- a text's value: the row of signs c, the facts f; how many values wait -/
def dpS (c : Nat → Int32) : Nat → Nat
  | 0 => 0
  | k + 1 => if c k < 0 then (if c k = -10 then dpS c k else dpS c k - 1) else dpS c k + 1
def wkS (f c : Nat → Int32) (q : Nat → Int32) : Nat → (Nat → Int32)
  | 0 => q
  | k + 1 => if c k < 0 then (if c k = -10 then upd (wkS f c q k) (dpS c k - 1) (if wkS f c q k (dpS c k - 1) = 0 then 1 else 0) else upd (wkS f c q k) (dpS c k - 2) (twoS (c k) (wkS f c q k (dpS c k - 2)) (wkS f c q k (dpS c k - 1))))
    else upd (wkS f c q k) (dpS c k) (if c k < 10000 then c k else f (c k - 10000).toNatClampNeg)
/-- a text that can be worked out -/
def okS (c : Nat → Int32) (n : Nat) : Prop := n ≤ 96 ∧ dpS c n = 1 ∧ ∀ k, k < n → (c k < 0 → (c k = -10 → 1 ≤ dpS c k) ∧ (c k ≠ -10 → 2 ≤ dpS c k)) ∧ (¬ c k < 0 → c k < 10000 ∨ ∃ j, j < 3 ∧ c k = nI (10000 + j))
theorem dpS_le (c : Nat → Int32) : ∀ k, dpS c k ≤ k
  | 0 => Nat.le_refl _
  | k + 1 => by
    have := dpS_le c k
    unfold dpS
    repeat' split
    all_goals omega
section MT2
variable {Ls : Nat} {xs : Nat → Int32} {d : Nat} {S : mS} {I : mI} {R : mR} {x y z : Int32} {H : mH}
theorem l_M_counts (h : WF S R) {key : Int32} : ∀ t, t ≤ 14 → rn Ls xs d 151 10 [some (.inr (.inl (some 93))), some (.inl key), some (.inl (nI t - 1))] [] (S, I, R) = some (some (.inl (cntS (I 94) key t)), (S, I, R)) := by
  intro t
  induction t with
  | zero =>
    intro _
    rw [e_M_counts_10]
    simp only [e_M_counts_0, e_M_counts_1, e_M_counts_4, e_M_counts_6, e_M_counts_7, e_M_counts_8, e_M_counts_9, e_M_counts_11, e_M_counts_14, e_M_counts_15, e_M_counts_18, e_M_counts_20, e_M_counts_21, e_M_counts_22, e_M_counts_23, e_M_counts_24, e_M_counts_25, e_M_counts_28, e_M_counts_29, e_M_counts_30, e_M_counts_33, e_M_counts_34, e_M_counts_35, e_M_counts_38, e_M_counts_41, e_M_counts_42, nI_neg1, if_true, cntS]
  | succ t ih =>
    intro ht
    rw [e_M_counts_10]
    simp only [e_M_counts_0, e_M_counts_1, e_M_counts_4, e_M_counts_6, e_M_counts_7, e_M_counts_8, e_M_counts_9, e_M_counts_11, e_M_counts_14, e_M_counts_15, e_M_counts_18, e_M_counts_20, e_M_counts_21, e_M_counts_22, e_M_counts_23, e_M_counts_24, e_M_counts_25, e_M_counts_28, e_M_counts_29, e_M_counts_30, e_M_counts_33, e_M_counts_34, e_M_counts_35, e_M_counts_38, e_M_counts_41, e_M_counts_42, nI_pred, nI_n0 (show t < 2 ^ 31 by omega), if_false, is_93 h, rf_93_0 h, if_true, cntS]
    rw [show (92 : Int32) + 2 * nI t = nI (92 + 2 * t) by simp only [li, pk_mul, nI_add], ia_94 h (by omega), nI_clamp (by omega)]
    simp only [if_true, show ¬ (1000 : Int32) = 0 by decide, if_false, nI_m1, ih (by omega), it_i, ne_eq, ite_not]
theorem k_M_counts (h : WF S R) {key : Int32} {t : Nat} (ht : t ≤ 14) (e : I 94 7 = nI t) : rn Ls xs d 151 0 [some (.inr (.inl (some 93))), some (.inl key), none] [] (S, I, R) = some (some (.inl (cntS (I 94) key t)), (S, I, R)) := by
  simp only [e_M_counts_0, e_M_counts_1, e_M_counts_4, e_M_counts_6, e_M_counts_7, e_M_counts_8, e_M_counts_9, e_M_counts_11, e_M_counts_14, e_M_counts_15, e_M_counts_18, e_M_counts_20, e_M_counts_21, e_M_counts_22, e_M_counts_23, e_M_counts_24, e_M_counts_25, e_M_counts_28, e_M_counts_29, e_M_counts_30, e_M_counts_33, e_M_counts_34, e_M_counts_35, e_M_counts_38, e_M_counts_41, e_M_counts_42, is_93 h, rf_93_0 h, if_true, ia94_7 h, cl_7, e, l_M_counts h t ht]
theorem k_M_two {s : Int32} : rn Ls xs d 192 0 [some (.inl s), some (.inl x), some (.inl y)] [] H = some (some (.inl (twoS s x y)), H) := by
  simp only [e_M_two_0, e_M_two_1, e_M_two_48, e_M_two_49, e_M_two_52, e_M_two_53, e_M_two_56, e_M_two_57, e_M_two_60, e_M_two_61, e_M_two_62, e_M_two_63, e_M_two_66, e_M_two_67, e_M_two_70, e_M_two_71, e_M_two_74, e_M_two_75, e_M_two_76, e_M_two_77, e_M_two_78, e_M_two_81, e_M_two_82, e_M_two_85, e_M_two_86, e_M_two_87, e_M_two_88, e_M_two_89, e_M_two_92, e_M_two_93, e_M_two_96, e_M_two_97, e_M_two_98, e_M_two_99, e_M_two_100, e_M_two_103, e_M_two_104, e_M_two_107, e_M_two_108, e_M_two_109, e_M_two_110, e_M_two_111, e_M_two_112, e_M_two_113, e_M_two_114, e_M_two_115, e_M_two_116, e_M_two_117, e_M_two_118, e_M_two_119, e_M_two_120, e_M_two_121, e_M_two_122, e_M_two_125, e_M_two_126, e_M_two_129, e_M_two_130, e_M_two_131, e_M_two_132, it_i, ne_eq, ite_not]
  by_cases hy : y = 0
  · simp only [hy, if_true, it_i, twoS]
  · simp only [hy, if_false, it_i, twoS]
theorem l_M_worksOut (h : WF S R) {t n : Nat} (ht : t < 14) (hn : n ≤ 96) {c f : Nat → Int32} (hok : okS c n) (hc : ∀ j, j < n → I 94 (120 + 96 * t + j) = c j) (hf : I 108 = f) {q : Nat → Int32} : ∀ (j k : Nat) (l5 : Option mV), k + j = n →
    rn Ls xs (d + 1) 152 21 [some (.inr (.inl (some 93))), some (.inl (nI t)), some (.inl (nI (dpS c k))), some (.inl (nI n)), some (.inl (nI k)), l5] [] (S, va_up I 107 (wkS f c q k), R) = some (some (.inl (wkS f c q n 0)), (S, va_up I 107 (wkS f c q n), R)) := by
  intro j
  induction j with
  | zero =>
    intro k l5 hk
    have : k = n := by omega
    subst this
    rw [e_M_worksOut_21]
    simp only [e_M_worksOut_0, e_M_worksOut_1, e_M_worksOut_2, e_M_worksOut_3, e_M_worksOut_6, e_M_worksOut_8, e_M_worksOut_9, e_M_worksOut_10, e_M_worksOut_11, e_M_worksOut_12, e_M_worksOut_13, e_M_worksOut_16, e_M_worksOut_17, e_M_worksOut_18, e_M_worksOut_19, e_M_worksOut_23, e_M_worksOut_24, e_M_worksOut_27, e_M_worksOut_28, e_M_worksOut_31, e_M_worksOut_33, e_M_worksOut_35, e_M_worksOut_36, e_M_worksOut_37, e_M_worksOut_38, e_M_worksOut_40, e_M_worksOut_41, e_M_worksOut_42, e_M_worksOut_44, e_M_worksOut_46, e_M_worksOut_49, e_M_worksOut_50, e_M_worksOut_53, e_M_worksOut_54, e_M_worksOut_56, e_M_worksOut_59, e_M_worksOut_62, e_M_worksOut_64, e_M_worksOut_67, e_M_worksOut_68, e_M_worksOut_71, e_M_worksOut_73, e_M_worksOut_76, e_M_worksOut_77, e_M_worksOut_78, e_M_worksOut_79, e_M_worksOut_82, e_M_worksOut_85, e_M_worksOut_87, e_M_worksOut_89, e_M_worksOut_92, e_M_worksOut_93, e_M_worksOut_96, e_M_worksOut_97, e_M_worksOut_98, e_M_worksOut_99, e_M_worksOut_100, e_M_worksOut_103, e_M_worksOut_104, e_M_worksOut_105, e_M_worksOut_106, e_M_worksOut_107, e_M_worksOut_110, e_M_worksOut_111, e_M_worksOut_114, e_M_worksOut_115, e_M_worksOut_116, e_M_worksOut_119, e_M_worksOut_122, e_M_worksOut_123, e_M_worksOut_126, e_M_worksOut_127, e_M_worksOut_128, e_M_worksOut_129, e_M_worksOut_131, e_M_worksOut_132, e_M_worksOut_135, e_M_worksOut_136, e_M_worksOut_137, e_M_worksOut_138, e_M_worksOut_139, e_M_worksOut_140, e_M_worksOut_143, e_M_worksOut_144, e_M_worksOut_145, e_M_worksOut_148, e_M_worksOut_149, e_M_worksOut_152, e_M_worksOut_155, e_M_worksOut_156, e_M_worksOut_159, e_M_worksOut_160, e_M_worksOut_161, nI_le' (show k < 2 ^ 31 by omega) (show k < 2 ^ 31 by omega), Nat.le_refl, if_true, is_93 h, rf_93_24 h, ia_107 h (show 0 < 96 by decide), show (0 : Int32) = nI 0 from rfl, nI_clamp (show 0 < 2 ^ 31 by decide), vu_s]
  | succ j ih =>
    intro k l5 hk
    have hkn : ¬ n ≤ k := by omega
    have hd := dpS_le c k
    rw [e_M_worksOut_21]
    simp only [e_M_worksOut_0, e_M_worksOut_1, e_M_worksOut_2, e_M_worksOut_3, e_M_worksOut_6, e_M_worksOut_8, e_M_worksOut_9, e_M_worksOut_10, e_M_worksOut_11, e_M_worksOut_12, e_M_worksOut_13, e_M_worksOut_16, e_M_worksOut_17, e_M_worksOut_18, e_M_worksOut_19, e_M_worksOut_23, e_M_worksOut_24, e_M_worksOut_27, e_M_worksOut_28, e_M_worksOut_31, e_M_worksOut_33, e_M_worksOut_35, e_M_worksOut_36, e_M_worksOut_37, e_M_worksOut_38, e_M_worksOut_40, e_M_worksOut_41, e_M_worksOut_42, e_M_worksOut_44, e_M_worksOut_46, e_M_worksOut_49, e_M_worksOut_50, e_M_worksOut_53, e_M_worksOut_54, e_M_worksOut_56, e_M_worksOut_59, e_M_worksOut_62, e_M_worksOut_64, e_M_worksOut_67, e_M_worksOut_68, e_M_worksOut_71, e_M_worksOut_73, e_M_worksOut_76, e_M_worksOut_77, e_M_worksOut_78, e_M_worksOut_79, e_M_worksOut_82, e_M_worksOut_85, e_M_worksOut_87, e_M_worksOut_89, e_M_worksOut_92, e_M_worksOut_93, e_M_worksOut_96, e_M_worksOut_97, e_M_worksOut_98, e_M_worksOut_99, e_M_worksOut_100, e_M_worksOut_103, e_M_worksOut_104, e_M_worksOut_105, e_M_worksOut_106, e_M_worksOut_107, e_M_worksOut_110, e_M_worksOut_111, e_M_worksOut_114, e_M_worksOut_115, e_M_worksOut_116, e_M_worksOut_119, e_M_worksOut_122, e_M_worksOut_123, e_M_worksOut_126, e_M_worksOut_127, e_M_worksOut_128, e_M_worksOut_129, e_M_worksOut_131, e_M_worksOut_132, e_M_worksOut_135, e_M_worksOut_136, e_M_worksOut_137, e_M_worksOut_138, e_M_worksOut_139, e_M_worksOut_140, e_M_worksOut_143, e_M_worksOut_144, e_M_worksOut_145, e_M_worksOut_148, e_M_worksOut_149, e_M_worksOut_152, e_M_worksOut_155, e_M_worksOut_156, e_M_worksOut_159, e_M_worksOut_160, e_M_worksOut_161, nI_le' (show n < 2 ^ 31 by omega) (show k < 2 ^ 31 by omega), hkn, if_false, is_93 h, rf_93_0 h, if_true]
    rw [show (120 : Int32) + 96 * nI t + nI k = nI (120 + 96 * t + k) by simp only [li, pk_mul, nI_add], ia_94 h (by omega), nI_clamp (by omega)]
    simp only [if_true, vu_n (show 94 ≠ 107 by decide), hc k (by omega), rf_93_24 h, rf_93_25 h, vu_s]
    have hk1 := (hok.2.2 k (by omega))
    have ih1 := ih (k + 1) (some (.inl (c k))) (by omega)
    have e1 : nI k + 1 = nI (k + 1) := nI_1 k
    by_cases hs : c k < 0
    · simp only [hs, if_true]
      by_cases hm : c k = -10
      · obtain ⟨m, hm2⟩ : ∃ m, dpS c k = m + 1 := ⟨dpS c k - 1, by have := (hk1.1 hs).1 hm; omega⟩
        have e2 : dpS c (k + 1) = m + 1 := by simp only [dpS, hm, show ((-10 : Int32) < 0) by decide, if_true, hm2]
        have e3 : wkS f c q (k + 1) = upd (wkS f c q k) m (if wkS f c q k m = 0 then 1 else 0) := by simp only [wkS, hm, show ((-10 : Int32) < 0) by decide, if_true, hm2, Nat.add_sub_cancel]
        rw [e2, e3, hm] at ih1
        simp only [hm, ne_eq, not_true, if_false, hm2, nI_pred]
        simp only [e_M_worksOut_0, e_M_worksOut_1, e_M_worksOut_2, e_M_worksOut_3, e_M_worksOut_6, e_M_worksOut_8, e_M_worksOut_9, e_M_worksOut_10, e_M_worksOut_11, e_M_worksOut_12, e_M_worksOut_13, e_M_worksOut_16, e_M_worksOut_17, e_M_worksOut_18, e_M_worksOut_19, e_M_worksOut_23, e_M_worksOut_24, e_M_worksOut_27, e_M_worksOut_28, e_M_worksOut_31, e_M_worksOut_33, e_M_worksOut_35, e_M_worksOut_36, e_M_worksOut_37, e_M_worksOut_38, e_M_worksOut_40, e_M_worksOut_41, e_M_worksOut_42, e_M_worksOut_44, e_M_worksOut_46, e_M_worksOut_49, e_M_worksOut_50, e_M_worksOut_53, e_M_worksOut_54, e_M_worksOut_56, e_M_worksOut_59, e_M_worksOut_62, e_M_worksOut_64, e_M_worksOut_67, e_M_worksOut_68, e_M_worksOut_71, e_M_worksOut_73, e_M_worksOut_76, e_M_worksOut_77, e_M_worksOut_78, e_M_worksOut_79, e_M_worksOut_82, e_M_worksOut_85, e_M_worksOut_87, e_M_worksOut_89, e_M_worksOut_92, e_M_worksOut_93, e_M_worksOut_96, e_M_worksOut_97, e_M_worksOut_98, e_M_worksOut_99, e_M_worksOut_100, e_M_worksOut_103, e_M_worksOut_104, e_M_worksOut_105, e_M_worksOut_106, e_M_worksOut_107, e_M_worksOut_110, e_M_worksOut_111, e_M_worksOut_114, e_M_worksOut_115, e_M_worksOut_116, e_M_worksOut_119, e_M_worksOut_122, e_M_worksOut_123, e_M_worksOut_126, e_M_worksOut_127, e_M_worksOut_128, e_M_worksOut_129, e_M_worksOut_131, e_M_worksOut_132, e_M_worksOut_135, e_M_worksOut_136, e_M_worksOut_137, e_M_worksOut_138, e_M_worksOut_139, e_M_worksOut_140, e_M_worksOut_143, e_M_worksOut_144, e_M_worksOut_145, e_M_worksOut_148, e_M_worksOut_149, e_M_worksOut_152, e_M_worksOut_155, e_M_worksOut_156, e_M_worksOut_159, e_M_worksOut_160, e_M_worksOut_161, ia_107 h (show m < 96 by omega), nI_clamp (show m < 2 ^ 31 by omega), if_true, vu_s, vu_vu, e1]
        by_cases hz : wkS f c q k m = 0
        · simp only [hz, ne_eq, not_true, if_false]
          simp only [hz, if_true] at ih1
          exact ih1
        · simp only [hz, ne_eq, not_false_eq_true, if_true]
          simp only [hz, if_false] at ih1
          exact ih1
      · obtain ⟨m, hm2⟩ : ∃ m, dpS c k = m + 2 := ⟨dpS c k - 2, by have := (hk1.1 hs).2 hm; omega⟩
        have e2 : dpS c (k + 1) = m + 1 := by simp only [dpS, hs, hm, if_true, if_false, hm2]; omega
        have e3 : wkS f c q (k + 1) = upd (wkS f c q k) m (twoS (c k) (wkS f c q k m) (wkS f c q k (m + 1))) := by simp only [wkS, hs, hm, if_true, if_false, hm2, Nat.add_sub_cancel]; rfl
        rw [e2, e3] at ih1
        have e4 : nI (m + 2) + -1 = nI (m + 1) := by rw [nI_m1, nI_pred]
        simp only [hm, ne_eq, not_false_eq_true, if_true, hm2, e4, nI_pred]
        simp only [e_M_worksOut_0, e_M_worksOut_1, e_M_worksOut_2, e_M_worksOut_3, e_M_worksOut_6, e_M_worksOut_8, e_M_worksOut_9, e_M_worksOut_10, e_M_worksOut_11, e_M_worksOut_12, e_M_worksOut_13, e_M_worksOut_16, e_M_worksOut_17, e_M_worksOut_18, e_M_worksOut_19, e_M_worksOut_23, e_M_worksOut_24, e_M_worksOut_27, e_M_worksOut_28, e_M_worksOut_31, e_M_worksOut_33, e_M_worksOut_35, e_M_worksOut_36, e_M_worksOut_37, e_M_worksOut_38, e_M_worksOut_40, e_M_worksOut_41, e_M_worksOut_42, e_M_worksOut_44, e_M_worksOut_46, e_M_worksOut_49, e_M_worksOut_50, e_M_worksOut_53, e_M_worksOut_54, e_M_worksOut_56, e_M_worksOut_59, e_M_worksOut_62, e_M_worksOut_64, e_M_worksOut_67, e_M_worksOut_68, e_M_worksOut_71, e_M_worksOut_73, e_M_worksOut_76, e_M_worksOut_77, e_M_worksOut_78, e_M_worksOut_79, e_M_worksOut_82, e_M_worksOut_85, e_M_worksOut_87, e_M_worksOut_89, e_M_worksOut_92, e_M_worksOut_93, e_M_worksOut_96, e_M_worksOut_97, e_M_worksOut_98, e_M_worksOut_99, e_M_worksOut_100, e_M_worksOut_103, e_M_worksOut_104, e_M_worksOut_105, e_M_worksOut_106, e_M_worksOut_107, e_M_worksOut_110, e_M_worksOut_111, e_M_worksOut_114, e_M_worksOut_115, e_M_worksOut_116, e_M_worksOut_119, e_M_worksOut_122, e_M_worksOut_123, e_M_worksOut_126, e_M_worksOut_127, e_M_worksOut_128, e_M_worksOut_129, e_M_worksOut_131, e_M_worksOut_132, e_M_worksOut_135, e_M_worksOut_136, e_M_worksOut_137, e_M_worksOut_138, e_M_worksOut_139, e_M_worksOut_140, e_M_worksOut_143, e_M_worksOut_144, e_M_worksOut_145, e_M_worksOut_148, e_M_worksOut_149, e_M_worksOut_152, e_M_worksOut_155, e_M_worksOut_156, e_M_worksOut_159, e_M_worksOut_160, e_M_worksOut_161, ia_107 h (show m < 96 by omega), ia_107 h (show m + 1 < 96 by omega), nI_clamp (show m < 2 ^ 31 by omega), nI_clamp (show m + 1 < 2 ^ 31 by omega), if_true, is_93 h, rf_93_24 h, vu_s, vu_vu, e1, k_M_two, rb_i]
        exact ih1
    · simp only [hs, if_false]
      have e2 : dpS c (k + 1) = dpS c k + 1 := by simp only [dpS, hs, if_false]
      have e3 : wkS f c q (k + 1) = upd (wkS f c q k) (dpS c k) (if c k < 10000 then c k else f (c k - 10000).toNatClampNeg) := by simp only [wkS, hs, if_false]
      rw [e2, e3] at ih1
      rcases hk1.2 hs with h1 | ⟨i, hi, h1⟩
      · have h2 : ¬ (10000 : Int32) ≤ c k := i_nle.mpr h1
        simp only [h1, if_true] at ih1
        simp only [h2, if_false]
        simp only [e_M_worksOut_0, e_M_worksOut_1, e_M_worksOut_2, e_M_worksOut_3, e_M_worksOut_6, e_M_worksOut_8, e_M_worksOut_9, e_M_worksOut_10, e_M_worksOut_11, e_M_worksOut_12, e_M_worksOut_13, e_M_worksOut_16, e_M_worksOut_17, e_M_worksOut_18, e_M_worksOut_19, e_M_worksOut_23, e_M_worksOut_24, e_M_worksOut_27, e_M_worksOut_28, e_M_worksOut_31, e_M_worksOut_33, e_M_worksOut_35, e_M_worksOut_36, e_M_worksOut_37, e_M_worksOut_38, e_M_worksOut_40, e_M_worksOut_41, e_M_worksOut_42, e_M_worksOut_44, e_M_worksOut_46, e_M_worksOut_49, e_M_worksOut_50, e_M_worksOut_53, e_M_worksOut_54, e_M_worksOut_56, e_M_worksOut_59, e_M_worksOut_62, e_M_worksOut_64, e_M_worksOut_67, e_M_worksOut_68, e_M_worksOut_71, e_M_worksOut_73, e_M_worksOut_76, e_M_worksOut_77, e_M_worksOut_78, e_M_worksOut_79, e_M_worksOut_82, e_M_worksOut_85, e_M_worksOut_87, e_M_worksOut_89, e_M_worksOut_92, e_M_worksOut_93, e_M_worksOut_96, e_M_worksOut_97, e_M_worksOut_98, e_M_worksOut_99, e_M_worksOut_100, e_M_worksOut_103, e_M_worksOut_104, e_M_worksOut_105, e_M_worksOut_106, e_M_worksOut_107, e_M_worksOut_110, e_M_worksOut_111, e_M_worksOut_114, e_M_worksOut_115, e_M_worksOut_116, e_M_worksOut_119, e_M_worksOut_122, e_M_worksOut_123, e_M_worksOut_126, e_M_worksOut_127, e_M_worksOut_128, e_M_worksOut_129, e_M_worksOut_131, e_M_worksOut_132, e_M_worksOut_135, e_M_worksOut_136, e_M_worksOut_137, e_M_worksOut_138, e_M_worksOut_139, e_M_worksOut_140, e_M_worksOut_143, e_M_worksOut_144, e_M_worksOut_145, e_M_worksOut_148, e_M_worksOut_149, e_M_worksOut_152, e_M_worksOut_155, e_M_worksOut_156, e_M_worksOut_159, e_M_worksOut_160, e_M_worksOut_161, ia_107 h (show dpS c k < 96 by omega), nI_clamp (show dpS c k < 2 ^ 31 by omega), if_true, vu_s, vu_vu, e1, nI_1]
        exact ih1
      · have h2 : (10000 : Int32) ≤ c k := by rw [h1]; exact nI_le (a := 10000) (by omega) (by omega)
        have h3 : c k - 10000 = nI i := by rw [h1, show (10000 : Int32) = nI 10000 from rfl, pk_sub (by omega), show 10000 + i - 10000 = i by omega]
        simp only [i_nlt.mpr h2, if_false, h3, nI_clamp (show i < 2 ^ 31 by omega)] at ih1
        simp only [h2, if_true, h3]
        simp only [e_M_worksOut_0, e_M_worksOut_1, e_M_worksOut_2, e_M_worksOut_3, e_M_worksOut_6, e_M_worksOut_8, e_M_worksOut_9, e_M_worksOut_10, e_M_worksOut_11, e_M_worksOut_12, e_M_worksOut_13, e_M_worksOut_16, e_M_worksOut_17, e_M_worksOut_18, e_M_worksOut_19, e_M_worksOut_23, e_M_worksOut_24, e_M_worksOut_27, e_M_worksOut_28, e_M_worksOut_31, e_M_worksOut_33, e_M_worksOut_35, e_M_worksOut_36, e_M_worksOut_37, e_M_worksOut_38, e_M_worksOut_40, e_M_worksOut_41, e_M_worksOut_42, e_M_worksOut_44, e_M_worksOut_46, e_M_worksOut_49, e_M_worksOut_50, e_M_worksOut_53, e_M_worksOut_54, e_M_worksOut_56, e_M_worksOut_59, e_M_worksOut_62, e_M_worksOut_64, e_M_worksOut_67, e_M_worksOut_68, e_M_worksOut_71, e_M_worksOut_73, e_M_worksOut_76, e_M_worksOut_77, e_M_worksOut_78, e_M_worksOut_79, e_M_worksOut_82, e_M_worksOut_85, e_M_worksOut_87, e_M_worksOut_89, e_M_worksOut_92, e_M_worksOut_93, e_M_worksOut_96, e_M_worksOut_97, e_M_worksOut_98, e_M_worksOut_99, e_M_worksOut_100, e_M_worksOut_103, e_M_worksOut_104, e_M_worksOut_105, e_M_worksOut_106, e_M_worksOut_107, e_M_worksOut_110, e_M_worksOut_111, e_M_worksOut_114, e_M_worksOut_115, e_M_worksOut_116, e_M_worksOut_119, e_M_worksOut_122, e_M_worksOut_123, e_M_worksOut_126, e_M_worksOut_127, e_M_worksOut_128, e_M_worksOut_129, e_M_worksOut_131, e_M_worksOut_132, e_M_worksOut_135, e_M_worksOut_136, e_M_worksOut_137, e_M_worksOut_138, e_M_worksOut_139, e_M_worksOut_140, e_M_worksOut_143, e_M_worksOut_144, e_M_worksOut_145, e_M_worksOut_148, e_M_worksOut_149, e_M_worksOut_152, e_M_worksOut_155, e_M_worksOut_156, e_M_worksOut_159, e_M_worksOut_160, e_M_worksOut_161, ia_107 h (show dpS c k < 96 by omega), ia_108 h (show i < 4 by omega), nI_clamp (show i < 2 ^ 31 by omega), nI_clamp (show dpS c k < 2 ^ 31 by omega), if_true, vu_s, vu_vu, vu_n (show 108 ≠ 107 by decide), hf, e1, nI_1]
        exact ih1
theorem k_M_worksOut (h : WF S R) {t n : Nat} (ht : t < 14) {c f : Nat → Int32} (hok : okS c n) (hl : rem (I 94 (92 + 2 * t)) 1000 = nI n) (hc : ∀ j, j < n → I 94 (120 + 96 * t + j) = c j) (hf : I 108 = f) :
    rn Ls xs (d + 1) 152 0 [some (.inr (.inl (some 93))), some (.inl (nI t)), none, none, none, none] [] (S, I, R) = some (some (.inl (wkS f c (I 107) n 0)), (S, va_up I 107 (wkS f c (I 107) n), R)) := by
  have hl2 := l_M_worksOut (Ls := Ls) (xs := xs) (d := d) h ht hok.1 hok hc hf (q := I 107) n 0 none (by omega)
  simp only [wkS, dpS, vu_id] at hl2
  simp only [e_M_worksOut_0, e_M_worksOut_1, e_M_worksOut_2, e_M_worksOut_3, e_M_worksOut_6, e_M_worksOut_8, e_M_worksOut_9, e_M_worksOut_10, e_M_worksOut_11, e_M_worksOut_12, e_M_worksOut_13, e_M_worksOut_16, e_M_worksOut_17, e_M_worksOut_18, e_M_worksOut_19, e_M_worksOut_23, e_M_worksOut_24, e_M_worksOut_27, e_M_worksOut_28, e_M_worksOut_31, e_M_worksOut_33, e_M_worksOut_35, e_M_worksOut_36, e_M_worksOut_37, e_M_worksOut_38, e_M_worksOut_40, e_M_worksOut_41, e_M_worksOut_42, e_M_worksOut_44, e_M_worksOut_46, e_M_worksOut_49, e_M_worksOut_50, e_M_worksOut_53, e_M_worksOut_54, e_M_worksOut_56, e_M_worksOut_59, e_M_worksOut_62, e_M_worksOut_64, e_M_worksOut_67, e_M_worksOut_68, e_M_worksOut_71, e_M_worksOut_73, e_M_worksOut_76, e_M_worksOut_77, e_M_worksOut_78, e_M_worksOut_79, e_M_worksOut_82, e_M_worksOut_85, e_M_worksOut_87, e_M_worksOut_89, e_M_worksOut_92, e_M_worksOut_93, e_M_worksOut_96, e_M_worksOut_97, e_M_worksOut_98, e_M_worksOut_99, e_M_worksOut_100, e_M_worksOut_103, e_M_worksOut_104, e_M_worksOut_105, e_M_worksOut_106, e_M_worksOut_107, e_M_worksOut_110, e_M_worksOut_111, e_M_worksOut_114, e_M_worksOut_115, e_M_worksOut_116, e_M_worksOut_119, e_M_worksOut_122, e_M_worksOut_123, e_M_worksOut_126, e_M_worksOut_127, e_M_worksOut_128, e_M_worksOut_129, e_M_worksOut_131, e_M_worksOut_132, e_M_worksOut_135, e_M_worksOut_136, e_M_worksOut_137, e_M_worksOut_138, e_M_worksOut_139, e_M_worksOut_140, e_M_worksOut_143, e_M_worksOut_144, e_M_worksOut_145, e_M_worksOut_148, e_M_worksOut_149, e_M_worksOut_152, e_M_worksOut_155, e_M_worksOut_156, e_M_worksOut_159, e_M_worksOut_160, e_M_worksOut_161, is_93 h, rf_93_0 h, if_true]
  rw [show (92 : Int32) + 2 * nI t = nI (92 + 2 * t) by simp only [li, pk_mul, nI_add], ia_94 h (by omega), nI_clamp (by omega)]
  simp only [if_true, show ¬ (1000 : Int32) = 0 by decide, if_false]
  rw [show I 94 (92 + 2 * t) - I 94 (92 + 2 * t) / 1000 * 1000 = nI n from hl]
  exact hl2
end MT2
/-- a row's texts can be worked out -/
def txOK (a : Nat → Int32) : Prop := ∃ n, n ≤ 14 ∧ a 7 = nI n ∧ ∀ t, t < n → ∃ m, rem (a (92 + 2 * t)) 1000 = nI m ∧ okS (fun j => a (120 + 96 * t + j)) m ∧ (a (92 + 2 * t) / 1000 ≠ 0 → ∀ j, j < m → a (120 + 96 * t + j) ≠ 10002)
theorem cntS_or (a : Nat → Int32) (key : Int32) : ∀ n, cntS a key n = -1 ∨ ∃ t, t < n ∧ cntS a key n = nI t
  | 0 => Or.inl rfl
  | n + 1 => by
    unfold cntS
    split
    · exact Or.inr ⟨n, by omega, rfl⟩
    · rcases cntS_or a key n with e | ⟨t, h1, h2⟩
      · exact Or.inl e
      · exact Or.inr ⟨t, by omega, h2⟩
/-- the value of a text of a row -/
def valS (a : Nat → Int32) (t : Nat) (f : Nat → Int32) : Int32 := wkS f (fun j => a (120 + 96 * t + j)) (fun _ => 0) (rem (a (92 + 2 * t)) 1000).toNatClampNeg 0
/-- what the row of values held before is no matter -/
theorem wkS_same {f c q q2 : Nat → Int32} {n : Nat} (hok : okS c n) : ∀ k, k ≤ n → ∀ i, i < dpS c k → wkS f c q k i = wkS f c q2 k i := by
  intro k
  induction k with
  | zero => intro _ i hi; simp [dpS] at hi
  | succ k ih =>
    intro hk i hi
    have ih := ih (by omega)
    have hk1 := hok.2.2 k (by omega)
    unfold wkS
    unfold dpS at hi
    by_cases hs : c k < 0
    · simp only [hs, if_true] at hi ⊢
      by_cases hm : c k = -10
      · simp only [hm, if_true] at hi ⊢
        have := (hk1.1 hs).1 hm
        by_cases hj : i = dpS c k - 1
        · subst hj; rw [up_s, up_s, ih _ (by omega)]
        · rw [up_n hj, up_n hj]; exact ih i hi
      · simp only [hm, if_false] at hi ⊢
        have := (hk1.1 hs).2 hm
        by_cases hj : i = dpS c k - 2
        · subst hj; rw [up_s, up_s, ih _ (by omega), ih _ (by omega)]
        · rw [up_n hj, up_n hj]; exact ih i (by omega)
    · simp only [hs, if_false] at hi ⊢
      by_cases hj : i = dpS c k
      · subst hj; rw [up_s, up_s]
      · rw [up_n hj, up_n hj]; exact ih i (by omega)

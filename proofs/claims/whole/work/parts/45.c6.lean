/-! THE CLASS: hours -/
section CT7
variable {Ls : Nat} {xs : Nat → Int32} {d : Nat} {S : mS} {I : mI} {R : mR} {x y z : Int32} {H : mH} {p q : Nat} {a : Nat → Int32}
theorem l_S_meet1 (h : WF S R) (hq : isQ q) {n w : Nat} (hw : w < n) : ∀ (j o : Nat) (I : mI) (a : Nat → Int32) (c : Nat) (l5 : Option mV), o + j = n → SkR S I R q a → gd a → a 1 = nI c → c ≤ 14 → n ≤ c → ∃ I2 o2 l52, SkR S I2 R q (mtS a w o j) ∧ Fq q I I2 ∧ rn Ls xs (d + 3) 177 24 [some (.inr (.inl (some q))), some (.inl (nI n)), some (.inl (nI w)), some (.inr (.inl (some (q + 4 + w)))), some (.inl (nI o)), l5] [] (S, I, R) = rn Ls xs (d + 3) 177 108 [some (.inr (.inl (some q))), some (.inl (nI n)), some (.inl (nI w)), some (.inr (.inl (some (q + 4 + w)))), some (.inl o2), l52] [] (S, I2, R) := by
  have hql := hq.le
  intro j
  induction j with
  | zero =>
    intro o I a c l5 ho hs hg e1 hc hnc
    have : o = n := by omega
    subst this
    refine ⟨I, nI o, l5, hs, Fq.rfl', ?_⟩
    rw [e_S_meetAll_24]
    simp only [e_S_meetAll_26, e_S_meetAll_27, nI_le' (show o < 2 ^ 31 by omega) (show o < 2 ^ 31 by omega), Nat.le_refl, if_true]
  | succ j ih =>
    intro o I a c l5 ho hs hg e1 hc hnc
    have cn : cW (a 1) = c := by rw [e1, cW, nI_clamp (by omega)]
    have hw14 : w < 14 := by omega
    have ho14 : o < 14 := by omega
    have wi := q_wi h hq hw14
    have oi := q_wi h hq ho14
    have w1 : I (q + 4 + w) 1 = a (8 + 6 * w + 1) := hs.2.1 w 1 (by omega) (by omega)
    have w2 : I (q + 4 + w) 2 = a (8 + 6 * w + 2) := hs.2.1 w 2 (by omega) (by omega)
    have w5 : I (q + 4 + w) 5 = a (8 + 6 * w + 5) := hs.2.1 w 5 (by omega) (by omega)
    have o1 : I (q + 4 + o) 1 = a (8 + 6 * o + 1) := hs.2.1 o 1 (by omega) (by omega)
    have o2 : I (q + 4 + o) 2 = a (8 + 6 * o + 2) := hs.2.1 o 2 (by omega) (by omega)
    have o5 : I (q + 4 + o) 5 = a (8 + 6 * o + 5) := hs.2.1 o 5 (by omega) (by omega)
    by_cases hu : a (8 + 6 * w + 5) = 1
    · by_cases hm : meetP a w o
      · obtain ⟨g, r2⟩ := k_S_hardOf (Ls := Ls) (xs := xs) (d := d) h hq hs hg cn (show w < c by omega) hw14
        have s2 := hs.st hq g (by omega)
        obtain ⟨g2, r3⟩ := k_S_hardOf (Ls := Ls) (xs := xs) (d := d) h hq s2 hg cn (show o < c by omega) ho14
        have s3 := s2.st hq g2 (by omega)
        rw [vu_vu] at r3 s3
        have hx : (if hardS a w < hardS a o then w else o) < c := by split <;> omega
        obtain ⟨I4, s4, f4, r4⟩ := k_S_breakUp (Ls := Ls) (xs := xs) (d := d + 1) h hq hc hx s3 hg e1
        rw [← mtS1_y hm e1 hc] at s4
        have l1 := lat_mt1 (o := o) hg e1 hc (show w < c by omega) (show o < c by omega)
        obtain ⟨c2, c3, c4, c5⟩ := l1.2.1 c e1 hc
        obtain ⟨I5, o3, l52, s5, f5, r5⟩ := ih (o + 1) I4 (mtS1 a w o) c2 (some (.inr (.inl (some (q + 4 + o))))) (by omega) s4 l1.1 c5 c4 (by omega)
        refine ⟨I5, o3, l52, s5, ((Fq.rfl'.up (by omega) (by omega)).trans' f4).trans' f5, ?_⟩
        rw [e_S_meetAll_24, ← r5]
        simp only [e_S_meetAll_26, e_S_meetAll_27, e_S_meetAll_30, e_S_meetAll_31, e_S_meetAll_34, e_S_meetAll_37, e_S_meetAll_38, e_S_meetAll_41, e_S_meetAll_43, e_S_meetAll_44, e_S_meetAll_46, e_S_meetAll_47, e_S_meetAll_50, e_S_meetAll_52, e_S_meetAll_55, e_S_meetAll_58, e_S_meetAll_59, e_S_meetAll_62, e_S_meetAll_64, e_S_meetAll_67, e_S_meetAll_70, e_S_meetAll_72, e_S_meetAll_75, e_S_meetAll_78, e_S_meetAll_79, e_S_meetAll_80, e_S_meetAll_81, e_S_meetAll_84, e_S_meetAll_85, e_S_meetAll_87, nI_le' (show n < 2 ^ 31 by omega) (show o < 2 ^ 31 by omega), show ¬ n ≤ o by omega, wi, oi, w1, w2, w5, o1, o2, o5, hm.1, hm.2.1, hm.2.2.1, hm.2.2.2, show ¬ (1 : Int32) = 0 by decide, and_self, and_true, true_and, and_false, false_and, or_true, true_or, or_false, false_or, not_true_eq_false, not_false_eq_true, if_true, if_false, ne_eq, ite_self, reduceCtorEq, i10, Decidable.not_not, Bool.and_self, Bool.and_true, Bool.true_and, q_is h hq, q_r0 h hq, q_ia1 h hq ho14, nI_clamp (show o < 2 ^ 31 by omega), q_w h hq ho14, r2, r3, rb_i]
        rw [e_S_meetAll_90]
        by_cases hl : hardS a w < hardS a o
        · simp only [hl, if_true] at r4
          rw [if_neg (i_nle.mpr hl)]
          simp only [e_S_meetAll_93, e_S_meetAll_94, e_S_meetAll_97, e_S_meetAll_99, e_S_meetAll_102, e_S_meetAll_105, q_is h hq, if_true, r4, rb_v, nI_1]
        · simp only [hl, if_false] at r4
          rw [if_pos (i_nlt.mp hl)]
          simp only [e_S_meetAll_93, e_S_meetAll_94, e_S_meetAll_97, e_S_meetAll_99, e_S_meetAll_102, e_S_meetAll_105, q_is h hq, if_true, r4, rb_v, nI_1]
      · obtain ⟨I5, o3, l52, s5, f5, r5⟩ := ih (o + 1) I a c (some (.inr (.inl (some (q + 4 + o))))) (by omega) hs hg e1 hc hnc
        refine ⟨I5, o3, l52, by unfold mtS; rw [mtS1_n hm]; exact s5, f5, ?_⟩
        rw [e_S_meetAll_24, ← r5]
        by_cases hp : a (8 + 6 * w + 2) = a (8 + 6 * o + 2)
        · by_cases hh : a (8 + 6 * w + 1) = a (8 + 6 * o + 1)
          · have ho0 : a (8 + 6 * o + 5) = 0 := by
              rcases okF5 (hg.2 o 5 (by omega) (by decide)) with e | e
              · exact e
              · exact absurd ⟨hu, e, hh, hp⟩ hm
            simp only [e_S_meetAll_26, e_S_meetAll_27, e_S_meetAll_30, e_S_meetAll_31, e_S_meetAll_34, e_S_meetAll_37, e_S_meetAll_38, e_S_meetAll_41, e_S_meetAll_43, e_S_meetAll_44, e_S_meetAll_46, e_S_meetAll_47, e_S_meetAll_50, e_S_meetAll_52, e_S_meetAll_55, e_S_meetAll_58, e_S_meetAll_59, e_S_meetAll_62, e_S_meetAll_64, e_S_meetAll_67, e_S_meetAll_70, e_S_meetAll_72, e_S_meetAll_75, nI_le' (show n < 2 ^ 31 by omega) (show o < 2 ^ 31 by omega), show ¬ n ≤ o by omega, wi, oi, w1, w2, w5, o1, o2, o5, hu, hp, hh, ho0, show ¬ (1 : Int32) = 0 by decide, and_self, and_true, true_and, and_false, false_and, or_true, true_or, or_false, false_or, not_true_eq_false, not_false_eq_true, if_true, if_false, ne_eq, ite_self, reduceCtorEq, i10, Decidable.not_not, Bool.and_self, Bool.and_true, Bool.true_and, q_is h hq, q_r0 h hq, q_ia1 h hq ho14, nI_clamp (show o < 2 ^ 31 by omega), q_w h hq ho14]
            simp only [e_S_meetAll_102, e_S_meetAll_105, nI_1]
          · simp only [e_S_meetAll_26, e_S_meetAll_27, e_S_meetAll_30, e_S_meetAll_31, e_S_meetAll_34, e_S_meetAll_37, e_S_meetAll_38, e_S_meetAll_41, e_S_meetAll_43, e_S_meetAll_44, e_S_meetAll_46, e_S_meetAll_47, e_S_meetAll_50, e_S_meetAll_52, e_S_meetAll_55, e_S_meetAll_58, e_S_meetAll_59, e_S_meetAll_62, e_S_meetAll_64, e_S_meetAll_67, nI_le' (show n < 2 ^ 31 by omega) (show o < 2 ^ 31 by omega), show ¬ n ≤ o by omega, wi, oi, w1, w2, w5, o1, o2, o5, hu, hp, hh, show ¬ (1 : Int32) = 0 by decide, and_self, and_true, true_and, and_false, false_and, or_true, true_or, or_false, false_or, not_true_eq_false, not_false_eq_true, if_true, if_false, ne_eq, ite_self, reduceCtorEq, i10, Decidable.not_not, Bool.and_self, Bool.and_true, Bool.true_and, q_is h hq, q_r0 h hq, q_ia1 h hq ho14, nI_clamp (show o < 2 ^ 31 by omega), q_w h hq ho14]
            simp only [e_S_meetAll_102, e_S_meetAll_105, nI_1]
        · simp only [e_S_meetAll_26, e_S_meetAll_27, e_S_meetAll_30, e_S_meetAll_31, e_S_meetAll_34, e_S_meetAll_37, e_S_meetAll_38, e_S_meetAll_41, e_S_meetAll_43, e_S_meetAll_44, e_S_meetAll_46, e_S_meetAll_47, e_S_meetAll_50, e_S_meetAll_52, e_S_meetAll_55, nI_le' (show n < 2 ^ 31 by omega) (show o < 2 ^ 31 by omega), show ¬ n ≤ o by omega, wi, oi, w1, w2, w5, o1, o2, o5, hu, hp, show ¬ (1 : Int32) = 0 by decide, and_self, and_true, true_and, and_false, false_and, or_true, true_or, or_false, false_or, not_true_eq_false, not_false_eq_true, if_true, if_false, ne_eq, ite_self, reduceCtorEq, i10, Decidable.not_not, Bool.and_self, Bool.and_true, Bool.true_and, q_is h hq, q_r0 h hq, q_ia1 h hq ho14, nI_clamp (show o < 2 ^ 31 by omega), q_w h hq ho14]
          simp only [e_S_meetAll_102, e_S_meetAll_105, nI_1]
    · have hu0 : a (8 + 6 * w + 5) = 0 := by
        rcases okF5 (hg.2 w 5 (by omega) (by decide)) with e | e
        · exact e
        · exact absurd e hu
      refine ⟨I, nI o, l5, by rw [mtS_dn hu]; exact hs, Fq.rfl', ?_⟩
      rw [e_S_meetAll_24]
      simp only [e_S_meetAll_26, e_S_meetAll_27, e_S_meetAll_30, e_S_meetAll_31, e_S_meetAll_34, nI_le' (show n < 2 ^ 31 by omega) (show o < 2 ^ 31 by omega), show ¬ n ≤ o by omega, wi, w5, hu0, and_self, and_true, true_and, and_false, false_and, or_true, true_or, or_false, false_or, not_true_eq_false, not_false_eq_true, if_true, if_false, ne_eq, ite_self, reduceCtorEq, i10, Decidable.not_not, Bool.and_self, Bool.and_true, Bool.true_and]
theorem l_S_meet2 (h : WF S R) (hq : isQ q) {n : Nat} : ∀ (j w : Nat) (I : mI) (a : Nat → Int32) (c : Nat) (l3 l4 l5 : Option mV), w + j = n → SkR S I R q a → gd a → a 1 = nI c → c ≤ 14 → n ≤ c → ∃ I2, SkR S I2 R q (mtO n a w j) ∧ Fq q I I2 ∧ rn Ls xs (d + 3) 177 7 [some (.inr (.inl (some q))), some (.inl (nI n)), some (.inl (nI w)), l3, l4, l5] [] (S, I, R) = some (none, (S, I2, R)) := by
  have hql := hq.le
  intro j
  induction j with
  | zero =>
    intro w I a c l3 l4 l5 ho hs hg e1 hc hnc
    have : w = n := by omega
    subst this
    refine ⟨I, hs, Fq.rfl', ?_⟩
    rw [e_S_meetAll_7]
    simp only [e_S_meetAll_8, e_S_meetAll_9, e_S_meetAll_114, nI_le' (show w < 2 ^ 31 by omega) (show w < 2 ^ 31 by omega), Nat.le_refl, if_true]
  | succ j ih =>
    intro w I a c l3 l4 l5 ho hs hg e1 hc hnc
    obtain ⟨I2, o2, l52, s2, f2, r2⟩ := l_S_meet1 (Ls := Ls) (xs := xs) (d := d) h hq (show w < n by omega) (n - (w + 1)) (w + 1) I a c l5 (by omega) hs hg e1 hc hnc
    have l1 := lat_mt (w := w) (n - (w + 1)) (w + 1) a c hg e1 hc (by omega) (by omega)
    obtain ⟨c2, c3, c4, c5⟩ := l1.2.1 c e1 hc
    obtain ⟨I3, s3, f3, r3⟩ := ih (w + 1) I2 _ c2 (some (.inr (.inl (some (q + 4 + w))))) (some (.inl o2)) l52 (by omega) s2 l1.1 c5 c4 (by omega)
    refine ⟨I3, s3, f2.trans' f3, ?_⟩
    rw [e_S_meetAll_7, ← r3]
    simp only [e_S_meetAll_8, e_S_meetAll_9, e_S_meetAll_12, e_S_meetAll_13, e_S_meetAll_16, e_S_meetAll_17, e_S_meetAll_18, e_S_meetAll_19, e_S_meetAll_20, e_S_meetAll_21, e_S_meetAll_22, nI_le' (show n < 2 ^ 31 by omega) (show w < 2 ^ 31 by omega), show ¬ n ≤ w by omega, and_self, and_true, true_and, and_false, false_and, or_true, true_or, or_false, false_or, not_true_eq_false, not_false_eq_true, if_true, if_false, ne_eq, ite_self, reduceCtorEq, i10, Decidable.not_not, Bool.and_self, Bool.and_true, Bool.true_and, q_is h hq, q_r0 h hq, q_ia1 h hq (show w < 14 by omega), nI_clamp (show w < 2 ^ 31 by omega), q_w h hq (show w < 14 by omega), nI_1, r2]
    simp only [e_S_meetAll_108, e_S_meetAll_111, nI_1]
theorem k_S_meetAll (h : WF S R) (hq : isQ q) {n : Nat} (hn : n ≤ 14) (hs : SkR S I R q a) (hg : gd a) (e1 : a 1 = nI n) : ∃ I2, SkR S I2 R q (mtO n a 0 n) ∧ Fq q I I2 ∧ rn Ls xs (d + 3) 177 0 [some (.inr (.inl (some q))), none, none, none, none, none] [] (S, I, R) = some (none, (S, I2, R)) := by
  obtain ⟨I2, s2, f2, r2⟩ := l_S_meet2 (Ls := Ls) (xs := xs) (d := d) h hq n 0 I a n none none none (by omega) hs hg e1 hn (Nat.le_refl _)
  have r2 : rn Ls xs (d + 3) 177 7 [some (.inr (.inl (some q))), some (.inl (nI n)), some (.inl 0), none, none, none] [] (S, I, R) = _ := r2
  exact ⟨I2, s2, f2, by simp only [e_S_meetAll_0, e_S_meetAll_1, e_S_meetAll_4, e_S_meetAll_5, e_S_meetAll_6, q_is h hq, if_true, hs.f3, e1, r2]⟩
theorem k_S_sinkByLot (h : WF S R) (hq : isQ q) (hs : SkR S I R q a) (hg : gd a) : ∃ I2, SkR S I2 R q (lotS a) ∧ Fq q I I2 ∧ rn Ls xs (d + 1) 178 0 [some (.inr (.inl (some q))), none] [] (S, I, R) = some (none, (S, I2, R)) := by
  have hql := hq.le
  obtain ⟨n, hn, e1, cn⟩ := hg.n
  have s1 := hs.set10 hq (x := zS (a 0))
  have f1 : Fq q I (va_up I q (upd (I q) 10 (zS (a 0)))) := Fq.rfl'.up (by omega) (by omega)
  have d1 := k_S_draw (Ls := Ls) (xs := xs) (d := d) h hq hs
  by_cases h1 : a 3 ≤ rem (sh8 (zS (a 0))) 100
  · have e : lotS a = upd a 0 (zS (a 0)) := by unfold lotS; rw [if_pos h1]
    refine ⟨_, by rw [e]; exact s1, f1, ?_⟩
    simp only [rem] at h1
    simp only [e_S_sinkByLot_0, e_S_sinkByLot_1, e_S_sinkByLot_4, e_S_sinkByLot_6, e_S_sinkByLot_7, e_S_sinkByLot_8, e_S_sinkByLot_11, e_S_sinkByLot_14, e_S_sinkByLot_15, e_S_sinkByLot_18, e_S_sinkByLot_21, q_is h hq, and_self, and_true, true_and, and_false, false_and, or_true, true_or, or_false, false_or, not_true_eq_false, not_false_eq_true, if_true, if_false, ne_eq, ite_self, reduceCtorEq, i10, Decidable.not_not, Bool.and_self, Bool.and_true, Bool.true_and, d1, rb_i, show ¬ (100 : Int32) = 0 by decide, vu_s, up_n (show 5 ≠ 10 by decide), hs.f5, h1]
  · by_cases h2 : n = 0
    · have h3 : a 1 ≤ 0 := by rw [e1, h2]; decide
      have e : lotS a = upd a 0 (zS (a 0)) := by unfold lotS; rw [if_neg h1, if_pos h3]
      refine ⟨_, by rw [e]; exact s1, f1, ?_⟩
      simp only [rem] at h1
      simp only [e_S_sinkByLot_0, e_S_sinkByLot_1, e_S_sinkByLot_4, e_S_sinkByLot_6, e_S_sinkByLot_7, e_S_sinkByLot_8, e_S_sinkByLot_11, e_S_sinkByLot_14, e_S_sinkByLot_15, e_S_sinkByLot_18, e_S_sinkByLot_21, q_is h hq, and_self, and_true, true_and, and_false, false_and, or_true, true_or, or_false, false_or, not_true_eq_false, not_false_eq_true, if_true, if_false, ne_eq, ite_self, reduceCtorEq, i10, Decidable.not_not, Bool.and_self, Bool.and_true, Bool.true_and, d1, rb_i, show ¬ (100 : Int32) = 0 by decide, vu_s, up_n (show 5 ≠ 10 by decide), up_n (show 3 ≠ 10 by decide), hs.f5, hs.f3, h1, e1, h2, show nI 0 = 0 from rfl]
    · have h3 : ¬ a 1 ≤ 0 := by rw [e1]; exact nI_nle (by omega) (by omega)
      obtain ⟨w, hw, ew⟩ := rem_nI (zS (zS (a 0))) (c := n) (by omega) (by omega)
      have e : lotS a = sinksS (upd a 0 (zS (zS (a 0)))) w := by unfold lotS; rw [if_neg h1, if_neg h3, e1, ew, nI_clamp (by omega), uu]
      have h4 : ¬ nI n = 0 := nI_ne0 (by omega) (by omega)
      have hw14 : w < 14 := by omega
      have s2 := hs.set10 hq (x := zS (zS (a 0)))
      have f2 : Fq q I (va_up I q (upd (I q) 10 (zS (zS (a 0))))) := Fq.rfl'.up (by omega) (by omega)
      have d2 := k_S_draw (Ls := Ls) (xs := xs) (d := d) h hq s1
      rw [up_s, vu_s, vu_vu, uu] at d2
      have wi := q_wi h hq hw14
      have nq : q + 4 + w ≠ q := by omega
      have w1 : I (q + 4 + w) 1 = a (8 + 6 * w + 1) := hs.2.1 w 1 (by omega) (by omega)
      have w5 : I (q + 4 + w) 5 = a (8 + 6 * w + 5) := hs.2.1 w 5 (by omega) (by omega)
      rw [e]
      simp only [rem] at h1 ew
      have st : rn Ls xs (d + 1) 178 0 [some (.inr (.inl (some q))), none] [] (S, I, R) = rn Ls xs (d + 1) 178 37 [some (.inr (.inl (some q))), some (.inr (.inl (some (q + 4 + w))))] [] (S, va_up I q (upd (I q) 10 (zS (zS (a 0)))), R) := by
        simp only [e_S_sinkByLot_0, e_S_sinkByLot_1, e_S_sinkByLot_4, e_S_sinkByLot_6, e_S_sinkByLot_7, e_S_sinkByLot_8, e_S_sinkByLot_11, e_S_sinkByLot_14, e_S_sinkByLot_15, e_S_sinkByLot_18, e_S_sinkByLot_21, e_S_sinkByLot_22, e_S_sinkByLot_23, e_S_sinkByLot_26, e_S_sinkByLot_27, e_S_sinkByLot_30, e_S_sinkByLot_31, e_S_sinkByLot_34, e_S_sinkByLot_35, e_S_sinkByLot_36, q_is h hq, and_self, and_true, true_and, and_false, false_and, or_true, true_or, or_false, false_or, not_true_eq_false, not_false_eq_true, if_true, if_false, ne_eq, ite_self, reduceCtorEq, i10, Decidable.not_not, Bool.and_self, Bool.and_true, Bool.true_and, d1, rb_i, show ¬ (100 : Int32) = 0 by decide, vu_s, up_n (show 5 ≠ 10 by decide), up_n (show 3 ≠ 10 by decide), hs.f5, hs.f3, h1, e1, h4, q_r0 h hq, d2, ew, q_ia1 h hq hw14, nI_clamp (show w < 2 ^ 31 by omega), q_w h hq hw14]
      rw [st]
      unfold sinksS
      rw [up_n (show 8 + 6 * w + 5 ≠ 0 by omega), up_n (show 8 + 6 * w + 1 ≠ 0 by omega)]
      by_cases hu : a (8 + 6 * w + 5) = 1
      · rw [if_pos hu]
        by_cases h0 : a (8 + 6 * w + 1) = 0
        · rw [if_pos h0]
          have s3 := (s2.setW hq hw14 (show 5 < 6 by decide) (x := 0)).set7 hq (x := upd a 0 (zS (zS (a 0))) 5 + 1)
          rw [vu_n (show q ≠ q + 4 + w by omega), vu_s, vu_n nq] at s3
          refine ⟨_, s3, ((f2.up (by omega) (by omega)).up (by omega) (by omega)), ?_⟩
          simp only [e_S_sinkByLot_37, e_S_sinkByLot_38, e_S_sinkByLot_41, e_S_sinkByLot_44, e_S_sinkByLot_45, e_S_sinkByLot_46, e_S_sinkByLot_49, e_S_sinkByLot_52, e_S_sinkByLot_53, e_S_sinkByLot_54, e_S_sinkByLot_57, e_S_sinkByLot_58, e_S_sinkByLot_59, e_S_sinkByLot_62, e_S_sinkByLot_65, e_S_sinkByLot_66, e_S_sinkByLot_67, e_S_sinkByLot_70, e_S_sinkByLot_71, e_S_sinkByLot_72, e_S_sinkByLot_75, e_S_sinkByLot_76, e_S_sinkByLot_77, e_S_sinkByLot_80, wi, and_self, and_true, true_and, and_false, false_and, or_true, true_or, or_false, false_or, not_true_eq_false, not_false_eq_true, if_true, if_false, ne_eq, ite_self, reduceCtorEq, i10, Decidable.not_not, Bool.and_self, Bool.and_true, Bool.true_and, vu_n nq, w5, w1, hu, h0, show ¬ (1 : Int32) = 0 by decide, show (0 : Int32) ≤ 0 by decide, q_is h hq, vu_n (show q ≠ q + 4 + w by omega), vu_s, up_n (show 7 ≠ 10 by decide), up_n (show 5 ≠ 0 by decide), hs.f7, bo_0]
        · rw [if_neg h0]
          have hh := okF1 (hg.2 w 1 (by omega) (by decide))
          have h0' : ¬ a (8 + 6 * w + 1) ≤ 0 := fun q => h0 (i_eqI (by have h5 := hh.1; rw [i_le] at q h5; omega))
          have s3 := s2.setW hq hw14 (show 1 < 6 by decide) (x := a (8 + 6 * w + 1) - 1)
          rw [vu_n nq] at s3
          refine ⟨_, s3, (f2.up (by omega) (by omega)), ?_⟩
          simp only [e_S_sinkByLot_37, e_S_sinkByLot_38, e_S_sinkByLot_41, e_S_sinkByLot_44, e_S_sinkByLot_45, e_S_sinkByLot_46, e_S_sinkByLot_49, e_S_sinkByLot_52, e_S_sinkByLot_53, e_S_sinkByLot_54, e_S_sinkByLot_57, e_S_sinkByLot_58, e_S_sinkByLot_59, e_S_sinkByLot_62, e_S_sinkByLot_65, e_S_sinkByLot_66, e_S_sinkByLot_67, e_S_sinkByLot_70, e_S_sinkByLot_71, e_S_sinkByLot_72, e_S_sinkByLot_75, e_S_sinkByLot_76, e_S_sinkByLot_77, e_S_sinkByLot_80, wi, and_self, and_true, true_and, and_false, false_and, or_true, true_or, or_false, false_or, not_true_eq_false, not_false_eq_true, if_true, if_false, ne_eq, ite_self, reduceCtorEq, i10, Decidable.not_not, Bool.and_self, Bool.and_true, Bool.true_and, vu_n nq, w5, w1, hu, h0', show ¬ (1 : Int32) = 0 by decide]
      · have hu0 : a (8 + 6 * w + 5) = 0 := by
          rcases okF5 (hg.2 w 5 (by omega) (by decide)) with e | e
          · exact e
          · exact absurd e hu
        rw [if_neg hu]
        refine ⟨_, s2, f2, ?_⟩
        simp only [e_S_sinkByLot_37, e_S_sinkByLot_38, e_S_sinkByLot_41, e_S_sinkByLot_44, wi, and_self, and_true, true_and, and_false, false_and, or_true, true_or, or_false, false_or, not_true_eq_false, not_false_eq_true, if_true, if_false, ne_eq, ite_self, reduceCtorEq, i10, Decidable.not_not, Bool.and_self, Bool.and_true, Bool.true_and, vu_n nq, w5, hu0]
theorem l_S_passHours (h : WF S R) (hq : isQ q) {n t : Nat} (hn : t + n < 2 ^ 30) (hg : gd a) (e2 : a 2 = nI t) : ∀ (j k : Nat) (I : mI), k + j = n → SkR S I R q (hrsS a k) → ∃ I2, SkR S I2 R q (hrsS a n) ∧ Fq q I I2 ∧ rn Ls xs (d + 4) 119 2 [some (.inr (.inl (some q))), some (.inl (nI n)), some (.inl (nI k))] [] (S, I, R) = some (none, (S, I2, R)) := by
  have hql := hq.le
  intro j
  induction j with
  | zero =>
    intro k I hk hs
    have : k = n := by omega
    subst this
    refine ⟨I, hs, Fq.rfl', ?_⟩
    rw [e_S_passHours_2]
    simp only [e_S_passHours_0, e_S_passHours_1, e_S_passHours_3, e_S_passHours_4, e_S_passHours_7, e_S_passHours_8, e_S_passHours_11, e_S_passHours_12, e_S_passHours_15, e_S_passHours_16, e_S_passHours_19, e_S_passHours_20, e_S_passHours_21, e_S_passHours_24, e_S_passHours_25, e_S_passHours_26, e_S_passHours_29, e_S_passHours_32, e_S_passHours_35, nI_le' (show k < 2 ^ 31 by omega) (show k < 2 ^ 31 by omega), Nat.le_refl, if_true]
  | succ j ih =>
    intro k I hk hs
    have g1 := gd_hrs hg k
    obtain ⟨m, hm, em, cm⟩ := g1.n
    have et : hrsS a k 2 = nI (t + k) := hrs_2 hg e2 k
    obtain ⟨I1, s1, f1, r1⟩ := k_S_goAll (Ls := Ls) (xs := xs) (d := d + 2) h hq hm (show t + k < 2 ^ 30 by omega) hs g1 em et
    have g2 : gd (goS (hrsS a k) 0 m) := gd_go m 0 _ g1 (by omega)
    have em2 : goS (hrsS a k) 0 m 1 = nI m := by rw [go_o (by decide)]; exact em
    obtain ⟨I2, s2, f2, r2⟩ := k_S_meetAll (Ls := Ls) (xs := xs) (d := d) h hq hm s1 g2 em2
    have g3 := lat_mtO m 0 _ m g2 em2 hm (Nat.le_refl _) (by omega)
    obtain ⟨I3, s3, f3, r3⟩ := k_S_sinkByLot (Ls := Ls) (xs := xs) (d := d + 2) h hq s2 g3.1
    have cm' : (hrsS a k 1).toNatClampNeg = m := cm
    have eh : hrsS a (k + 1) = upd (lotS (mtO m (goS (hrsS a k) 0 m) 0 m)) 2 (lotS (mtO m (goS (hrsS a k) 0 m) 0 m) 2 + 1) := by
      show hourS (hrsS a k) = _
      unfold hourS
      rw [cm']
    have s4 := s3.set9 hq (x := lotS (mtO m (goS (hrsS a k) 0 m) 0 m) 2 + 1)
    rw [← eh] at s4
    obtain ⟨I5, s5, f5, r5⟩ := ih (k + 1) _ (by omega) s4
    refine ⟨I5, s5, (((f1.trans' f2).trans' f3).up (by omega) (by omega)).trans' f5, ?_⟩
    rw [e_S_passHours_2, ← r5]
    simp only [e_S_passHours_0, e_S_passHours_1, e_S_passHours_3, e_S_passHours_4, e_S_passHours_7, e_S_passHours_8, e_S_passHours_11, e_S_passHours_12, e_S_passHours_15, e_S_passHours_16, e_S_passHours_19, e_S_passHours_20, e_S_passHours_21, e_S_passHours_24, e_S_passHours_25, e_S_passHours_26, e_S_passHours_29, e_S_passHours_32, e_S_passHours_35, nI_le' (show n < 2 ^ 31 by omega) (show k < 2 ^ 31 by omega), show ¬ n ≤ k by omega, if_false, if_true, q_is h hq, r1, r2, r3, rb_v, s3.f9, nI_1]
theorem k_S_passHours (h : WF S R) (hq : isQ q) {n t : Nat} (hn : t + n < 2 ^ 30) (hs : SkR S I R q a) (hg : gd a) (e2 : a 2 = nI t) : ∃ I2, SkR S I2 R q (hrsS a n) ∧ Fq q I I2 ∧ rn Ls xs (d + 4) 119 0 [some (.inr (.inl (some q))), some (.inl (nI n)), none] [] (S, I, R) = some (none, (S, I2, R)) := by
  obtain ⟨I2, s2, f2, r2⟩ := l_S_passHours (Ls := Ls) (xs := xs) (d := d) h hq hn hg e2 n 0 I (by omega) hs
  have r2 : rn Ls xs (d + 4) 119 2 [some (.inr (.inl (some q))), some (.inl (nI n)), some (.inl 0)] [] (S, I, R) = _ := r2
  exact ⟨I2, s2, f2, by simp only [e_S_passHours_0, e_S_passHours_1, r2]⟩
end CT7

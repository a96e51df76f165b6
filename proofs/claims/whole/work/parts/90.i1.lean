/-! TEXTS: the reference's key, the reference's text() -/
section MTX
variable {Ls : Nat} {xs : Nat → Int32} {d : Nat} {S : mS} {I I2 I3 A : mI} {R : mR} {T : Nat → Int32} {n i key : Nat}
theorem wd_16 (h : isWd T n 0 16 = true) : ¬ isWd T n 0 12 = true ∧ ¬ isWd T n 0 14 = true := by
  unfold isWd at h
  rw [Bool.and_eq_true, decide_eq_true_eq] at h
  obtain ⟨⟨h1, h2⟩, h3⟩ := h
  have h2 : tB T n 0 - tA T n 0 = 4 := h2
  have h3 : (if T (tA T n 0 + 0) = 104 then mtW T (tA T n 0) 16 3 1 else false) = true := h3
  have e1 : T (tA T n 0 + 0) = 104 := by
    split at h3
    · assumption
    · cases h3
  refine ⟨fun q => ?_, fun q => ?_⟩
  · unfold isWd at q
    rw [Bool.and_eq_true, decide_eq_true_eq] at q
    have q2 : tB T n 0 - tA T n 0 = 3 := q.1.2
    omega
  · unfold isWd at q
    rw [Bool.and_eq_true] at q
    have q3 : (if T (tA T n 0 + 0) = 102 then mtW T (tA T n 0) 14 3 1 else false) = true := q.2
    rw [e1, if_neg (by decide)] at q3
    cases q3
/-- a key's word -/
theorem st_key (h : WF S R) (hK : KY I) (hT : TPM I T n) (hM : MTk I T n 0) (hE : EP I T n 1) (c1 : tC T n 0 = 1) {w : Nat} (hw : w < 3) {l2 l3 l4 : Option mV} : (isWd T n 0 (kW w) = true → ∃ I2, (MTk I2 T n 1 ∧ (tC T n 1 ≠ 3 → EP I2 T n 2)) ∧ I2 93 15 = nI w ∧ MH I I2 ∧ rn Ls xs (d + 3) 158 12 [some (.inr (.inl (some 93))), some (.inl (nI w)), l2, l3, l4] [] (S, I, R) = some (some (.inl 1), (S, I2, R))) ∧ (¬ isWd T n 0 (kW w) = true → ∃ l2' l3' l4', rn Ls xs (d + 3) 158 12 [some (.inr (.inl (some 93))), some (.inl (nI w)), l2, l3, l4] [] (S, I, R) = rn Ls xs (d + 3) 158 12 [some (.inr (.inl (some 93))), some (.inl (nI (w + 1))), l2', l3', l4'] [] (S, I, R)) := by
  obtain ⟨m1, m2, m3, m4, m5⟩ := id hM
  obtain ⟨kl, kl4⟩ := ky_l w hw
  have bA := tA_b (T := T) (n := n) 0
  have bB := tB_b (T := T) (n := n) 0
  have t2' := hT.2.1
  have es : nI (tB T n 0) - nI (tA T n 0) = nI (tB T n 0 - tA T n 0) := pk_sub bB.1
  have nle : ¬ (3 : Int32) ≤ nI w := by rw [show (3 : Int32) = nI 3 from rfl, nI_le' (by decide) (by omega)]; omega
  have e103 := hK.2 w (by omega)
  have e103' := hK.2 (w + 1) (by omega)
  have l0 : 0 < lW (kW w) := by
    rcases (show w = 0 ∨ w = 1 ∨ w = 2 by omega) with rfl | rfl | rfl <;> decide
  have st : ∃ l4', rn Ls xs (d + 3) 158 12 [some (.inr (.inl (some 93))), some (.inl (nI w)), l2, l3, l4] [] (S, I, R) = rn Ls xs (d + 3) 158 106 [some (.inr (.inl (some 93))), some (.inl (nI w)), some (.inl (nI (lW (kW w)))), some (.inl (if isWd T n 0 (kW w) = true then 1 else 0)), l4'] [] (S, I, R) := by
    by_cases hl : tB T n 0 - tA T n 0 = lW (kW w)
    · have ei : isWd T n 0 (kW w) = mtW T (tA T n 0) (kW w) (lW (kW w)) 0 := by
        unfold isWd
        rw [decide_eq_true ⟨c1, hl⟩, Bool.true_and]
      obtain ⟨l4', r⟩ := l_key (Ls := Ls) (xs := xs) (d := d + 2) h hK hT hw m2 (by omega) (lW (kW w)) 0 (by omega)
      rw [← ei] at r
      refine ⟨l4', ?_⟩
      have r : rn Ls xs (d + 3) 158 55 [some (.inr (.inl (some 93))), some (.inl (nI w)), some (.inl (nI (lW (kW w)))), some (.inl 1), some (.inl 0)] [] (S, I, R) = _ := r
      rw [← r, e_M_takesKey_12]
      simp only [e_M_takesKey_13, e_M_takesKey_14, e_M_takesKey_17, e_M_takesKey_18, e_M_takesKey_21, e_M_takesKey_22, e_M_takesKey_23, e_M_takesKey_24, e_M_takesKey_25, e_M_takesKey_26, e_M_takesKey_29, e_M_takesKey_30, e_M_takesKey_31, e_M_takesKey_32, e_M_takesKey_33, e_M_takesKey_34, e_M_takesKey_35, e_M_takesKey_38, e_M_takesKey_39, e_M_takesKey_42, e_M_takesKey_43, e_M_takesKey_46, e_M_takesKey_47, e_M_takesKey_50, e_M_takesKey_51, e_M_takesKey_52, e_M_takesKey_53, is_93 h, rf_93_17 h, and_self, and_true, true_and, and_false, false_and, or_true, true_or, or_false, false_or, not_true_eq_false, not_false_eq_true, if_true, if_false, ne_eq, ite_self, reduceCtorEq, i10, Decidable.not_not, Bool.and_self, Bool.and_true, Bool.true_and, nle, nI_1, ia_103 h (show w + 1 < 4 by omega), ia_103 h (show w < 4 by omega), nI_clamp (show w < 2 ^ 31 by omega), nI_clamp (show w + 1 < 2 ^ 31 by omega), e103, e103', kl, m1, m2, es, hl]
    · have ei : ¬ isWd T n 0 (kW w) = true := by
        unfold isWd
        rw [decide_eq_false (fun q => hl q.2)]
        simp
      have ne : ¬ nI (lW (kW w)) = nI (tB T n 0 - tA T n 0) := by rw [nI_eq' (by omega) (by omega)]; omega
      have nl0 : ¬ nI (lW (kW w)) ≤ 0 := nI_nle l0 (by omega)
      refine ⟨some (.inl 0), ?_⟩
      rw [if_neg ei, e_M_takesKey_12]
      simp only [e_M_takesKey_13, e_M_takesKey_14, e_M_takesKey_17, e_M_takesKey_18, e_M_takesKey_21, e_M_takesKey_22, e_M_takesKey_23, e_M_takesKey_24, e_M_takesKey_25, e_M_takesKey_26, e_M_takesKey_29, e_M_takesKey_30, e_M_takesKey_31, e_M_takesKey_32, e_M_takesKey_33, e_M_takesKey_34, e_M_takesKey_35, e_M_takesKey_38, e_M_takesKey_39, e_M_takesKey_42, e_M_takesKey_43, e_M_takesKey_46, e_M_takesKey_47, e_M_takesKey_50, e_M_takesKey_51, e_M_takesKey_52, e_M_takesKey_53, is_93 h, rf_93_17 h, and_self, and_true, true_and, and_false, false_and, or_true, true_or, or_false, false_or, not_true_eq_false, not_false_eq_true, if_true, if_false, ne_eq, ite_self, reduceCtorEq, i10, Decidable.not_not, Bool.and_self, Bool.and_true, Bool.true_and, nle, nI_1, ia_103 h (show w + 1 < 4 by omega), ia_103 h (show w < 4 by omega), nI_clamp (show w < 2 ^ 31 by omega), nI_clamp (show w + 1 < 2 ^ 31 by omega), e103, e103', kl, m1, m2, es, ne]
      rw [e_M_takesKey_55]
      simp only [e_M_takesKey_57, e_M_takesKey_58, e_M_takesKey_61, e_M_takesKey_62, and_self, and_true, true_and, and_false, false_and, or_true, true_or, or_false, false_or, not_true_eq_false, not_false_eq_true, if_true, if_false, ne_eq, ite_self, reduceCtorEq, i10, Decidable.not_not, Bool.and_self, Bool.and_true, Bool.true_and, nl0]
  obtain ⟨l4', st⟩ := st
  refine ⟨fun q => ?_, fun q => ?_⟩
  · rw [if_pos q] at st
    have k93 : ∀ k, k ≠ 15 → va_up I 93 (upd (I 93) 15 (nI w)) 93 k = I 93 k := fun k k1 => by rw [vu_s, up_n k1]
    have T1 : TPM (va_up I 93 (upd (I 93) 15 (nI w))) T n := ⟨by rw [k93 9 (by decide)]; exact hT.1, t2', fun k hk => by rw [vu_n (by decide)]; exact hT.2.2 k hk⟩
    obtain ⟨I2, g1, g2, g3, r2⟩ := k_go (Ls := Ls) (xs := xs) (d := d) (i := 1) h T1 (by rw [k93 10 (by decide)]; exact m1) (by unfold EP; rw [k93 14 (by decide)]; exact hE) (show tC T n 0 ≠ 3 by omega)
    refine ⟨I2, ⟨g1, g2⟩, by rw [g3.2 15 (by omega), vu_s, up_s], ?_, ?_⟩
    · have f1 : MH I (va_up I 93 (upd (I 93) 15 (nI w))) := ⟨fun b b1 _ _ _ => vu_n b1, fun k hk => k93 k (by omega)⟩
      exact f1.trans' g3.mh
    · rw [st]
      simp only [e_M_takesKey_106, e_M_takesKey_107, e_M_takesKey_110, e_M_takesKey_111, e_M_takesKey_112, e_M_takesKey_115, e_M_takesKey_116, e_M_takesKey_119, e_M_takesKey_120, is_93 h, and_self, and_true, true_and, and_false, false_and, or_true, true_or, or_false, false_or, not_true_eq_false, not_false_eq_true, if_true, if_false, ne_eq, ite_self, reduceCtorEq, i10, Decidable.not_not, Bool.and_self, Bool.and_true, Bool.true_and, t1, r2, rb_v, bo_1]
  · rw [if_neg q] at st
    refine ⟨some (.inl (nI (lW (kW w)))), some (.inl 0), l4', ?_⟩
    rw [st]
    simp only [e_M_takesKey_106, e_M_takesKey_107, e_M_takesKey_121, e_M_takesKey_124, and_self, and_true, true_and, and_false, false_and, or_true, true_or, or_false, false_or, not_true_eq_false, not_false_eq_true, if_true, if_false, ne_eq, ite_self, reduceCtorEq, i10, Decidable.not_not, Bool.and_self, Bool.and_true, Bool.true_and, nI_1]
theorem m_takesKey (h : WF S R) (hK : KY I) (hT : TPM I T n) (hM : MTk I T n 0) (hE : tC T n 0 ≠ 3 → EP I T n 1) : (kyS T n < 3 → ∃ I2, (MTk I2 T n 1 ∧ (tC T n 1 ≠ 3 → EP I2 T n 2)) ∧ I2 93 15 = nI (kyS T n) ∧ MH I I2 ∧ rn Ls xs (d + 3) 158 0 [some (.inr (.inl (some 93))), none, none, none, none] [] (S, I, R) = some (some (.inl 1), (S, I2, R))) ∧ (kyS T n = 3 → rn Ls xs (d + 3) 158 0 [some (.inr (.inl (some 93))), none, none, none, none] [] (S, I, R) = some (some (.inl 0), (S, I, R))) := by
  obtain ⟨m1, m2, m3, m4, m5⟩ := id hM
  have tl := tkn_le (T := T) (n := n) (i := 0)
  have ng : ¬ tG T n 0 := fun q => q.1 rfl
  by_cases c1 : tC T n 0 = 1
  · have e12 : I 93 12 = 1 := by rw [m3, tkn, if_neg (by omega), if_neg (by omega), if_pos c1, if_neg ng]; rfl
    have hE1 := hE (by omega)
    have st : rn Ls xs (d + 3) 158 0 [some (.inr (.inl (some 93))), none, none, none, none] [] (S, I, R) = rn Ls xs (d + 3) 158 12 [some (.inr (.inl (some 93))), some (.inl (nI 0)), none, none, none] [] (S, I, R) := by
      simp only [e_M_takesKey_0, e_M_takesKey_1, e_M_takesKey_4, e_M_takesKey_5, e_M_takesKey_8, e_M_takesKey_9, e_M_takesKey_10, e_M_takesKey_11, is_93 h, and_self, and_true, true_and, and_false, false_and, or_true, true_or, or_false, false_or, not_true_eq_false, not_false_eq_true, if_true, if_false, ne_eq, ite_self, reduceCtorEq, i10, Decidable.not_not, Bool.and_self, Bool.and_true, Bool.true_and, e12, show nI 0 = 0 from rfl]
    by_cases q0 : isWd T n 0 16 = true
    · obtain ⟨n1, n2⟩ := wd_16 q0
      have ky : kyS T n = 0 := by unfold kyS; rw [if_neg n1, if_neg n2, if_pos q0]
      rw [ky, st]
      exact ⟨fun _ => (st_key (Ls := Ls) (xs := xs) (d := d) (w := 0) h hK hT hM hE1 c1 (by decide)).1 q0, fun q => by cases q⟩
    · obtain ⟨a2, a3, a4, s1⟩ := (st_key (Ls := Ls) (xs := xs) (d := d) (w := 0) (l2 := none) (l3 := none) (l4 := none) h hK hT hM hE1 c1 (by decide)).2 q0
      by_cases q1 : isWd T n 0 12 = true
      · have ky : kyS T n = 1 := by unfold kyS; rw [if_pos q1]
        rw [ky, st, s1]
        exact ⟨fun _ => (st_key (Ls := Ls) (xs := xs) (d := d) (w := 1) h hK hT hM hE1 c1 (by decide)).1 q1, fun q => by cases q⟩
      · obtain ⟨b2, b3, b4, s2⟩ := (st_key (Ls := Ls) (xs := xs) (d := d) (w := 1) (l2 := a2) (l3 := a3) (l4 := a4) h hK hT hM hE1 c1 (by decide)).2 q1
        by_cases q2 : isWd T n 0 14 = true
        · have ky : kyS T n = 2 := by unfold kyS; rw [if_neg q1, if_pos q2]
          rw [ky, st, s1, s2]
          exact ⟨fun _ => (st_key (Ls := Ls) (xs := xs) (d := d) (w := 2) h hK hT hM hE1 c1 (by decide)).1 q2, fun q => by cases q⟩
        · obtain ⟨d2, d3, d4, s3⟩ := (st_key (Ls := Ls) (xs := xs) (d := d) (w := 2) (l2 := b2) (l3 := b3) (l4 := b4) h hK hT hM hE1 c1 (by decide)).2 q2
          have ky : kyS T n = 3 := by unfold kyS; rw [if_neg q1, if_neg q2, if_neg q0]
          rw [ky, st, s1, s2, s3]
          refine ⟨fun q => absurd q (by decide), fun _ => ?_⟩
          rw [e_M_takesKey_12]
          simp only [e_M_takesKey_13, e_M_takesKey_14, e_M_takesKey_127, e_M_takesKey_128, and_self, and_true, true_and, and_false, false_and, or_true, true_or, or_false, false_or, not_true_eq_false, not_false_eq_true, if_true, if_false, ne_eq, ite_self, reduceCtorEq, i10, Decidable.not_not, Bool.and_self, Bool.and_true, Bool.true_and, show (3 : Int32) ≤ nI (2 + 1) from (by decide), bo_0]
  · have nw : ∀ s, ¬ isWd T n 0 s = true := by
      intro s
      unfold isWd
      rw [decide_eq_false (fun q => c1 q.1)]
      simp
    have ky : kyS T n = 3 := by unfold kyS; rw [if_neg (nw _), if_neg (nw _), if_neg (nw _)]
    have n12 : ¬ I 93 12 = 1 := by
      rw [m3, show (1 : Int32) = nI 1 from rfl, nI_eq' (by omega) (by decide)]
      intro q
      by_cases c3 : tC T n 0 = 3
      · rw [tkn, if_pos c3] at q; cases q
      · by_cases c2 : tC T n 0 = 2
        · rw [tkn, if_neg c3, if_pos c2] at q
          split at q <;> cases q
        · rw [tkn, if_neg c3, if_neg c2, if_neg c1] at q; cases q
    rw [ky]
    refine ⟨fun q => absurd q (by decide), fun _ => ?_⟩
    simp only [e_M_takesKey_0, e_M_takesKey_1, e_M_takesKey_4, e_M_takesKey_5, e_M_takesKey_8, e_M_takesKey_9, is_93 h, and_self, and_true, true_and, and_false, false_and, or_true, true_or, or_false, false_or, not_true_eq_false, not_false_eq_true, if_true, if_false, ne_eq, ite_self, reduceCtorEq, i10, Decidable.not_not, Bool.and_self, Bool.and_true, Bool.true_and, n12, bo_0]
theorem MR.mh (hm : MR I A) (hf : MH I I2) : MR I2 A := by
  obtain ⟨h1, h2, h3, h4, h5, h6, h7, h8⟩ := hm
  exact ⟨fun b b1 b2 => by rw [hf.1 b (by omega) (by omega) (by omega) (by omega)]; exact h1 b b1 b2, by rw [hf.1 101 (by decide) (by decide) (by decide) (by decide)]; exact h2, fun b b1 b2 => by rw [hf.1 b (by omega) (by omega) (by omega) (by omega)]; exact h3 b b1 b2, by rw [hf.1 117 (by decide) (by decide) (by decide) (by decide)]; exact h4, by rw [hf.2 3 (by omega)]; exact h5, by rw [hf.2 9 (by omega)]; exact h6, by rw [hf.2 35 (by omega)]; exact h7, fun b hb => by rw [hf.1 b (by omega) (by omega) (by omega) (by omega)]; exact h8 b hb⟩
theorem l_text (h : WF S R) {t : Nat} {D : List Int32} (ht : t < 14) (hD : D.length ≤ 95) {l1 : Option mV} : ∀ (j k : Nat) (I : mI), k + j = D.length → I 93 19 = nI D.length → (∀ k, k < D.length → I 104 k = D.getD k 0) → rn Ls xs d 54 117 [some (.inr (.inl (some 93))), l1, some (.inl (nI t)), some (.inl (nI k))] [] (S, I, R) = rn Ls xs d 54 151 [some (.inr (.inl (some 93))), l1, some (.inl (nI t)), some (.inl (nI D.length))] [] (S, va_up I 94 (fun i => if 120 + 96 * t + k ≤ i ∧ i < 120 + 96 * t + D.length then D.getD (i - (120 + 96 * t)) 0 else I 94 i), R) := by
  intro j
  induction j with
  | zero =>
    intro k I hk e19 e104
    have ek : k = D.length := by omega
    have e : (fun i => if 120 + 96 * t + k ≤ i ∧ i < 120 + 96 * t + D.length then D.getD (i - (120 + 96 * t)) 0 else I 94 i) = I 94 := by funext i; rw [if_neg (by omega)]
    rw [e, vu_id, ek, e_M_text_117]
    simp only [e_M_text_118, e_M_text_119, e_M_text_122, is_93 h, and_self, and_true, true_and, and_false, false_and, or_true, true_or, or_false, false_or, not_true_eq_false, not_false_eq_true, if_true, if_false, ne_eq, ite_self, reduceCtorEq, i10, Decidable.not_not, Bool.and_self, Bool.and_true, Bool.true_and, e19, nI_le' (show D.length < 2 ^ 31 by omega) (show D.length < 2 ^ 31 by omega), Nat.le_refl]
  | succ j ih =>
    intro k I hk e19 e104
    have e96 : (96 : Int32) * nI t = nI (96 * t) := pk_mul 96 t
    have e120 : (120 : Int32) + nI (96 * t) = nI (120 + 96 * t) := nI_add 120 _
    have ek : nI (120 + 96 * t) + nI k = nI (120 + 96 * t + k) := nI_add _ _
    have ih1 := ih (k + 1) (va_up I 94 (upd (I 94) (120 + 96 * t + k) (D.getD k 0))) (by omega) (by rw [vu_n (by decide)]; exact e19) (fun k hk => by rw [vu_n (by decide)]; exact e104 k hk)
    have e : (fun i => if 120 + 96 * t + (k + 1) ≤ i ∧ i < 120 + 96 * t + D.length then D.getD (i - (120 + 96 * t)) 0 else va_up I 94 (upd (I 94) (120 + 96 * t + k) (D.getD k 0)) 94 i) = fun i => if 120 + 96 * t + k ≤ i ∧ i < 120 + 96 * t + D.length then D.getD (i - (120 + 96 * t)) 0 else I 94 i := by
      funext i
      rw [vu_s]
      by_cases q1 : i = 120 + 96 * t + k
      · subst q1
        rw [if_neg (by omega), up_s, if_pos (by omega), show 120 + 96 * t + k - (120 + 96 * t) = k by omega]
      · rw [up_n q1]
        by_cases q2 : 120 + 96 * t + (k + 1) ≤ i ∧ i < 120 + 96 * t + D.length
        · rw [if_pos q2, if_pos (by omega)]
        · rw [if_neg q2, if_neg (by omega)]
    rw [e, vu_vu] at ih1
    rw [← ih1, e_M_text_117]
    simp only [e_M_text_118, e_M_text_119, e_M_text_122, e_M_text_125, e_M_text_126, e_M_text_129, e_M_text_131, e_M_text_133, e_M_text_134, e_M_text_135, e_M_text_136, e_M_text_137, e_M_text_138, e_M_text_139, e_M_text_142, e_M_text_143, e_M_text_144, e_M_text_145, e_M_text_148, is_93 h, rf_93_0 h, rf_93_18 h, and_self, and_true, true_and, and_false, false_and, or_true, true_or, or_false, false_or, not_true_eq_false, not_false_eq_true, if_true, if_false, ne_eq, ite_self, reduceCtorEq, i10, Decidable.not_not, Bool.and_self, Bool.and_true, Bool.true_and, e19, nI_le' (show D.length < 2 ^ 31 by omega) (show k < 2 ^ 31 by omega), show ¬ D.length ≤ k by omega, e96, e120, ek, ia_104 h (show k < 96 by omega), nI_clamp (show k < 2 ^ 31 by omega), e104 k (by omega), ia_94 h (show 120 + 96 * t + k < 1464 by omega), nI_clamp (show 120 + 96 * t + k < 2 ^ 31 by omega), nI_1]
theorem o_M_text (h : WF S R) (hm : MR I A) (hK : KY A) (hr : rwOK (A 94)) (hn : n ≤ 96) (e9 : A 93 9 = nI n) : ∃ I2, MR I2 (sp_text A).2 ∧ rn Ls xs (d + 9) 54 0 [some (.inr (.inl (some 93))), none, none, none] [] (S, I, R) = some (some (.inl (sp_text A).1), (S, I2, R)) := by
  have cn : cW (A 93 9) = n := by rw [e9, cW, nI_clamp (by omega)]
  obtain ⟨m, hm14, e7, -⟩ := hr.2
  have c7 : cW (A 94 7) = m := by rw [e7, cW, nI_clamp (by omega)]
  obtain ⟨J, hJ⟩ : ∃ J : mI, J = va_up I 93 (upd (upd (I 93) 10 0) 14 (-1)) := ⟨_, rfl⟩
  have fJ : MH I J := ⟨fun b b1 _ _ _ => by rw [hJ, vu_n b1], fun k hk => by rw [hJ, vu_s, up_n (by omega), up_n (by omega)]⟩
  have mJ := hm.mh fJ
  have TJ : TPM J (A 101) n := ⟨by rw [mJ.f9, e9], hn, fun k _ => by rw [mJ.2.1]⟩
  obtain ⟨I1, g1, g2, g3, r1⟩ := k_go (Ls := Ls) (xs := xs) (d := d + 6) (T := A 101) (n := n) (i := 0) h TJ (by rw [hJ, vu_s, up_n (by decide), up_s]; rfl) ⟨fun q => absurd rfl q, fun _ => Or.inl (by rw [hJ, vu_s, up_s])⟩ (show (0 : Nat) ≠ 3 by decide)
  have r1 : rn Ls xs (d + 8) 157 0 [some (.inr (.inl (some 93))), none] [] (S, J, R) = _ := r1
  have f1 := fJ.trans' g3.mh
  have mr1 := hm.mh f1
  have KJ : KY I1 := ⟨fun k hk => by rw [mr1.2.2.2.2.2.2.2 102 (by omega)]; exact hK.1 k hk, fun k hk => by rw [mr1.2.2.2.2.2.2.2 103 (by omega)]; exact hK.2 k hk⟩
  have T1 := TJ.mg g3
  obtain ⟨y1, y2⟩ := m_takesKey (Ls := Ls) (xs := xs) (d := d + 5) (T := A 101) (n := n) h KJ T1 g1 g2
  have st : rn Ls xs (d + 9) 54 0 [some (.inr (.inl (some 93))), none, none, none] [] (S, I, R) = rb Ls xs (d + 9) 54 18 [some (.inr (.inl (some 93))), none, none, none] [] (rn Ls xs (d + 8) 158 0 [some (.inr (.inl (some 93))), none, none, none, none] [] (S, I1, R)) := by
    rw [hJ] at r1
    simp only [e_M_text_0, e_M_text_1, e_M_text_2, e_M_text_5, e_M_text_6, e_M_text_7, e_M_text_10, e_M_text_11, e_M_text_14, e_M_text_15, is_93 h, and_self, and_true, true_and, and_false, false_and, or_true, true_or, or_false, false_or, not_true_eq_false, not_false_eq_true, if_true, if_false, ne_eq, ite_self, reduceCtorEq, i10, Decidable.not_not, Bool.and_self, Bool.and_true, Bool.true_and, vu_s, vu_vu, r1, rb_v]
  /- a fault -/
  have fin : ∀ {p : Nat} {J2 : mI}, rtx (A 101) n = .inl p → MH I J2 → J2 93 11 = nI p → rn Ls xs (d + 9) 54 0 [some (.inr (.inl (some 93))), none, none, none] [] (S, I, R) = rn Ls xs (d + 9) 54 32 [some (.inr (.inl (some 93))), none, none, none] [] (S, J2, R) → ∃ I2, MR I2 (sp_text A).2 ∧ rn Ls xs (d + 9) 54 0 [some (.inr (.inl (some 93))), none, none, none] [] (S, I, R) = some (some (.inl (sp_text A).1), (S, I2, R)) := by
    intro p J2 hx f2 e11 r
    have es : sp_text A = (-100 - nI p, va_up A 93 (upd (A 93) 9 0)) := by unfold sp_text; rw [cn, hx]
    rw [es]
    refine ⟨va_up J2 93 (upd (J2 93) 9 0), (hm.mh f2).fld 9 0, ?_⟩
    rw [r]
    simp only [e_M_text_32, e_M_text_33, e_M_text_34, e_M_text_35, e_M_text_36, e_M_text_39, e_M_text_40, e_M_text_43, e_M_text_45, e_M_text_46, e_M_text_49, e_M_text_50, is_93 h, and_self, and_true, true_and, and_false, false_and, or_true, true_or, or_false, false_or, not_true_eq_false, not_false_eq_true, if_true, if_false, ne_eq, ite_self, reduceCtorEq, i10, Decidable.not_not, Bool.and_self, Bool.and_true, Bool.true_and, vu_s, up_n (show 11 ≠ 9 by decide), e11]
  by_cases k3 : kyS (A 101) n = 3
  · have r2 := y2 k3
    refine fin (p := tA (A 101) n 0) (by unfold rtx; rw [if_pos k3]) f1 g1.2.1 ?_
    rw [st, r2]
    simp only [rb_i, e_M_text_18, and_self, and_true, true_and, and_false, false_and, or_true, true_or, or_false, false_or, not_true_eq_false, not_false_eq_true, if_true, if_false, ne_eq, ite_self, reduceCtorEq, i10, Decidable.not_not, Bool.and_self, Bool.and_true, Bool.true_and]
  · have kl := ky_lt k3
    obtain ⟨I2, ⟨u1, u2⟩, u3, u4, r2⟩ := y1 kl
    have f2 := f1.trans' u4
    have T2 : TPM I2 (A 101) n := ⟨by rw [(hm.mh f2).f9, e9], hn, fun k _ => by rw [(hm.mh f2).2.1]⟩
    obtain ⟨z1, z2⟩ := m_takesE (Ls := Ls) (xs := xs) (d := d + 4) (T := A 101) (n := n) h kl T2 u1 u2 u3
    have st2 : rn Ls xs (d + 9) 54 0 [some (.inr (.inl (some 93))), none, none, none] [] (S, I, R) = rb Ls xs (d + 9) 54 25 [some (.inr (.inl (some 93))), none, none, none] [] (rn Ls xs (d + 8) 159 0 [some (.inr (.inl (some 93))), none, none, none, none] [] (S, I2, R)) := by
      rw [st, r2]
      simp only [rb_i, e_M_text_18, e_M_text_21, e_M_text_22, is_93 h, t1, and_self, and_true, true_and, and_false, false_and, or_true, true_or, or_false, false_or, not_true_eq_false, not_false_eq_true, if_true, if_false, ne_eq, ite_self, reduceCtorEq, i10, Decidable.not_not, Bool.and_self, Bool.and_true, Bool.true_and]
    have er : rtx (A 101) n = (match rd (tk (A 101) n (kyS (A 101) n)) 70 0 0 0 1 with | .inl j => .inl (tA (A 101) n j) | .inr (j, D) => if tC (A 101) n j = 3 then .inr (kyS (A 101) n, D) else .inl (tA (A 101) n j)) := by unfold rtx; exact if_neg k3
    have bad : ∀ {j : Nat}, rtx (A 101) n = .inl (tA (A 101) n j) → MF S R I2 (A 101) n j (rn Ls xs (d + 8) 159 0 [some (.inr (.inl (some 93))), none, none, none, none] [] (S, I2, R)) → ∃ I2, MR I2 (sp_text A).2 ∧ rn Ls xs (d + 9) 54 0 [some (.inr (.inl (some 93))), none, none, none] [] (S, I, R) = some (some (.inl (sp_text A).1), (S, I2, R)) := by
      intro j hx hf
      obtain ⟨I4, q1, q2, q3⟩ := hf
      refine fin hx (f2.trans' q1) q2 ?_
      rw [st2, q3]
      simp only [rb_i, e_M_text_25, and_self, and_true, true_and, and_false, false_and, or_true, true_or, or_false, false_or, not_true_eq_false, not_false_eq_true, if_true, if_false, ne_eq, ite_self, reduceCtorEq, i10, Decidable.not_not, Bool.and_self, Bool.and_true, Bool.true_and]
    cases hx : rd (tk (A 101) n (kyS (A 101) n)) 70 0 0 0 1 with
    | inl j =>
      rw [hx] at er
      exact bad er (z1 j hx)
    | inr vv =>
      obtain ⟨j, D⟩ := vv
      rw [hx] at er
      simp only at er
      by_cases c3 : tC (A 101) n j = 3
      · rw [if_pos c3] at er
        obtain ⟨I4, q1, ⟨q15, q19, q20, q104⟩, r4⟩ := (z2 j D hx).2 c3
        obtain ⟨-, -, hD, -⟩ := rtx_r hn er
        have f4 := f2.trans' q1
        have m4 := (hm.mh f4).fld 9 0
        have now4 : I4 94 = A 94 := (hm.mh f4).now
        have st3 : rn Ls xs (d + 9) 54 0 [some (.inr (.inl (some 93))), none, none, none] [] (S, I, R) = rn Ls xs (d + 9) 54 51 [some (.inr (.inl (some 93))), some (.inl 1), none, none] [] (S, va_up I4 93 (upd (I4 93) 9 0), R) := by
          rw [st2, r4]
          simp only [rb_i, e_M_text_25, e_M_text_28, e_M_text_29, e_M_text_32, e_M_text_33, e_M_text_34, e_M_text_35, e_M_text_36, e_M_text_39, e_M_text_40, is_93 h, t1, and_self, and_true, true_and, and_false, false_and, or_true, true_or, or_false, false_or, not_true_eq_false, not_false_eq_true, if_true, if_false, ne_eq, ite_self, reduceCtorEq, i10, Decidable.not_not, Bool.and_self, Bool.and_true, Bool.true_and]
        by_cases h14 : m = 14
        · have es : sp_text A = (-1000000003, va_up A 93 (upd (A 93) 9 0)) := by
            unfold sp_text
            rw [cn, er]
            simp only
            rw [if_pos (by rw [e7, h14]; rfl)]
          rw [es]
          refine ⟨_, m4, ?_⟩
          rw [st3]
          simp only [e_M_text_51, e_M_text_52, e_M_text_55, e_M_text_57, e_M_text_58, e_M_text_60, e_M_text_63, e_M_text_65, is_93 h, rf_93_0 h, and_self, and_true, true_and, and_false, false_and, or_true, true_or, or_false, false_or, not_true_eq_false, not_false_eq_true, if_true, if_false, ne_eq, ite_self, reduceCtorEq, i10, Decidable.not_not, Bool.and_self, Bool.and_true, Bool.true_and, show h_ia S 94 0 7 = true from ia_94 h (show 7 < 1464 by decide), show (7 : Int32).toNatClampNeg = 7 from rfl, vu_n (show 94 ≠ 93 by decide), now4, e7, h14, show nI 14 = 14 from rfl]
        · have n14 : ¬ A 94 7 = 14 := by rw [e7, show (14 : Int32) = nI 14 from rfl, nI_eq' (by omega) (by decide)]; exact h14
          have ht : m < 14 := by omega
          have es : sp_text A = (nI m, va_up (va_up A 93 (upd (A 93) 9 0)) 94 (adS (A 94) m (kyS (A 101) n) D)) := by
            unfold sp_text
            rw [cn, er]
            simp only
            rw [if_neg n14, c7, e7]
          rw [es]
          have m5 := m4.up 94 (adS (A 94) m (kyS (A 101) n) D) (by decide)
          refine ⟨_, m5, ?_⟩
          have e2m : (2 : Int32) * nI m = nI (2 * m) := pk_mul 2 m
          have e92 : (92 : Int32) + nI (2 * m) = nI (92 + 2 * m) := nI_add 92 _
          have ek : (1000 : Int32) * nI (kyS (A 101) n) = nI (1000 * kyS (A 101) n) := pk_mul 1000 _
          have ekD : nI (1000 * kyS (A 101) n) + nI D.length = nI (1000 * kyS (A 101) n + D.length) := nI_add _ _
          have n14' : ¬ nI m = 14 := by rw [← e7]; exact n14
          obtain ⟨K, hK2⟩ : ∃ K : mI, K = va_up (va_up I4 93 (upd (I4 93) 9 0)) 94 (upd (upd (A 94) (92 + 2 * m) (nI (1000 * kyS (A 101) n + D.length))) (92 + 2 * m + 1) (nI (atm D))) := ⟨_, rfl⟩
          have st4 : rn Ls xs (d + 9) 54 51 [some (.inr (.inl (some 93))), some (.inl 1), none, none] [] (S, va_up I4 93 (upd (I4 93) 9 0), R) = rn Ls xs (d + 9) 54 117 [some (.inr (.inl (some 93))), some (.inl 1), some (.inl (nI m)), some (.inl (nI 0))] [] (S, K, R) := by
            rw [hK2]
            simp only [e_M_text_51, e_M_text_52, e_M_text_55, e_M_text_57, e_M_text_58, e_M_text_60, e_M_text_63, e_M_text_65, e_M_text_66, e_M_text_67, e_M_text_70, e_M_text_72, e_M_text_73, e_M_text_74, e_M_text_75, e_M_text_78, e_M_text_80, e_M_text_81, e_M_text_82, e_M_text_83, e_M_text_84, e_M_text_87, e_M_text_88, e_M_text_91, e_M_text_92, e_M_text_93, e_M_text_96, e_M_text_97, e_M_text_98, e_M_text_99, e_M_text_102, e_M_text_104, e_M_text_105, e_M_text_106, e_M_text_107, e_M_text_108, e_M_text_109, e_M_text_110, e_M_text_111, e_M_text_114, e_M_text_115, e_M_text_116, is_93 h, rf_93_0 h, and_self, and_true, true_and, and_false, false_and, or_true, true_or, or_false, false_or, not_true_eq_false, not_false_eq_true, if_true, if_false, ne_eq, ite_self, reduceCtorEq, i10, Decidable.not_not, Bool.and_self, Bool.and_true, Bool.true_and, show h_ia S 94 0 7 = true from ia_94 h (show 7 < 1464 by decide), show (7 : Int32).toNatClampNeg = 7 from rfl, vu_n (show 94 ≠ 93 by decide), vu_n (show 93 ≠ 94 by decide), now4, e7, n14', e2m, e92, vu_s, up_n (show 15 ≠ 9 by decide), up_n (show 19 ≠ 9 by decide), up_n (show 20 ≠ 9 by decide), q15, q19, q20, ek, ekD, nI_1, ia_94 h (show 92 + 2 * m < 1464 by omega), ia_94 h (show 92 + 2 * m + 1 < 1464 by omega), nI_clamp (show 92 + 2 * m < 2 ^ 31 by omega), nI_clamp (show 92 + 2 * m + 1 < 2 ^ 31 by omega), vu_vu, show nI 0 = 0 from rfl]
          have l := l_text (Ls := Ls) (xs := xs) (d := d + 9) (l1 := some (.inl 1)) h ht hD D.length 0 K (by omega) (by rw [hK2, vu_n (by decide), vu_s, up_n (by decide)]; exact q19) (fun k hk => by rw [hK2, vu_n (by decide), vu_n (by decide)]; exact q104 k hk)
          rw [st3, st4, l]
          obtain ⟨K2, hK3⟩ : ∃ K2 : mI, K2 = va_up K 94 (fun i => if 120 + 96 * m + 0 ≤ i ∧ i < 120 + 96 * m + D.length then D.getD (i - (120 + 96 * m)) 0 else K 94 i) := ⟨_, rfl⟩
          rw [← hK3]
          have k7 : K2 94 7 = nI m := by
            rw [hK3, vu_s]
            show (if 120 + 96 * m + 0 ≤ 7 ∧ 7 < 120 + 96 * m + D.length then _ else K 94 7) = _
            rw [if_neg (by omega), hK2, vu_s, up_n (by omega), up_n (by omega), e7]
          have efin : va_up K2 94 (upd (K2 94) 7 (nI (m + 1))) = va_up (va_up I4 93 (upd (I4 93) 9 0)) 94 (adS (A 94) m (kyS (A 101) n) D) := by
            have e94 : upd (K2 94) 7 (nI (m + 1)) = adS (A 94) m (kyS (A 101) n) D := by
              funext q
              unfold adS
              by_cases z7 : q = 7
              · subst z7; rw [up_s, if_pos rfl]
              · rw [up_n z7, if_neg z7, hK3, vu_s]
                show (if 120 + 96 * m + 0 ≤ q ∧ q < 120 + 96 * m + D.length then _ else K 94 q) = _
                by_cases zc : 120 + 96 * m ≤ q ∧ q < 120 + 96 * m + D.length
                · rw [if_pos (by omega), if_neg (by omega), if_neg (by omega), if_pos zc]
                · rw [if_neg (by omega), hK2, vu_s]
                  by_cases z2 : q = 92 + 2 * m + 1
                  · subst z2; rw [up_s, if_neg (by omega), if_pos rfl]
                  · rw [up_n z2]
                    by_cases z1 : q = 92 + 2 * m
                    · subst z1; rw [up_s, if_pos rfl]
                    · rw [up_n z1, if_neg z1, if_neg z2, if_neg zc]
            rw [e94, hK3, vu_vu, hK2, vu_vu]
          simp only [e_M_text_151, e_M_text_152, e_M_text_155, e_M_text_157, e_M_text_158, e_M_text_159, e_M_text_160, e_M_text_161, e_M_text_162, e_M_text_163, is_93 h, rf_93_0 h, and_self, and_true, true_and, and_false, false_and, or_true, true_or, or_false, false_or, not_true_eq_false, not_false_eq_true, if_true, if_false, ne_eq, ite_self, reduceCtorEq, i10, Decidable.not_not, Bool.and_self, Bool.and_true, Bool.true_and, show h_ia S 94 0 7 = true from ia_94 h (show 7 < 1464 by decide), show (7 : Int32).toNatClampNeg = 7 from rfl, k7, nI_1, efin]
      · rw [if_neg c3] at er
        exact bad er ((z2 j D hx).1 c3)
end MTX

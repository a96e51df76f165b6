/-! TEXTS: the reference goes to the next word -/
def TPM (I : mI) (T : Nat → Int32) (n : Nat) : Prop := I 93 9 = nI n ∧ n ≤ 96 ∧ ∀ k, k < n → I 101 k = T k
/-- what is known of 'ended' before the word i -/
def EP (I : mI) (T : Nat → Int32) (n i : Nat) : Prop := ((tS T n i).2 ≠ 0 → I 93 14 = nI (tS T n i).1) ∧ ((tS T n i).2 = 0 → I 93 14 = -1 ∨ ∃ m, m < (tS T n i).1 ∧ I 93 14 = nI m)
def tkn (T : Nat → Int32) (n i : Nat) : Nat := if tC T n i = 3 then 0 else if tC T n i = 2 then (if tG T n i ∨ 4 < tB T n i - tA T n i then 4 else 2) else if tC T n i = 1 then (if tG T n i then 4 else 1) else 3
/-- the reference stands at the word i -/
def MTk (I : mI) (T : Nat → Int32) (n i : Nat) : Prop := I 93 10 = nI (tB T n i) ∧ I 93 11 = nI (tA T n i) ∧ I 93 12 = nI (tkn T n i) ∧ ((tC T n i = 0 ∨ tC T n i = 1) → I 93 13 = T (tA T n i)) ∧ (tC T n i = 2 → tB T n i - tA T n i ≤ 4 → I 93 13 = nvS T (tA T n i) (tB T n i - tA T n i))
def MG (I I2 : mI) : Prop := (∀ b, b ≠ 93 → I2 b = I b) ∧ ∀ k, (k < 10 ∨ 14 < k) → I2 93 k = I 93 k
section MGO
variable {Ls : Nat} {xs : Nat → Int32} {d : Nat} {S : mS} {I I2 I3 : mI} {R : mR} {x y z : Int32} {T : Nat → Int32} {n i : Nat}
theorem MG.rfl' : MG I I := ⟨fun _ _ => rfl, fun _ _ => rfl⟩
theorem MG.trans' (h : MG I I2) (h2 : MG I2 I3) : MG I I3 := ⟨fun b hb => (h2.1 b hb).trans (h.1 b hb), fun k hk => (h2.2 k hk).trans (h.2 k hk)⟩
theorem MG.up {k : Nat} {x : Int32} (h : MG I I2) (hk : 10 ≤ k ∧ k ≤ 14) : MG I (va_up I2 93 (upd (I2 93) k x)) := ⟨fun b hb => by rw [vu_n hb]; exact h.1 b hb, fun j hj => by rw [vu_s, up_n (by omega)]; exact h.2 j hj⟩
theorem TPM.mg (h : TPM I T n) (hf : MG I I2) : TPM I2 T n := by
  unfold TPM
  rw [hf.2 9 (by omega), hf.1 101 (by decide)]
  exact h
theorem k_isL (h : WF S R) (hT : TPM I T n) {k : Nat} (hk : k < 2 ^ 31) : rn Ls xs d 199 0 [some (.inr (.inl (some 93))), some (.inl (nI k))] [] (S, I, R) = some (some (.inl (if k < n ∧ so (T k) = 1 then 1 else 0)), (S, I, R)) := by
  obtain ⟨t1', t2', t3'⟩ := hT
  by_cases hn : k < n
  · have nle : ¬ nI n ≤ nI k := by rw [nI_le' (by omega) hk]; omega
    have e1 : ∀ {c : Int32}, (so c = 1) = (97 ≤ c ∧ c ≤ 122) := by
      intro c
      unfold so
      by_cases q : 97 ≤ c ∧ c ≤ 122
      · simp [q]
      · rw [if_neg q]
        by_cases q2 : 48 ≤ c ∧ c ≤ 57
        · simp [q, q2]
        · simp [q, q2]
    simp only [e1]
    by_cases h1 : T k < 97
    · have n1 : ¬ (97 ≤ T k ∧ T k ≤ 122) := fun q => absurd h1 (i_nlt.mpr q.1)
      simp only [e_M_isLetter_0, e_M_isLetter_1, e_M_isLetter_2, e_M_isLetter_5, e_M_isLetter_8, e_M_isLetter_9, e_M_isLetter_12, e_M_isLetter_13, e_M_isLetter_14, e_M_isLetter_16, e_M_isLetter_19, e_M_isLetter_20, e_M_isLetter_23, e_M_isLetter_24, e_M_isLetter_25, e_M_isLetter_27, e_M_isLetter_30, e_M_isLetter_31, e_M_isLetter_34, e_M_isLetter_35, is_93 h, rf_93_8 h, and_self, and_true, true_and, and_false, false_and, or_true, true_or, or_false, false_or, not_true_eq_false, not_false_eq_true, if_true, if_false, ne_eq, ite_self, reduceCtorEq, i10, Decidable.not_not, Bool.and_self, Bool.and_true, Bool.true_and, t1', nle, ia_101 h (show k < 96 by omega), nI_clamp hk, t3' k hn, h1, n1, bo_0]
    · by_cases h2 : (122 : Int32) < T k
      · have n1 : ¬ (97 ≤ T k ∧ T k ≤ 122) := fun q => absurd h2 (i_nlt.mpr q.2)
        simp only [e_M_isLetter_0, e_M_isLetter_1, e_M_isLetter_2, e_M_isLetter_5, e_M_isLetter_8, e_M_isLetter_9, e_M_isLetter_12, e_M_isLetter_13, e_M_isLetter_14, e_M_isLetter_16, e_M_isLetter_19, e_M_isLetter_20, e_M_isLetter_23, e_M_isLetter_24, e_M_isLetter_25, e_M_isLetter_27, e_M_isLetter_30, e_M_isLetter_31, e_M_isLetter_34, e_M_isLetter_35, is_93 h, rf_93_8 h, and_self, and_true, true_and, and_false, false_and, or_true, true_or, or_false, false_or, not_true_eq_false, not_false_eq_true, if_true, if_false, ne_eq, ite_self, reduceCtorEq, i10, Decidable.not_not, Bool.and_self, Bool.and_true, Bool.true_and, t1', nle, ia_101 h (show k < 96 by omega), nI_clamp hk, t3' k hn, h1, h2, n1, bo_0]
      · simp only [e_M_isLetter_0, e_M_isLetter_1, e_M_isLetter_2, e_M_isLetter_5, e_M_isLetter_8, e_M_isLetter_9, e_M_isLetter_12, e_M_isLetter_13, e_M_isLetter_14, e_M_isLetter_16, e_M_isLetter_19, e_M_isLetter_20, e_M_isLetter_23, e_M_isLetter_24, e_M_isLetter_25, e_M_isLetter_27, e_M_isLetter_30, e_M_isLetter_31, e_M_isLetter_34, e_M_isLetter_35, is_93 h, rf_93_8 h, and_self, and_true, true_and, and_false, false_and, or_true, true_or, or_false, false_or, not_true_eq_false, not_false_eq_true, if_true, if_false, ne_eq, ite_self, reduceCtorEq, i10, Decidable.not_not, Bool.and_self, Bool.and_true, Bool.true_and, t1', nle, ia_101 h (show k < 96 by omega), nI_clamp hk, t3' k hn, h1, h2, hn, i_nlt.mp h1, i_nlt.mp h2, bo_1]
  · have le : nI n ≤ nI k := nI_le (by omega) hk
    simp only [e_M_isLetter_0, e_M_isLetter_1, e_M_isLetter_2, e_M_isLetter_5, e_M_isLetter_8, e_M_isLetter_9, e_M_isLetter_12, e_M_isLetter_13, e_M_isLetter_14, e_M_isLetter_16, e_M_isLetter_19, e_M_isLetter_20, e_M_isLetter_23, e_M_isLetter_24, e_M_isLetter_25, e_M_isLetter_27, e_M_isLetter_30, e_M_isLetter_31, e_M_isLetter_34, e_M_isLetter_35, is_93 h, and_self, and_true, true_and, and_false, false_and, or_true, true_or, or_false, false_or, not_true_eq_false, not_false_eq_true, if_true, if_false, ne_eq, ite_self, reduceCtorEq, i10, Decidable.not_not, Bool.and_self, Bool.and_true, Bool.true_and, t1', le, hn, bo_0]
theorem k_isF (h : WF S R) (hT : TPM I T n) {k : Nat} (hk : k < 2 ^ 31) : rn Ls xs d 200 0 [some (.inr (.inl (some 93))), some (.inl (nI k))] [] (S, I, R) = some (some (.inl (if k < n ∧ so (T k) = 2 then 1 else 0)), (S, I, R)) := by
  obtain ⟨t1', t2', t3'⟩ := hT
  by_cases hn : k < n
  · have nle : ¬ nI n ≤ nI k := by rw [nI_le' (by omega) hk]; omega
    have e1 : ∀ {c : Int32}, (so c = 2) = (48 ≤ c ∧ c ≤ 57) := by
      intro c
      unfold so
      by_cases q : 97 ≤ c ∧ c ≤ 122
      · rw [if_pos q]
        have : ¬ (48 ≤ c ∧ c ≤ 57) := by
          intro q2
          have a1 := q.1
          have a2 := q2.2
          rw [i_le] at a1 a2
          have z1 : Int32.toInt 97 = 97 := rfl
          have z2 : Int32.toInt 57 = 57 := rfl
          omega
        simp [this]
      · rw [if_neg q]
        by_cases q2 : 48 ≤ c ∧ c ≤ 57
        · simp [q2]
        · simp [q2]
    simp only [e1]
    by_cases h1 : T k < 48
    · have n1 : ¬ (48 ≤ T k ∧ T k ≤ 57) := fun q => absurd h1 (i_nlt.mpr q.1)
      simp only [e_M_isFigure_0, e_M_isFigure_1, e_M_isFigure_2, e_M_isFigure_5, e_M_isFigure_8, e_M_isFigure_9, e_M_isFigure_12, e_M_isFigure_13, e_M_isFigure_14, e_M_isFigure_16, e_M_isFigure_19, e_M_isFigure_20, e_M_isFigure_23, e_M_isFigure_24, e_M_isFigure_25, e_M_isFigure_27, e_M_isFigure_30, e_M_isFigure_31, e_M_isFigure_34, e_M_isFigure_35, is_93 h, rf_93_8 h, and_self, and_true, true_and, and_false, false_and, or_true, true_or, or_false, false_or, not_true_eq_false, not_false_eq_true, if_true, if_false, ne_eq, ite_self, reduceCtorEq, i10, Decidable.not_not, Bool.and_self, Bool.and_true, Bool.true_and, t1', nle, ia_101 h (show k < 96 by omega), nI_clamp hk, t3' k hn, h1, n1, bo_0]
    · by_cases h2 : (57 : Int32) < T k
      · have n1 : ¬ (48 ≤ T k ∧ T k ≤ 57) := fun q => absurd h2 (i_nlt.mpr q.2)
        simp only [e_M_isFigure_0, e_M_isFigure_1, e_M_isFigure_2, e_M_isFigure_5, e_M_isFigure_8, e_M_isFigure_9, e_M_isFigure_12, e_M_isFigure_13, e_M_isFigure_14, e_M_isFigure_16, e_M_isFigure_19, e_M_isFigure_20, e_M_isFigure_23, e_M_isFigure_24, e_M_isFigure_25, e_M_isFigure_27, e_M_isFigure_30, e_M_isFigure_31, e_M_isFigure_34, e_M_isFigure_35, is_93 h, rf_93_8 h, and_self, and_true, true_and, and_false, false_and, or_true, true_or, or_false, false_or, not_true_eq_false, not_false_eq_true, if_true, if_false, ne_eq, ite_self, reduceCtorEq, i10, Decidable.not_not, Bool.and_self, Bool.and_true, Bool.true_and, t1', nle, ia_101 h (show k < 96 by omega), nI_clamp hk, t3' k hn, h1, h2, n1, bo_0]
      · simp only [e_M_isFigure_0, e_M_isFigure_1, e_M_isFigure_2, e_M_isFigure_5, e_M_isFigure_8, e_M_isFigure_9, e_M_isFigure_12, e_M_isFigure_13, e_M_isFigure_14, e_M_isFigure_16, e_M_isFigure_19, e_M_isFigure_20, e_M_isFigure_23, e_M_isFigure_24, e_M_isFigure_25, e_M_isFigure_27, e_M_isFigure_30, e_M_isFigure_31, e_M_isFigure_34, e_M_isFigure_35, is_93 h, rf_93_8 h, and_self, and_true, true_and, and_false, false_and, or_true, true_or, or_false, false_or, not_true_eq_false, not_false_eq_true, if_true, if_false, ne_eq, ite_self, reduceCtorEq, i10, Decidable.not_not, Bool.and_self, Bool.and_true, Bool.true_and, t1', nle, ia_101 h (show k < 96 by omega), nI_clamp hk, t3' k hn, h1, h2, hn, i_nlt.mp h1, i_nlt.mp h2, bo_1]
  · have le : nI n ≤ nI k := nI_le (by omega) hk
    simp only [e_M_isFigure_0, e_M_isFigure_1, e_M_isFigure_2, e_M_isFigure_5, e_M_isFigure_8, e_M_isFigure_9, e_M_isFigure_12, e_M_isFigure_13, e_M_isFigure_14, e_M_isFigure_16, e_M_isFigure_19, e_M_isFigure_20, e_M_isFigure_23, e_M_isFigure_24, e_M_isFigure_25, e_M_isFigure_27, e_M_isFigure_30, e_M_isFigure_31, e_M_isFigure_34, e_M_isFigure_35, is_93 h, and_self, and_true, true_and, and_false, false_and, or_true, true_or, or_false, false_or, not_true_eq_false, not_false_eq_true, if_true, if_false, ne_eq, ite_self, reduceCtorEq, i10, Decidable.not_not, Bool.and_self, Bool.and_true, Bool.true_and, t1', le, hn, bo_0]
theorem l_go1 (h : WF S R) {l1 : Option mV} : ∀ (j k : Nat) (I : mI), k + j = n → TPM I T n → I 93 10 = nI k → rn Ls xs d 157 0 [some (.inr (.inl (some 93))), l1] [] (S, I, R) = rn Ls xs d 157 38 [some (.inr (.inl (some 93))), l1] [] (S, va_up I 93 (upd (I 93) 10 (nI (spS T j k))), R) := by
  intro j
  induction j with
  | zero =>
    intro k I hk hT e
    obtain ⟨t1', t2', t3'⟩ := hT
    have : k = n := by omega
    subst this
    rw [show spS T 0 k = k from rfl, upd_id' e, vu_id, e_M_go_0]
    simp only [e_M_go_1, e_M_go_4, e_M_go_5, e_M_go_8, is_93 h, e, t1', nI_le' (show k < 2 ^ 31 by omega) (show k < 2 ^ 31 by omega), Nat.le_refl, if_true]
  | succ j ih =>
    intro k I hk hT e
    obtain ⟨t1', t2', t3'⟩ := id hT
    rw [e_M_go_0]
    by_cases hs : T k = 32
    · have ih1 := ih (k + 1) (va_up I 93 (upd (I 93) 10 (nI (k + 1)))) (by omega) (hT.mg (MG.rfl'.up (by omega))) (by rw [vu_s, up_s])
      rw [vu_s, vu_vu, uu] at ih1
      rw [show spS T (j + 1) k = spS T j (k + 1) by rw [spS, if_pos hs], ← ih1]
      simp only [e_M_go_1, e_M_go_4, e_M_go_5, e_M_go_8, e_M_go_11, e_M_go_12, e_M_go_15, e_M_go_16, e_M_go_19, e_M_go_20, e_M_go_22, e_M_go_25, e_M_go_26, e_M_go_27, e_M_go_30, e_M_go_31, e_M_go_32, e_M_go_35, is_93 h, rf_93_8 h, e, t1', nI_le' (show n < 2 ^ 31 by omega) (show k < 2 ^ 31 by omega), show ¬ n ≤ k by omega, and_self, and_true, true_and, and_false, false_and, or_true, true_or, or_false, false_or, not_true_eq_false, not_false_eq_true, if_true, if_false, ne_eq, ite_self, reduceCtorEq, i10, Decidable.not_not, Bool.and_self, Bool.and_true, Bool.true_and, ia_101 h (show k < 96 by omega), nI_clamp (show k < 2 ^ 31 by omega), t3' k (by omega), hs, nI_1]
    · rw [show spS T (j + 1) k = k by rw [spS, if_neg hs], upd_id' e, vu_id]
      simp only [e_M_go_1, e_M_go_4, e_M_go_5, e_M_go_8, e_M_go_11, e_M_go_12, e_M_go_15, e_M_go_16, e_M_go_19, e_M_go_20, e_M_go_22, is_93 h, rf_93_8 h, e, t1', nI_le' (show n < 2 ^ 31 by omega) (show k < 2 ^ 31 by omega), show ¬ n ≤ k by omega, and_self, and_true, true_and, and_false, false_and, or_true, true_or, or_false, false_or, not_true_eq_false, not_false_eq_true, if_true, if_false, ne_eq, ite_self, reduceCtorEq, i10, Decidable.not_not, Bool.and_self, Bool.and_true, Bool.true_and, ia_101 h (show k < 96 by omega), nI_clamp (show k < 2 ^ 31 by omega), t3' k (by omega), hs]
theorem l_go2 (h : WF S R) {l1 : Option mV} : ∀ (j k : Nat) (I : mI), k + j = n → TPM I T n → I 93 10 = nI k → rn Ls xs (d + 1) 157 93 [some (.inr (.inl (some 93))), l1] [] (S, I, R) = rn Ls xs (d + 1) 157 117 [some (.inr (.inl (some 93))), l1] [] (S, va_up I 93 (upd (I 93) 10 (nI (wdS T 1 j k))), R) := by
  intro j
  induction j with
  | zero =>
    intro k I hk hT e
    have t2' := hT.2.1
    have : k = n := by omega
    subst this
    have kl := k_isL (Ls := Ls) (xs := xs) (d := d) h hT (show k < 2 ^ 31 by omega)
    rw [if_neg (by omega)] at kl
    rw [show wdS T 1 0 k = k from rfl, upd_id' e, vu_id, e_M_go_93]
    simp only [e_M_go_94, e_M_go_95, e_M_go_98, e_M_go_101, is_93 h, e, and_self, and_true, true_and, and_false, false_and, or_true, true_or, or_false, false_or, not_true_eq_false, not_false_eq_true, if_true, if_false, ne_eq, ite_self, reduceCtorEq, i10, Decidable.not_not, Bool.and_self, Bool.and_true, Bool.true_and, kl, rb_i]
  | succ j ih =>
    intro k I hk hT e
    have t2' := hT.2.1
    have kl := k_isL (Ls := Ls) (xs := xs) (d := d) h hT (show k < 2 ^ 31 by omega)
    rw [e_M_go_93]
    by_cases hs : so (T k) = 1
    · rw [if_pos ⟨by omega, hs⟩] at kl
      have ih1 := ih (k + 1) (va_up I 93 (upd (I 93) 10 (nI (k + 1)))) (by omega) (hT.mg (MG.rfl'.up (by omega))) (by rw [vu_s, up_s])
      rw [vu_s, vu_vu, uu] at ih1
      rw [show wdS T 1 (j + 1) k = wdS T 1 j (k + 1) by rw [wdS, if_pos hs], ← ih1]
      simp only [e_M_go_94, e_M_go_95, e_M_go_98, e_M_go_101, e_M_go_104, e_M_go_105, e_M_go_106, e_M_go_109, e_M_go_110, e_M_go_111, e_M_go_114, is_93 h, e, and_self, and_true, true_and, and_false, false_and, or_true, true_or, or_false, false_or, not_true_eq_false, not_false_eq_true, if_true, if_false, ne_eq, ite_self, reduceCtorEq, i10, Decidable.not_not, Bool.and_self, Bool.and_true, Bool.true_and, kl, rb_i, t1, nI_1]
    · rw [if_neg (fun q => hs q.2)] at kl
      rw [show wdS T 1 (j + 1) k = k by rw [wdS, if_neg hs], upd_id' e, vu_id]
      simp only [e_M_go_94, e_M_go_95, e_M_go_98, e_M_go_101, is_93 h, e, and_self, and_true, true_and, and_false, false_and, or_true, true_or, or_false, false_or, not_true_eq_false, not_false_eq_true, if_true, if_false, ne_eq, ite_self, reduceCtorEq, i10, Decidable.not_not, Bool.and_self, Bool.and_true, Bool.true_and, kl, rb_i]
theorem l_go3 (h : WF S R) {l1 : Option mV} {a : Nat} : ∀ (j k : Nat) (I : mI), a + k + j = n → TPM I T n → I 93 10 = nI (a + k) → I 93 11 = nI a → I 93 13 = nvS T a (min k 4) → ∃ I2, I2 = va_up I 93 (upd (upd (I 93) 13 (nvS T a (min (wdS T 2 j (a + k) - a) 4))) 10 (nI (wdS T 2 j (a + k)))) ∧ rn Ls xs (d + 1) 157 170 [some (.inr (.inl (some 93))), l1] [] (S, I, R) = rn Ls xs (d + 1) 157 238 [some (.inr (.inl (some 93))), l1] [] (S, I2, R) := by
  intro j
  induction j with
  | zero =>
    intro k I hk hT e e11 e13
    have t2' := hT.2.1
    have : n = a + k := by omega
    subst this
    have kl := k_isF (Ls := Ls) (xs := xs) (d := d) h hT (show a + k < 2 ^ 31 by omega)
    rw [if_neg (by omega)] at kl
    refine ⟨_, rfl, ?_⟩
    have eu : upd (upd (I 93) 13 (nvS T a (min (wdS T 2 0 (a + k) - a) 4))) 10 (nI (wdS T 2 0 (a + k))) = I 93 := by
      rw [show wdS T 2 0 (a + k) = a + k from rfl, show a + k - a = k by omega, upd_id' e13, upd_id' e]
    rw [eu, vu_id, e_M_go_170]
    simp only [e_M_go_171, e_M_go_172, e_M_go_175, e_M_go_178, is_93 h, e, and_self, and_true, true_and, and_false, false_and, or_true, true_or, or_false, false_or, not_true_eq_false, not_false_eq_true, if_true, if_false, ne_eq, ite_self, reduceCtorEq, i10, Decidable.not_not, Bool.and_self, Bool.and_true, Bool.true_and, kl, rb_i]
  | succ j ih =>
    intro k I hk hT e e11 e13
    have t2' := hT.2.1
    obtain ⟨t1', -, t3'⟩ := id hT
    have kl := k_isF (Ls := Ls) (xs := xs) (d := d) h hT (show a + k < 2 ^ 31 by omega)
    refine ⟨_, rfl, ?_⟩
    rw [e_M_go_170]
    by_cases hs : so (T (a + k)) = 2
    · rw [if_pos ⟨by omega, hs⟩] at kl
      have ev : ∃ v, v = nvS T a (min (k + 1) 4) ∧ v = if k < 4 then 10 * nvS T a k + T (a + k) - 48 else nvS T a 4 := by
        refine ⟨_, rfl, ?_⟩
        by_cases q : k < 4
        · rw [if_pos q, Nat.min_eq_left (by omega)]; rfl
        · rw [if_neg q, Nat.min_eq_right (by omega)]
      obtain ⟨v, ev1, ev2⟩ := ev
      obtain ⟨I2, hI2, r2⟩ := ih (k + 1) (va_up I 93 (upd (upd (I 93) 13 v) 10 (nI (a + (k + 1))))) (by omega) (hT.mg (by
        have := (MG.rfl' (I := I)).up (k := 13) (x := v) (by omega)
        have := this.up (k := 10) (x := nI (a + (k + 1))) (by omega)
        rw [vu_s, vu_vu] at this
        exact this)) (by rw [vu_s, up_s]) (by rw [vu_s, up_n (by decide), up_n (by decide)]; exact e11) (by rw [vu_s, up_n (by decide), up_s]; exact ev1)
      have ew : wdS T 2 (j + 1) (a + k) = wdS T 2 j (a + (k + 1)) := by rw [wdS, if_pos hs]; rfl
      have en : va_up I 93 (upd (upd (I 93) 13 (nvS T a (min (wdS T 2 j (a + (k + 1)) - a) 4))) 10 (nI (wdS T 2 j (a + (k + 1))))) = I2 := by
        rw [hI2, vu_s, vu_vu]
        congr 1
        funext q
        unfold upd
        by_cases q1 : q = 10
        · rw [if_pos q1, if_pos q1]
        · rw [if_neg q1, if_neg q1]
          by_cases q2 : q = 13
          · rw [if_pos q2, if_pos q2]
          · rw [if_neg q2, if_neg q2, if_neg q1, if_neg q2]
      have es : nI (a + k) - nI a = nI k := by rw [pk_sub (by omega)]; congr 1; omega
      rw [ew, en, ← r2, ev2]
      by_cases q : k < 4
      · have nle : ¬ (4 : Int32) ≤ nI k := by rw [show (4 : Int32) = nI 4 from rfl, nI_le' (by decide) (by omega)]; omega
        rw [Nat.min_eq_left (by omega)] at e13
        simp only [e_M_go_171, e_M_go_172, e_M_go_175, e_M_go_178, e_M_go_181, e_M_go_182, e_M_go_183, e_M_go_186, e_M_go_187, e_M_go_190, e_M_go_191, e_M_go_192, e_M_go_195, e_M_go_197, e_M_go_198, e_M_go_201, e_M_go_202, e_M_go_203, e_M_go_206, e_M_go_207, e_M_go_210, e_M_go_211, e_M_go_212, e_M_go_214, e_M_go_215, e_M_go_218, e_M_go_219, e_M_go_222, e_M_go_225, e_M_go_226, e_M_go_227, e_M_go_230, e_M_go_231, e_M_go_232, e_M_go_235, is_93 h, rf_93_8 h, e, e11, e13, and_self, and_true, true_and, and_false, false_and, or_true, true_or, or_false, false_or, not_true_eq_false, not_false_eq_true, if_true, if_false, ne_eq, ite_self, reduceCtorEq, i10, Decidable.not_not, Bool.and_self, Bool.and_true, Bool.true_and, kl, rb_i, t1, es, nle, ia_101 h (show a + k < 96 by omega), nI_clamp (show a + k < 2 ^ 31 by omega), t3' (a + k) (by omega), q, vu_s, vu_vu, up_n (show 10 ≠ 13 by decide), nI_1]
        rfl
      · have le : (4 : Int32) ≤ nI k := nI_le (a := 4) (by omega) (by omega)
        rw [Nat.min_eq_right (by omega)] at e13
        simp only [e_M_go_171, e_M_go_172, e_M_go_175, e_M_go_178, e_M_go_181, e_M_go_182, e_M_go_183, e_M_go_186, e_M_go_187, e_M_go_190, e_M_go_191, e_M_go_192, e_M_go_195, e_M_go_197, e_M_go_198, e_M_go_201, e_M_go_202, e_M_go_203, e_M_go_206, e_M_go_207, e_M_go_210, e_M_go_211, e_M_go_212, e_M_go_214, e_M_go_215, e_M_go_218, e_M_go_219, e_M_go_222, e_M_go_225, e_M_go_226, e_M_go_227, e_M_go_230, e_M_go_231, e_M_go_232, e_M_go_235, is_93 h, e, e11, e13, and_self, and_true, true_and, and_false, false_and, or_true, true_or, or_false, false_or, not_true_eq_false, not_false_eq_true, if_true, if_false, ne_eq, ite_self, reduceCtorEq, i10, Decidable.not_not, Bool.and_self, Bool.and_true, Bool.true_and, kl, rb_i, t1, es, le, q, vu_s, vu_vu, up_n (show 10 ≠ 13 by decide), nI_1]
        rfl
    · rw [if_neg (fun q => hs q.2)] at kl
      have eu : upd (upd (I 93) 13 (nvS T a (min (wdS T 2 (j + 1) (a + k) - a) 4))) 10 (nI (wdS T 2 (j + 1) (a + k))) = I 93 := by
        rw [show wdS T 2 (j + 1) (a + k) = a + k by rw [wdS, if_neg hs], show a + k - a = k by omega, upd_id' e13, upd_id' e]
      rw [eu, vu_id]
      simp only [e_M_go_171, e_M_go_172, e_M_go_175, e_M_go_178, is_93 h, e, and_self, and_true, true_and, and_false, false_and, or_true, true_or, or_false, false_or, not_true_eq_false, not_false_eq_true, if_true, if_false, ne_eq, ite_self, reduceCtorEq, i10, Decidable.not_not, Bool.and_self, Bool.and_true, Bool.true_and, kl, rb_i]
end MGO

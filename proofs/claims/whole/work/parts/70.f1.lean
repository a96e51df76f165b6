/-! TEXTS: the words of the tape; the class's step -/
def so (b : Int32) : Nat := if 97 ≤ b ∧ b ≤ 122 then 1 else if 48 ≤ b ∧ b ≤ 57 then 2 else 0
theorem so_le (b : Int32) : so b ≤ 2 := by
  unfold so
  split
  · omega
  · split <;> omega
def spS (T : Nat → Int32) : Nat → Nat → Nat
  | 0, k => k
  | j + 1, k => if T k = 32 then spS T j (k + 1) else k
def wdS (T : Nat → Int32) (s : Nat) : Nat → Nat → Nat
  | 0, k => k
  | j + 1, k => if so (T k) = s then wdS T s j (k + 1) else k
theorem spS_b (T : Nat → Int32) : ∀ j k, k ≤ spS T j k ∧ spS T j k ≤ k + j
  | 0, k => by unfold spS; omega
  | j + 1, k => by
    have := spS_b T j (k + 1)
    unfold spS
    split <;> omega
theorem wdS_b (T : Nat → Int32) (s : Nat) : ∀ j k, k ≤ wdS T s j k ∧ wdS T s j k ≤ k + j
  | 0, k => by unfold wdS; omega
  | j + 1, k => by
    have := wdS_b T s j (k + 1)
    unfold wdS
    split <;> omega
def lA (T : Nat → Int32) (n e : Nat) : Nat := spS T (n - e) e
def lC (T : Nat → Int32) (n a : Nat) : Nat := if a < n then so (T a) else 3
def lB (T : Nat → Int32) (n a : Nat) : Nat := if lC T n a = 0 then a + 1 else if lC T n a = 3 then n else wdS T (lC T n a) (n - (a + 1)) (a + 1)
/-- before the word i: where the one before ends, its sort -/
def tS (T : Nat → Int32) (n : Nat) : Nat → Nat × Nat
  | 0 => (0, 0)
  | i + 1 => (lB T n (lA T n (tS T n i).1), lC T n (lA T n (tS T n i).1))
def tA (T : Nat → Int32) (n i : Nat) : Nat := lA T n (tS T n i).1
def tB (T : Nat → Int32) (n i : Nat) : Nat := (tS T n (i + 1)).1
def tC (T : Nat → Int32) (n i : Nat) : Nat := (tS T n (i + 1)).2
abbrev tG (T : Nat → Int32) (n i : Nat) : Prop := (tS T n i).2 ≠ 0 ∧ tC T n i ≠ 0 ∧ tA T n i = (tS T n i).1
section TOK
variable {T : Nat → Int32} {n : Nat}
theorem lC_le (a : Nat) : lC T n a ≤ 3 := by
  unfold lC
  split
  · have := so_le (T a); omega
  · omega
theorem lC_3 {a : Nat} : lC T n a = 3 ↔ n ≤ a := by
  unfold lC
  split
  · have := so_le (T a); omega
  · omega
theorem lB_b {a : Nat} (h : a ≤ n) : a ≤ lB T n a ∧ lB T n a ≤ n ∧ (lC T n a ≠ 3 → a < lB T n a) := by
  have h3 := lC_3 (T := T) (n := n) (a := a)
  unfold lB
  split
  · omega
  · split
    · omega
    · have := wdS_b T (lC T n a) (n - (a + 1)) (a + 1)
      omega
theorem tS_le : ∀ i, (tS T n i).1 ≤ n
  | 0 => Nat.zero_le _
  | i + 1 => by
    have h1 := tS_le i
    have h2 := spS_b T (n - (tS T n i).1) (tS T n i).1
    exact (lB_b (T := T) (n := n) (a := lA T n (tS T n i).1) (by unfold lA; omega)).2.1
theorem tA_b (i : Nat) : (tS T n i).1 ≤ tA T n i ∧ tA T n i ≤ n := by
  have h1 := tS_le (T := T) (n := n) i
  have h2 := spS_b T (n - (tS T n i).1) (tS T n i).1
  unfold tA lA
  omega
theorem tB_b (i : Nat) : tA T n i ≤ tB T n i ∧ tB T n i ≤ n ∧ (tC T n i ≠ 3 → tA T n i < tB T n i) := lB_b (tA_b i).2
theorem tC_le (i : Nat) : tC T n i ≤ 3 := lC_le _
theorem tC_3 {i : Nat} : tC T n i = 3 ↔ n ≤ tA T n i := lC_3
theorem tC_n {i : Nat} (h : tC T n i ≠ 3) : i ≤ tA T n i ∧ tA T n i < n := by
  have key : ∀ i, tC T n i ≠ 3 → i < tB T n i := by
    intro i
    induction i with
    | zero =>
      intro h
      have := (tB_b (T := T) (n := n) 0).2.2 h
      omega
    | succ i ih =>
      intro h
      have h1 := (tB_b (T := T) (n := n) (i + 1)).2.2 h
      have h2 := (tA_b (T := T) (n := n) (i + 1)).1
      have h3 : (tS T n (i + 1)).1 = tB T n i := rfl
      by_cases h4 : tC T n i = 3
      · have h5 := tC_3.mp h4
        have h6 := (tB_b (T := T) (n := n) i).1
        have h7 := mt tC_3.mpr h
        omega
      · have := ih h4
        omega
  have h7 := mt tC_3.mpr h
  refine ⟨?_, by omega⟩
  cases i with
  | zero => omega
  | succ i =>
    have h2 := (tA_b (T := T) (n := n) (i + 1)).1
    have h3 : (tS T n (i + 1)).1 = tB T n i := rfl
    by_cases h4 : tC T n i = 3
    · have h5 := tC_3.mp h4
      have h6 := (tB_b (T := T) (n := n) i).1
      omega
    · have := key i h4
      omega
end TOK
/-- the tape in the class's heap -/
def TPR (I : mI) (T : Nat → Int32) (n : Nat) : Prop := I 58 1 = nI n ∧ n ≤ 96 ∧ ∀ k, k < n → I 59 k = T k
/-- the reader stands at the word i -/
def RT (I : mI) (T : Nat → Int32) (n i : Nat) : Prop := I 60 5 = nI (tC T n i) ∧ I 60 6 = nI (tA T n i) ∧ I 60 7 = nI (tB T n i) ∧ I 60 8 = if tG T n i then 1 else 0
section RST
variable {Ls : Nat} {xs : Nat → Int32} {d : Nat} {S : mS} {I I2 I3 : mI} {R R2 R3 : mR} {x y z u v : Int32} {H : mH} {T : Nat → Int32} {n : Nat}
theorem TPR.up (h : TPR I T n) (f : Nat → Int32) {b : Nat} (h1 : b ≠ 58) (h2 : b ≠ 59) : TPR (va_up I b f) T n := by
  unfold TPR
  rw [vu_n (Ne.symm h1), vu_n (Ne.symm h2)]
  exact h
theorem k_R_sortOf : rn Ls xs d 210 0 [some (.inl x)] [] H = some (some (.inl (nI (so x))), H) := by
  unfold so
  by_cases h1 : x < 97
  · have n1 : ¬ (97 ≤ x ∧ x ≤ 122) := fun q => absurd h1 (i_nlt.mpr q.1)
    by_cases h2 : x < 48
    · have n2 : ¬ (48 ≤ x ∧ x ≤ 57) := fun q => absurd h2 (i_nlt.mpr q.1)
      simp only [e_R_sortOf_0, e_R_sortOf_1, e_R_sortOf_3, e_R_sortOf_6, e_R_sortOf_7, e_R_sortOf_9, e_R_sortOf_12, e_R_sortOf_13, e_R_sortOf_14, e_R_sortOf_15, e_R_sortOf_17, e_R_sortOf_20, e_R_sortOf_21, e_R_sortOf_23, e_R_sortOf_26, e_R_sortOf_27, e_R_sortOf_30, e_R_sortOf_31, h1, h2, n1, n2, and_self, and_true, true_and, and_false, false_and, or_true, true_or, or_false, false_or, not_true_eq_false, not_false_eq_true, if_true, if_false, ne_eq, ite_self, reduceCtorEq, i10, Decidable.not_not, Bool.and_self, Bool.and_true, Bool.true_and, show nI 0 = 0 from rfl]
    · by_cases h3 : (57 : Int32) < x
      · have n2 : ¬ (48 ≤ x ∧ x ≤ 57) := fun q => absurd h3 (i_nlt.mpr q.2)
        simp only [e_R_sortOf_0, e_R_sortOf_1, e_R_sortOf_3, e_R_sortOf_6, e_R_sortOf_7, e_R_sortOf_9, e_R_sortOf_12, e_R_sortOf_13, e_R_sortOf_14, e_R_sortOf_15, e_R_sortOf_17, e_R_sortOf_20, e_R_sortOf_21, e_R_sortOf_23, e_R_sortOf_26, e_R_sortOf_27, e_R_sortOf_30, e_R_sortOf_31, h1, h2, h3, n1, n2, and_self, and_true, true_and, and_false, false_and, or_true, true_or, or_false, false_or, not_true_eq_false, not_false_eq_true, if_true, if_false, ne_eq, ite_self, reduceCtorEq, i10, Decidable.not_not, Bool.and_self, Bool.and_true, Bool.true_and, show nI 0 = 0 from rfl]
      · simp only [e_R_sortOf_0, e_R_sortOf_1, e_R_sortOf_3, e_R_sortOf_6, e_R_sortOf_7, e_R_sortOf_9, e_R_sortOf_12, e_R_sortOf_13, e_R_sortOf_14, e_R_sortOf_15, e_R_sortOf_17, e_R_sortOf_20, e_R_sortOf_21, e_R_sortOf_23, e_R_sortOf_26, e_R_sortOf_27, e_R_sortOf_30, e_R_sortOf_31, h1, h2, h3, n1, i_nlt.mp h2, i_nlt.mp h3, and_self, and_true, true_and, and_false, false_and, or_true, true_or, or_false, false_or, not_true_eq_false, not_false_eq_true, if_true, if_false, ne_eq, ite_self, reduceCtorEq, i10, Decidable.not_not, Bool.and_self, Bool.and_true, Bool.true_and, show nI 2 = 2 from rfl]
  · by_cases h2 : (122 : Int32) < x
    · have n1 : ¬ (97 ≤ x ∧ x ≤ 122) := fun q => absurd h2 (i_nlt.mpr q.2)
      have h3 : ¬ x < 48 := by
        rw [i_lt] at h2 ⊢
        have z : Int32.toInt 48 = 48 := rfl
        have z2 : Int32.toInt 122 = 122 := rfl
        omega
      have h4 : (57 : Int32) < x := by
        rw [i_lt] at h2 ⊢
        have z : Int32.toInt 57 = 57 := rfl
        have z2 : Int32.toInt 122 = 122 := rfl
        omega
      have n2 : ¬ (48 ≤ x ∧ x ≤ 57) := fun q => absurd h4 (i_nlt.mpr q.2)
      simp only [e_R_sortOf_0, e_R_sortOf_1, e_R_sortOf_3, e_R_sortOf_6, e_R_sortOf_7, e_R_sortOf_9, e_R_sortOf_12, e_R_sortOf_13, e_R_sortOf_14, e_R_sortOf_15, e_R_sortOf_17, e_R_sortOf_20, e_R_sortOf_21, e_R_sortOf_23, e_R_sortOf_26, e_R_sortOf_27, e_R_sortOf_30, e_R_sortOf_31, h1, h2, h3, h4, n1, n2, and_self, and_true, true_and, and_false, false_and, or_true, true_or, or_false, false_or, not_true_eq_false, not_false_eq_true, if_true, if_false, ne_eq, ite_self, reduceCtorEq, i10, Decidable.not_not, Bool.and_self, Bool.and_true, Bool.true_and, show nI 0 = 0 from rfl]
    · simp only [e_R_sortOf_0, e_R_sortOf_1, e_R_sortOf_3, e_R_sortOf_6, e_R_sortOf_7, e_R_sortOf_9, e_R_sortOf_12, e_R_sortOf_13, e_R_sortOf_14, e_R_sortOf_15, e_R_sortOf_17, e_R_sortOf_20, e_R_sortOf_21, e_R_sortOf_23, e_R_sortOf_26, e_R_sortOf_27, e_R_sortOf_30, e_R_sortOf_31, h1, h2, i_nlt.mp h1, i_nlt.mp h2, and_self, and_true, true_and, and_false, false_and, or_true, true_or, or_false, false_or, not_true_eq_false, not_false_eq_true, if_true, if_false, ne_eq, ite_self, reduceCtorEq, i10, Decidable.not_not, Bool.and_self, Bool.and_true, Bool.true_and, show nI 1 = 1 from rfl]
theorem upd_id' {f : Nat → Int32} {k : Nat} {x : Int32} (h : f k = x) : upd f k x = f := by subst h; exact upd_id
theorem l_R_step1 (h : WF S R) {l1 l2 : Option mV} : ∀ (j k : Nat) (I : mI), k + j = n → TPR I T n → I 60 6 = nI k → rn Ls xs d 193 31 [some (.inr (.inl (some 60))), l1, l2] [] (S, I, R) = rn Ls xs d 193 75 [some (.inr (.inl (some 60))), l1, l2] [] (S, va_up I 60 (upd (I 60) 6 (nI (spS T j k))), R) := by
  intro j
  induction j with
  | zero =>
    intro k I hk hT e
    obtain ⟨t1', t2', t3'⟩ := hT
    have : k = n := by omega
    subst this
    rw [show spS T 0 k = k from rfl, upd_id' e, vu_id, e_R_step_31]
    simp only [e_R_step_32, e_R_step_35, e_R_step_36, e_R_step_39, e_R_step_42, is_60 h, rf_60_0 h, is_58 h, e, t1', nI_le' (show k < 2 ^ 31 by omega) (show k < 2 ^ 31 by omega), Nat.le_refl, if_true]
  | succ j ih =>
    intro k I hk hT e
    obtain ⟨t1', t2', t3'⟩ := id hT
    rw [e_R_step_31]
    by_cases hs : T k = 32
    · have ih1 := ih (k + 1) (va_up I 60 (upd (I 60) 6 (nI (k + 1)))) (by omega) (hT.up _ (by decide) (by decide)) (by rw [vu_s, up_s])
      rw [vu_s, vu_vu, uu] at ih1
      rw [show spS T (j + 1) k = spS T j (k + 1) by rw [spS, if_pos hs], ← ih1]
      simp only [e_R_step_32, e_R_step_35, e_R_step_36, e_R_step_39, e_R_step_42, e_R_step_45, e_R_step_46, e_R_step_49, e_R_step_52, e_R_step_53, e_R_step_56, e_R_step_57, e_R_step_59, e_R_step_62, e_R_step_63, e_R_step_64, e_R_step_67, e_R_step_68, e_R_step_69, e_R_step_72, is_60 h, rf_60_0 h, is_58 h, rf_58_0 h, e, t1', nI_le' (show n < 2 ^ 31 by omega) (show k < 2 ^ 31 by omega), show ¬ n ≤ k by omega, and_self, and_true, true_and, and_false, false_and, or_true, true_or, or_false, false_or, not_true_eq_false, not_false_eq_true, if_true, if_false, ne_eq, ite_self, reduceCtorEq, i10, Decidable.not_not, Bool.and_self, Bool.and_true, Bool.true_and, ia_59 h (show k < 96 by omega), nI_clamp (show k < 2 ^ 31 by omega), t3' k (by omega), hs, nI_1]
    · rw [show spS T (j + 1) k = k by rw [spS, if_neg hs], upd_id' e, vu_id]
      simp only [e_R_step_32, e_R_step_35, e_R_step_36, e_R_step_39, e_R_step_42, e_R_step_45, e_R_step_46, e_R_step_49, e_R_step_52, e_R_step_53, e_R_step_56, e_R_step_57, e_R_step_59, is_60 h, rf_60_0 h, is_58 h, rf_58_0 h, e, t1', nI_le' (show n < 2 ^ 31 by omega) (show k < 2 ^ 31 by omega), show ¬ n ≤ k by omega, and_self, and_true, true_and, and_false, false_and, or_true, true_or, or_false, false_or, not_true_eq_false, not_false_eq_true, if_true, if_false, ne_eq, ite_self, reduceCtorEq, i10, Decidable.not_not, Bool.and_self, Bool.and_true, Bool.true_and, ia_59 h (show k < 96 by omega), nI_clamp (show k < 2 ^ 31 by omega), t3' k (by omega), hs]
theorem l_R_step2 (h : WF S R) {l1 l2 : Option mV} {s : Nat} (hs0 : s ≠ 0) (hs3 : s ≤ 3) : ∀ (j k : Nat) (I : mI), k + j = n → TPR I T n → I 60 7 = nI k → I 60 5 = nI s → rn Ls xs (d + 1) 193 132 [some (.inr (.inl (some 60))), l1, l2] [] (S, I, R) = rn Ls xs (d + 1) 193 188 [some (.inr (.inl (some 60))), l1, l2] [] (S, va_up I 60 (upd (I 60) 7 (nI (wdS T s j k))), R) := by
  have s0 : ¬ nI s = 0 := nI_ne0 (by omega) (by omega)
  intro j
  induction j with
  | zero =>
    intro k I hk hT e e5
    obtain ⟨t1', t2', t3'⟩ := hT
    have : k = n := by omega
    subst this
    rw [show wdS T s 0 k = k from rfl, upd_id' e, vu_id, e_R_step_132]
    simp only [e_R_step_133, e_R_step_136, e_R_step_139, e_R_step_140, e_R_step_143, e_R_step_144, e_R_step_147, e_R_step_150, is_60 h, rf_60_0 h, is_58 h, e, e5, s0, t1', nI_le' (show k < 2 ^ 31 by omega) (show k < 2 ^ 31 by omega), Nat.le_refl, and_self, and_true, true_and, and_false, false_and, or_true, true_or, or_false, false_or, not_true_eq_false, not_false_eq_true, if_true, if_false, ne_eq, ite_self, reduceCtorEq, i10, Decidable.not_not, Bool.and_self, Bool.and_true, Bool.true_and]
  | succ j ih =>
    intro k I hk hT e e5
    obtain ⟨t1', t2', t3'⟩ := id hT
    have sl := so_le (T k)
    rw [e_R_step_132]
    by_cases hs : so (T k) = s
    · have ih1 := ih (k + 1) (va_up I 60 (upd (I 60) 7 (nI (k + 1)))) (by omega) (hT.up _ (by decide) (by decide)) (by rw [vu_s, up_s]) (by rw [vu_s, up_n (by decide)]; exact e5)
      rw [vu_s, vu_vu, uu] at ih1
      rw [show wdS T s (j + 1) k = wdS T s j (k + 1) by rw [wdS, if_pos hs], ← ih1]
      simp only [e_R_step_133, e_R_step_136, e_R_step_139, e_R_step_140, e_R_step_143, e_R_step_144, e_R_step_147, e_R_step_150, e_R_step_153, e_R_step_154, e_R_step_157, e_R_step_160, e_R_step_161, e_R_step_164, e_R_step_165, e_R_step_168, e_R_step_169, e_R_step_172, e_R_step_175, e_R_step_176, e_R_step_177, e_R_step_180, e_R_step_181, e_R_step_182, e_R_step_185, is_60 h, rf_60_0 h, is_58 h, rf_58_0 h, e, e5, s0, t1', nI_le' (show n < 2 ^ 31 by omega) (show k < 2 ^ 31 by omega), show ¬ n ≤ k by omega, and_self, and_true, true_and, and_false, false_and, or_true, true_or, or_false, false_or, not_true_eq_false, not_false_eq_true, if_true, if_false, ne_eq, ite_self, reduceCtorEq, i10, Decidable.not_not, Bool.and_self, Bool.and_true, Bool.true_and, ia_59 h (show k < 96 by omega), nI_clamp (show k < 2 ^ 31 by omega), t3' k (by omega), k_R_sortOf, rb_i, hs, nI_1]
    · have ns : ¬ nI (so (T k)) = nI s := by rw [nI_eq' (by omega) (by omega)]; exact hs
      rw [show wdS T s (j + 1) k = k by rw [wdS, if_neg hs], upd_id' e, vu_id]
      simp only [e_R_step_133, e_R_step_136, e_R_step_139, e_R_step_140, e_R_step_143, e_R_step_144, e_R_step_147, e_R_step_150, e_R_step_153, e_R_step_154, e_R_step_157, e_R_step_160, e_R_step_161, e_R_step_164, e_R_step_165, e_R_step_168, e_R_step_169, e_R_step_172, is_60 h, rf_60_0 h, is_58 h, rf_58_0 h, e, e5, s0, t1', nI_le' (show n < 2 ^ 31 by omega) (show k < 2 ^ 31 by omega), show ¬ n ≤ k by omega, and_self, and_true, true_and, and_false, false_and, or_true, true_or, or_false, false_or, not_true_eq_false, not_false_eq_true, if_true, if_false, ne_eq, ite_self, reduceCtorEq, i10, Decidable.not_not, Bool.and_self, Bool.and_true, Bool.true_and, ia_59 h (show k < 96 by omega), nI_clamp (show k < 2 ^ 31 by omega), t3' k (by omega), k_R_sortOf, rb_i, ns]
/-- the next word -/
theorem k_R_step (h : WF S R) {i : Nat} (hT : TPR I T n) (e7 : I 60 7 = nI (tS T n i).1) (e5 : I 60 5 = nI (tS T n i).2) (e9 : I 60 9 < 0) : ∃ I2, RT I2 T n i ∧ (I2 60 2 = I 60 2 ∧ I2 60 3 = I 60 3 ∧ I2 60 9 = I 60 9) ∧ (∀ b, b ≠ 60 → I2 b = I b) ∧ rn Ls xs (d + 2) 193 0 [some (.inr (.inl (some 60))), none, none] [] (S, I, R) = some (none, (S, I2, R)) := by
  obtain ⟨t1', t2', t3'⟩ := id hT
  have be := tS_le (T := T) (n := n) i
  have bA := tA_b (T := T) (n := n) i
  have bB := tB_b (T := T) (n := n) i
  have bC := tC_le (T := T) (n := n) i
  have b2 : (tS T n i).2 ≤ 3 := by cases i with
    | zero => exact Nat.zero_le _
    | succ i => exact tC_le i
  have hA : tA T n i = spS T (n - (tS T n i).1) (tS T n i).1 := rfl
  have hC : tC T n i = lC T n (tA T n i) := rfl
  have hB : tB T n i = lB T n (tA T n i) := rfl
  have w0 : ∀ {c : Int32}, c = nI (tS T n i).2 → ((if c = 0 then (0 : Int32) else 1) = if (tS T n i).2 ≠ 0 then 1 else 0) := by
    intro c hc
    subst hc
    by_cases q : (tS T n i).2 = 0
    · rw [q]; rfl
    · rw [if_neg (nI_ne0 (by omega) (by omega)), if_pos q]
  have st1 : rn Ls xs (d + 2) 193 0 [some (.inr (.inl (some 60))), none, none] [] (S, I, R) = rn Ls xs (d + 2) 193 31 [some (.inr (.inl (some 60))), some (.inl (nI (tS T n i).1)), some (.inl (if (tS T n i).2 ≠ 0 then 1 else 0))] [] (S, va_up I 60 (upd (I 60) 6 (nI (tS T n i).1)), R) := by
    by_cases q : (tS T n i).2 = 0
    · simp only [e_R_step_0, e_R_step_1, e_R_step_4, e_R_step_7, e_R_step_8, e_R_step_9, e_R_step_12, e_R_step_13, e_R_step_14, e_R_step_17, e_R_step_20, e_R_step_21, e_R_step_24, e_R_step_25, e_R_step_26, e_R_step_27, e_R_step_28, is_60 h, and_self, and_true, true_and, and_false, false_and, or_true, true_or, or_false, false_or, not_true_eq_false, not_false_eq_true, if_true, if_false, ne_eq, ite_self, reduceCtorEq, i10, Decidable.not_not, Bool.and_self, Bool.and_true, Bool.true_and, e9, e7, e5, q, show nI 0 = 0 from rfl]
    · simp only [e_R_step_0, e_R_step_1, e_R_step_4, e_R_step_7, e_R_step_8, e_R_step_9, e_R_step_12, e_R_step_13, e_R_step_14, e_R_step_17, e_R_step_20, e_R_step_21, e_R_step_24, e_R_step_25, e_R_step_26, e_R_step_27, e_R_step_28, is_60 h, and_self, and_true, true_and, and_false, false_and, or_true, true_or, or_false, false_or, not_true_eq_false, not_false_eq_true, if_true, if_false, ne_eq, ite_self, reduceCtorEq, i10, Decidable.not_not, Bool.and_self, Bool.and_true, Bool.true_and, e9, e7, e5, q, nI_ne0 (show 0 < (tS T n i).2 by omega) (show (tS T n i).2 < 2 ^ 31 by omega)]
  have l1 := l_R_step1 (Ls := Ls) (xs := xs) (d := d + 2) (l1 := some (.inl (nI (tS T n i).1))) (l2 := some (.inl (if (tS T n i).2 ≠ 0 then 1 else 0))) (T := T) (n := n) h (n - (tS T n i).1) (tS T n i).1 (va_up I 60 (upd (I 60) 6 (nI (tS T n i).1))) (by omega) (hT.up _ (by decide) (by decide)) (by rw [vu_s, up_s])
  rw [vu_s, vu_vu, uu, ← hA] at l1
  /- the sort and the first end -/
  obtain ⟨I3, hI3, r3⟩ : ∃ I3, I3 = va_up I 60 (upd (upd (upd (I 60) 6 (nI (tA T n i))) 5 (nI (tC T n i))) 7 (nI (min (tA T n i + 1) n))) ∧ rn Ls xs (d + 2) 193 75 [some (.inr (.inl (some 60))), some (.inl (nI (tS T n i).1)), some (.inl (if (tS T n i).2 ≠ 0 then 1 else 0))] [] (S, va_up I 60 (upd (I 60) 6 (nI (tA T n i))), R) = rn Ls xs (d + 2) 193 132 [some (.inr (.inl (some 60))), some (.inl (nI (tS T n i).1)), some (.inl (if (tS T n i).2 ≠ 0 then 1 else 0))] [] (S, I3, R) := by
    refine ⟨_, rfl, ?_⟩
    have em : miS (nI (tA T n i + 1)) (nI n) = nI (min (tA T n i + 1) n) := by
      unfold miS
      by_cases q : n < tA T n i + 1
      · rw [if_pos (by rw [nI_lt' (by omega) (by omega)]; exact q), Nat.min_eq_right (by omega)]
      · rw [if_neg (by rw [nI_lt' (by omega) (by omega)]; exact q), Nat.min_eq_left (by omega)]
    by_cases q : tA T n i < n
    · have ec : tC T n i = so (T (tA T n i)) := by rw [hC, lC, if_pos q]
      rw [ec]
      simp only [e_R_step_75, e_R_step_76, e_R_step_77, e_R_step_80, e_R_step_81, e_R_step_84, e_R_step_87, e_R_step_90, e_R_step_91, e_R_step_94, e_R_step_97, e_R_step_98, e_R_step_101, e_R_step_102, e_R_step_105, e_R_step_108, e_R_step_109, e_R_step_112, e_R_step_113, e_R_step_114, e_R_step_117, e_R_step_118, e_R_step_119, e_R_step_120, e_R_step_123, e_R_step_126, e_R_step_129, is_60 h, rf_60_0 h, is_58 h, rf_58_0 h, vu_s, up_s, up_n (show 6 ≠ 5 by decide), vu_n (show 58 ≠ 60 by decide), vu_n (show 59 ≠ 60 by decide), t1', nI_le' (show n < 2 ^ 31 by omega) (show tA T n i < 2 ^ 31 by omega), show ¬ n ≤ tA T n i by omega, and_self, and_true, true_and, and_false, false_and, or_true, true_or, or_false, false_or, not_true_eq_false, not_false_eq_true, if_true, if_false, ne_eq, ite_self, reduceCtorEq, i10, Decidable.not_not, Bool.and_self, Bool.and_true, Bool.true_and, ia_59 h (show tA T n i < 96 by omega), nI_clamp (show tA T n i < 2 ^ 31 by omega), t3' _ q, k_R_sortOf, rb_i, vu_vu, nI_1, k_J_min, em]
    · have ec : tC T n i = 3 := by rw [hC, lC, if_neg q]
      rw [ec]
      simp only [e_R_step_75, e_R_step_76, e_R_step_77, e_R_step_80, e_R_step_81, e_R_step_84, e_R_step_87, e_R_step_90, e_R_step_91, e_R_step_94, e_R_step_97, e_R_step_98, e_R_step_101, e_R_step_102, e_R_step_105, e_R_step_108, e_R_step_109, e_R_step_112, e_R_step_113, e_R_step_114, e_R_step_117, e_R_step_118, e_R_step_119, e_R_step_120, e_R_step_123, e_R_step_126, e_R_step_129, is_60 h, rf_60_0 h, is_58 h, rf_58_0 h, vu_s, up_s, up_n (show 6 ≠ 5 by decide), vu_n (show 58 ≠ 60 by decide), t1', nI_le' (show n < 2 ^ 31 by omega) (show tA T n i < 2 ^ 31 by omega), show n ≤ tA T n i by omega, and_self, and_true, true_and, and_false, false_and, or_true, true_or, or_false, false_or, not_true_eq_false, not_false_eq_true, if_true, if_false, ne_eq, ite_self, reduceCtorEq, i10, Decidable.not_not, Bool.and_self, Bool.and_true, Bool.true_and, rb_i, vu_vu, nI_1, k_J_min, em, show nI 3 = 3 from rfl]
  have T3 : TPR I3 T n := by rw [hI3]; exact hT.up _ (by decide) (by decide)
  have e65 : I3 60 5 = nI (tC T n i) := by rw [hI3, vu_s, up_n (by decide), up_s]
  have e67 : I3 60 7 = nI (min (tA T n i + 1) n) := by rw [hI3, vu_s, up_s]
  have st2 : rn Ls xs (d + 2) 193 132 [some (.inr (.inl (some 60))), some (.inl (nI (tS T n i).1)), some (.inl (if (tS T n i).2 ≠ 0 then 1 else 0))] [] (S, I3, R) = rn Ls xs (d + 2) 193 188 [some (.inr (.inl (some 60))), some (.inl (nI (tS T n i).1)), some (.inl (if (tS T n i).2 ≠ 0 then 1 else 0))] [] (S, va_up I3 60 (upd (I3 60) 7 (nI (tB T n i))), R) := by
    by_cases c0 : tC T n i = 0
    · have q : tA T n i < n := by have := mt tC_3.mpr (show tC T n i ≠ 3 by omega); omega
      have eb : tB T n i = min (tA T n i + 1) n := by rw [hB, lB, ← hC, if_pos c0]; omega
      rw [eb, upd_id' e67, vu_id, e_R_step_132]
      simp only [e_R_step_133, e_R_step_136, is_60 h, and_self, and_true, true_and, and_false, false_and, or_true, true_or, or_false, false_or, not_true_eq_false, not_false_eq_true, if_true, if_false, ne_eq, ite_self, reduceCtorEq, i10, Decidable.not_not, Bool.and_self, Bool.and_true, Bool.true_and, e65, c0, show nI 0 = 0 from rfl]
    · by_cases c3 : tC T n i = 3
      · have q := tC_3.mp c3
        have eb : tB T n i = min (tA T n i + 1) n := by rw [hB, lB, ← hC, if_neg c0, if_pos c3]; omega
        have l2 := l_R_step2 (Ls := Ls) (xs := xs) (d := d + 1) (l1 := some (.inl (nI (tS T n i).1))) (l2 := some (.inl (if (tS T n i).2 ≠ 0 then 1 else 0))) (T := T) (n := n) (s := tC T n i) h c0 bC 0 n I3 (by omega) T3 (by rw [e67]; congr 1; omega) e65
        rw [show wdS T (tC T n i) 0 n = n from rfl] at l2
        rw [l2, eb, Nat.min_eq_right (by omega)]
      · have q : tA T n i < n := by have := mt tC_3.mpr c3; omega
        have eb : tB T n i = wdS T (tC T n i) (n - (tA T n i + 1)) (tA T n i + 1) := by rw [hB, lB, ← hC, if_neg c0, if_neg c3]
        have l2 := l_R_step2 (Ls := Ls) (xs := xs) (d := d + 1) (l1 := some (.inl (nI (tS T n i).1))) (l2 := some (.inl (if (tS T n i).2 ≠ 0 then 1 else 0))) (T := T) (n := n) (s := tC T n i) h c0 bC (n - (tA T n i + 1)) (tA T n i + 1) I3 (by omega) T3 (by rw [e67, Nat.min_eq_left (by omega)]) e65
        rw [l2, eb]
  have gl : ∃ g, g = (if tG T n i then (1 : Int32) else 0) ∧ rn Ls xs (d + 2) 193 188 [some (.inr (.inl (some 60))), some (.inl (nI (tS T n i).1)), some (.inl (if (tS T n i).2 ≠ 0 then 1 else 0))] [] (S, va_up I3 60 (upd (I3 60) 7 (nI (tB T n i))), R) = some (none, (S, va_up I3 60 (upd (upd (I3 60) 7 (nI (tB T n i))) 8 g), R)) := by
    refine ⟨_, rfl, ?_⟩
    have e65' : upd (I3 60) 7 (nI (tB T n i)) 5 = nI (tC T n i) := by rw [up_n (by decide)]; exact e65
    have e66' : upd (I3 60) 7 (nI (tB T n i)) 6 = nI (tA T n i) := by rw [up_n (by decide), hI3, vu_s, up_n (by decide), up_n (by decide), up_s]
    by_cases q1 : (tS T n i).2 = 0
    · have ng : ¬ tG T n i := fun q => q.1 q1
      simp only [e_R_step_188, e_R_step_189, e_R_step_190, e_R_step_193, e_R_step_194, e_R_step_197, e_R_step_200, e_R_step_201, e_R_step_204, e_R_step_205, e_R_step_208, e_R_step_209, e_R_step_212, e_R_step_213, e_R_step_216, q1, and_self, and_true, true_and, and_false, false_and, or_true, true_or, or_false, false_or, not_true_eq_false, not_false_eq_true, if_true, if_false, ne_eq, ite_self, reduceCtorEq, i10, Decidable.not_not, Bool.and_self, Bool.and_true, Bool.true_and, is_60 h, vu_s, vu_vu, bo_0, ng]
    · by_cases q2 : tC T n i = 0
      · have ng : ¬ tG T n i := fun q => q.2.1 q2
        simp only [e_R_step_188, e_R_step_189, e_R_step_190, e_R_step_193, e_R_step_194, e_R_step_197, e_R_step_200, e_R_step_201, e_R_step_204, e_R_step_205, e_R_step_208, e_R_step_209, e_R_step_212, e_R_step_213, e_R_step_216, q1, t1, and_self, and_true, true_and, and_false, false_and, or_true, true_or, or_false, false_or, not_true_eq_false, not_false_eq_true, if_true, if_false, ne_eq, ite_self, reduceCtorEq, i10, Decidable.not_not, Bool.and_self, Bool.and_true, Bool.true_and, is_60 h, vu_s, vu_vu, e65', q2, show nI 0 = 0 from rfl, bo_0, ng]
      · have c0 : ¬ nI (tC T n i) = 0 := nI_ne0 (by omega) (by omega)
        by_cases q3 : tA T n i = (tS T n i).1
        · have yg : tG T n i := ⟨q1, q2, q3⟩
          have q3' : nI (tA T n i) = nI (tS T n i).1 := congrArg nI q3
          rw [if_pos yg]
          simp only [e_R_step_188, e_R_step_189, e_R_step_190, e_R_step_193, e_R_step_194, e_R_step_197, e_R_step_200, e_R_step_201, e_R_step_204, e_R_step_205, e_R_step_208, e_R_step_209, e_R_step_212, e_R_step_213, e_R_step_216, q1, t1, and_self, and_true, true_and, and_false, false_and, or_true, true_or, or_false, false_or, not_true_eq_false, not_false_eq_true, if_true, if_false, ne_eq, ite_self, reduceCtorEq, i10, Decidable.not_not, Bool.and_self, Bool.and_true, Bool.true_and, is_60 h, vu_s, vu_vu, e65', e66', c0, q3', bo_1]
        · have ng : ¬ tG T n i := fun q => q3 q.2.2
          have q3' : ¬ nI (tA T n i) = nI (tS T n i).1 := by rw [nI_eq' (by omega) (by omega)]; exact q3
          rw [if_neg ng]
          simp only [e_R_step_188, e_R_step_189, e_R_step_190, e_R_step_193, e_R_step_194, e_R_step_197, e_R_step_200, e_R_step_201, e_R_step_204, e_R_step_205, e_R_step_208, e_R_step_209, e_R_step_212, e_R_step_213, e_R_step_216, q1, t1, and_self, and_true, true_and, and_false, false_and, or_true, true_or, or_false, false_or, not_true_eq_false, not_false_eq_true, if_true, if_false, ne_eq, ite_self, reduceCtorEq, i10, Decidable.not_not, Bool.and_self, Bool.and_true, Bool.true_and, is_60 h, vu_s, vu_vu, e65', e66', c0, q3', bo_0]
  obtain ⟨g, hg, r4⟩ := gl
  refine ⟨va_up I3 60 (upd (upd (I3 60) 7 (nI (tB T n i))) 8 g), ⟨?_, ?_, ?_, ?_⟩, ⟨?_, ?_, ?_⟩, fun b hb => by rw [vu_n hb, hI3, vu_n hb], ?_⟩
  · rw [vu_s, up_n (by decide), up_n (by decide)]; exact e65
  · rw [vu_s, up_n (by decide), up_n (by decide), hI3, vu_s, up_n (by decide), up_n (by decide), up_s]
  · rw [vu_s, up_n (by decide), up_s]
  · rw [vu_s, up_s, hg]
  · rw [vu_s, up_n (by decide), up_n (by decide), hI3, vu_s, up_n (by decide), up_n (by decide), up_n (by decide)]
  · rw [vu_s, up_n (by decide), up_n (by decide), hI3, vu_s, up_n (by decide), up_n (by decide), up_n (by decide)]
  · rw [vu_s, up_n (by decide), up_n (by decide), hI3, vu_s, up_n (by decide), up_n (by decide), up_n (by decide)]
  · rw [st1, l1, r3, st2, r4]
end RST

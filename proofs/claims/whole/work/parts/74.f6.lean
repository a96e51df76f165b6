/-! TEXTS: numbers, names -/
theorem wd_all {T : Nat → Int32} {s : Nat} : ∀ (j k m : Nat), k ≤ m → m < wdS T s j k → so (T m) = s
  | 0, k, m, h1, h2 => by unfold wdS at h2; omega
  | j + 1, k, m, h1, h2 => by
    unfold wdS at h2
    split at h2
    · by_cases e : m = k
      · subst e; assumption
      · exact wd_all j (k + 1) m (by omega) h2
    · omega
theorem tok_all {T : Nat → Int32} {n i m : Nat} (h0 : tC T n i ≠ 0) (h3 : tC T n i ≠ 3) (h1 : tA T n i ≤ m) (h2 : m < tB T n i) : so (T m) = tC T n i := by
  have q : tA T n i < n := by have := mt tC_3.mpr h3; omega
  have hC : tC T n i = lC T n (tA T n i) := rfl
  have hB : tB T n i = lB T n (tA T n i) := rfl
  have ec : tC T n i = so (T (tA T n i)) := by rw [hC, lC, if_pos q]
  by_cases e : m = tA T n i
  · rw [e, ← ec]
  · rw [hB, lB, ← hC, if_neg h0, if_neg h3] at h2
    exact wd_all _ _ m (by omega) h2
theorem so_2 {b : Int32} (h : so b = 2) : ∃ v, v < 10 ∧ b = nI (48 + v) := by
  unfold so at h
  split at h
  · cases h
  · split at h
    · rename_i q
      obtain ⟨j, h1, h2, rfl⟩ := inN (a := 48) (b := 57) (by decide) q rfl rfl
      exact ⟨j - 48, by omega, by congr 1; omega⟩
    · cases h
theorem so_1 {b : Int32} (h : so b = 1) : ∃ v, v < 26 ∧ b = nI (97 + v) := by
  unfold so at h
  split at h
  · rename_i q
    obtain ⟨j, h1, h2, rfl⟩ := inN (a := 97) (b := 122) (by decide) q rfl rfl
    exact ⟨j - 97, by omega, by congr 1; omega⟩
  · split at h
    · cases h
    · cases h
theorem nv_b {T : Nat → Int32} {a : Nat} : ∀ (j : Nat), (∀ k, k < j → so (T (a + k)) = 2) → ∃ v, v < 10 ^ j ∧ nvS T a j = nI v
  | 0, _ => ⟨0, by decide, rfl⟩
  | j + 1, h => by
    obtain ⟨v, hv, ev⟩ := nv_b j (fun k hk => h k (by omega))
    obtain ⟨w, hw, ew⟩ := so_2 (h j (by omega))
    refine ⟨10 * v + w, by rw [Nat.pow_succ]; omega, ?_⟩
    show 10 * nvS T a j + T (a + j) - 48 = _
    rw [ev, ew, show (10 : Int32) * nI v = nI (10 * v) from pk_mul 10 v, nI_add, show nI (10 * v + (48 + w)) - 48 = nI (10 * v + (48 + w) - 48) from pk_sub (b := 48) (by omega)]
    congr 1
    omega
theorem ix_or {s : Nat} {c : Int32} : ∀ (j k : Nat), ixW s c j k = -1 ∨ ∃ m, k ≤ m ∧ m < k + j ∧ ixW s c j k = nI m
  | 0, _ => Or.inl rfl
  | j + 1, k => by
    unfold ixW
    split
    · exact Or.inr ⟨k, by omega, by omega, rfl⟩
    · rcases ix_or (s := s) (c := c) j (k + 1) with h | ⟨m, h1, h2, h3⟩
      · exact Or.inl h
      · exact Or.inr ⟨m, by omega, by omega, h3⟩
theorem nm_or {key : Nat} {c : Int32} (hk : key < 3) : nmW key c = -1 ∨ ∃ m, m < 3 ∧ (key ≠ 0 → m < 2) ∧ nmW key c = nI m := by
  have l : lW (11 + 2 * key) ≤ 3 ∧ (key ≠ 0 → lW (11 + 2 * key) ≤ 2) := by
    rcases (show key = 0 ∨ key = 1 ∨ key = 2 by omega) with rfl | rfl | rfl
    · exact ⟨by decide, by decide⟩
    · exact ⟨by decide, by decide⟩
    · exact ⟨by decide, by decide⟩
  rcases ix_or (s := 11 + 2 * key) (c := c) (lW (11 + 2 * key)) 0 with h | ⟨m, h1, h2, h3⟩
  · exact Or.inl h
  · exact Or.inr ⟨m, by omega, fun q => by have := l.2 q; omega, h3⟩
section RDN
variable {Ls : Nat} {xs : Nat → Int32} {e : Nat} {S : mS} {I I2 I3 : mI} {R R2 R3 : mR} {x y z u v : Int32} {H : mH} {T : Nat → Int32} {n s k i j key : Nat} {D : List Int32} {c : Int32}
/-- an operand is put behind -/
theorem s_atom (h : WF S R) (hs : RS I T n i D) (hD : D.length < 96) (hx : x = cvS c) (hc : ¬ c < 0) : ∃ I2, RS I2 T n i (D ++ [c]) ∧ Fr6 I I2 ∧ rn Ls xs e 214 0 [some (.inr (.inl (some 60))), some (.inl x)] [] (S, va_up I 60 (upd (I 60) 3 (nI (atm D + 1))), R) = some (none, (S, I2, R)) := by
  obtain ⟨h1, ⟨h2, h3, h4, h5⟩, h6, h7, h8, h9⟩ := hs
  have kp := k_put (Ls := Ls) (xs := xs) (e := e) (x := x) (I := va_up I 60 (upd (I 60) 3 (nI (atm D + 1)))) (R := R) h hD (by rw [vu_s, up_n (by decide)]; exact h7)
  obtain ⟨I2, hI2, kp⟩ : ∃ I2, I2 = va_up (va_up (va_up I 60 (upd (I 60) 3 (nI (atm D + 1)))) 61 (upd (I 61) D.length x)) 60 (upd (upd (I 60) 3 (nI (atm D + 1))) 2 (nI (D.length + 1))) ∧ rn Ls xs e 214 0 [some (.inr (.inl (some 60))), some (.inl x)] [] (S, va_up I 60 (upd (I 60) 3 (nI (atm D + 1))), R) = some (none, (S, I2, R)) := by
    refine ⟨_, rfl, ?_⟩
    rw [kp, vu_s, vu_n (show 61 ≠ 60 by decide)]
  have hf : Fr6 I I2 := fun b b1 b2 => by rw [hI2, vu_n b1, vu_n b2, vu_n b1]
  refine ⟨I2, ⟨h1.fr hf, ⟨?_, ?_, ?_, ?_⟩, ?_, ?_, ?_, fun k hk => ?_⟩, hf, kp⟩
  · rw [hI2, vu_s, up_n (by decide), up_n (by decide)]; exact h2
  · rw [hI2, vu_s, up_n (by decide), up_n (by decide)]; exact h3
  · rw [hI2, vu_s, up_n (by decide), up_n (by decide)]; exact h4
  · rw [hI2, vu_s, up_n (by decide), up_n (by decide)]; exact h5
  · rw [hI2, vu_s, up_n (by decide), up_n (by decide)]; exact h6
  · rw [hI2, vu_s, up_s, List.length_append]; rfl
  · rw [hI2, vu_s, up_n (by decide), up_s, atm_app]
    show _ = nI (atm D + ((if c < 0 then 0 else 1) + 0))
    rw [if_neg hc]
  · rw [List.length_append] at hk
    have hk : k < D.length + 1 := hk
    rw [hI2, vu_n (by decide), vu_s]
    by_cases ek : k = D.length
    · subst ek
      rw [up_s, ga_r, hx]
    · rw [up_n ek, ga_l (by omega)]
      exact h9 k (by omega)
theorem l_num (h : WF S R) (hT : TPR I T n) {a b : Nat} (e7 : I 60 7 = nI b) (hab : b ≤ n) : ∀ (j k : Nat), a + k + j = b → rn Ls xs e 218 25 [some (.inr (.inl (some 60))), some (.inl (nvS T a k)), some (.inl (nI (a + k)))] [] (S, I, R) = rn Ls xs e 218 57 [some (.inr (.inl (some 60))), some (.inl (nvS T a (b - a))), some (.inl (nI b))] [] (S, I, R) := by
  obtain ⟨t1', t2', t3'⟩ := hT
  intro j
  induction j with
  | zero =>
    intro k hk
    have e1 : a + k = b := by omega
    have e2 : b - a = k := by omega
    rw [e1, e2, e_R_readNumber_25]
    simp only [e_R_readNumber_26, e_R_readNumber_27, e_R_readNumber_30, is_60 h, and_self, and_true, true_and, and_false, false_and, or_true, true_or, or_false, false_or, not_true_eq_false, not_false_eq_true, if_true, if_false, ne_eq, ite_self, reduceCtorEq, i10, Decidable.not_not, Bool.and_self, Bool.and_true, Bool.true_and, e7, nI_le' (show b < 2 ^ 31 by omega) (show b < 2 ^ 31 by omega), Nat.le_refl]
  | succ j ih =>
    intro k hk
    rw [← ih (k + 1) (by omega), e_R_readNumber_25]
    simp only [e_R_readNumber_26, e_R_readNumber_27, e_R_readNumber_30, e_R_readNumber_33, e_R_readNumber_35, e_R_readNumber_36, e_R_readNumber_37, e_R_readNumber_38, e_R_readNumber_41, e_R_readNumber_44, e_R_readNumber_45, e_R_readNumber_46, e_R_readNumber_47, e_R_readNumber_49, e_R_readNumber_50, e_R_readNumber_51, e_R_readNumber_54, is_60 h, rf_60_0 h, is_58 h, rf_58_0 h, and_self, and_true, true_and, and_false, false_and, or_true, true_or, or_false, false_or, not_true_eq_false, not_false_eq_true, if_true, if_false, ne_eq, ite_self, reduceCtorEq, i10, Decidable.not_not, Bool.and_self, Bool.and_true, Bool.true_and, e7, nI_le' (show b < 2 ^ 31 by omega) (show a + k < 2 ^ 31 by omega), show ¬ b ≤ a + k by omega, ia_59 h (show a + k < 96 by omega), nI_clamp (show a + k < 2 ^ 31 by omega), t3' (a + k) (by omega), nI_1]
    rfl
theorem s_number (h : WF S R) (he : 3 ≤ e) (hs : RS I T n i D) (hD : D.length < 96) (c2 : tC T n i = 2) : (4 < tB T n i - tA T n i → ∃ I2, RF I2 T n i ∧ Fr6 I I2 ∧ rn Ls xs e 218 0 [some (.inr (.inl (some 60))), none, none] [] (S, I, R) = some (none, (S, I2, R))) ∧ (¬ 4 < tB T n i - tA T n i → ∃ I2, RS I2 T n (i + 1) (D ++ [nvS T (tA T n i) (tB T n i - tA T n i)]) ∧ Fr6 I I2 ∧ rn Ls xs e 218 0 [some (.inr (.inl (some 60))), none, none] [] (S, I, R) = some (none, (S, I2, R))) := by
  obtain ⟨d, rfl⟩ : ∃ d, e = d + 3 := ⟨e - 3, by omega⟩
  obtain ⟨h1, ⟨h2, h3, h4, h5⟩, h6, h7, h8, h9⟩ := id hs
  have bA := tA_b (T := T) (n := n) i
  have bB := tB_b (T := T) (n := n) i
  have t2' := h1.2.1
  have es : nI (tB T n i) - nI (tA T n i) = nI (tB T n i - tA T n i) := pk_sub bB.1
  refine ⟨fun q => ?_, fun q => ?_⟩
  · obtain ⟨I2, g1, g2, r⟩ := s_fail (Ls := Ls) (xs := xs) (e := d + 2) h hs (by omega)
    have nle : ¬ nI (tB T n i - tA T n i) ≤ 4 := by rw [show (4 : Int32) = nI 4 from rfl, nI_le' (by omega) (by decide)]; omega
    exact ⟨I2, g1, g2, by simp only [e_R_readNumber_0, e_R_readNumber_1, e_R_readNumber_4, e_R_readNumber_5, e_R_readNumber_8, e_R_readNumber_9, e_R_readNumber_10, e_R_readNumber_13, e_R_readNumber_14, e_R_readNumber_17, is_60 h, and_self, and_true, true_and, and_false, false_and, or_true, true_or, or_false, false_or, not_true_eq_false, not_false_eq_true, if_true, if_false, ne_eq, ite_self, reduceCtorEq, i10, Decidable.not_not, Bool.and_self, Bool.and_true, Bool.true_and, h4, h3, es, nle, r, rb_v]⟩
  · have le : nI (tB T n i - tA T n i) ≤ 4 := nI_le (b := 4) (by omega) (by decide)
    obtain ⟨w, hw, ew⟩ := nv_b (T := T) (a := tA T n i) (tB T n i - tA T n i) (fun k hk => by rw [tok_all (by omega) (by omega) (show tA T n i ≤ tA T n i + k by omega) (by omega)]; exact c2)
    have hp : 10 ^ (tB T n i - tA T n i) ≤ 10 ^ 4 := Nat.pow_le_pow_right (by decide) (by omega)
    have c0 : ¬ nvS T (tA T n i) (tB T n i - tA T n i) < 0 := by rw [ew]; exact nI_n0 (by omega)
    have c1 : nvS T (tA T n i) (tB T n i - tA T n i) < 10000 := by rw [ew, show (10000 : Int32) = nI 10000 from rfl, nI_lt' (by omega) (by decide)]; omega
    obtain ⟨I2, g1, g2, r⟩ := s_atom (Ls := Ls) (xs := xs) (e := d + 2) h hs hD (cv_num c0 c1).symm c0
    obtain ⟨I3, k1, k2, r3⟩ := s_step (Ls := Ls) (xs := xs) (e := d + 2) h (by omega) g1
    have l : rn Ls xs (d + 3) 218 25 [some (.inr (.inl (some 60))), some (.inl 0), some (.inl (nI (tA T n i)))] [] (S, I, R) = _ := l_num (Ls := Ls) (xs := xs) (e := d + 3) (T := T) (a := tA T n i) h h1 h4 bB.2.1 (tB T n i - tA T n i) 0 (by omega)
    refine ⟨I3, k1, g2.trans' k2, ?_⟩
    simp only [e_R_readNumber_0, e_R_readNumber_1, e_R_readNumber_4, e_R_readNumber_5, e_R_readNumber_8, e_R_readNumber_9, e_R_readNumber_10, e_R_readNumber_13, e_R_readNumber_14, e_R_readNumber_17, e_R_readNumber_18, e_R_readNumber_19, e_R_readNumber_20, e_R_readNumber_21, e_R_readNumber_24, is_60 h, and_self, and_true, true_and, and_false, false_and, or_true, true_or, or_false, false_or, not_true_eq_false, not_false_eq_true, if_true, if_false, ne_eq, ite_self, reduceCtorEq, i10, Decidable.not_not, Bool.and_self, Bool.and_true, Bool.true_and, h4, h3, es, le, l]
    simp only [e_R_readNumber_57, e_R_readNumber_58, e_R_readNumber_59, e_R_readNumber_62, e_R_readNumber_63, e_R_readNumber_64, e_R_readNumber_67, e_R_readNumber_68, e_R_readNumber_69, e_R_readNumber_72, e_R_readNumber_73, e_R_readNumber_76, is_60 h, and_self, and_true, true_and, and_false, false_and, or_true, true_or, or_false, false_or, not_true_eq_false, not_false_eq_true, if_true, if_false, ne_eq, ite_self, reduceCtorEq, i10, Decidable.not_not, Bool.and_self, Bool.and_true, Bool.true_and, h8, nI_1, r, rb_v, r3]
theorem s_name (h : WF S R) (he : 7 ≤ e) (hk : key < 3) (hr : R 60 4 = .inr (11 + 2 * key)) (hs : RS I T n i D) (hD : D.length < 96) (c1 : tC T n i = 1) : ((tB T n i - tA T n i ≠ 1 ∨ nmW key (T (tA T n i)) < 0) → ∃ I2, RF I2 T n i ∧ Fr6 I I2 ∧ rn Ls xs e 219 0 [some (.inr (.inl (some 60))), none] [] (S, I, R) = some (none, (S, I2, R))) ∧ (¬ (tB T n i - tA T n i ≠ 1 ∨ nmW key (T (tA T n i)) < 0) → ∃ I2, RS I2 T n (i + 1) (D ++ [10000 + nmW key (T (tA T n i))]) ∧ Fr6 I I2 ∧ rn Ls xs e 219 0 [some (.inr (.inl (some 60))), none] [] (S, I, R) = some (none, (S, I2, R))) := by
  obtain ⟨d, rfl⟩ : ∃ d, e = d + 5 := ⟨e - 5, by omega⟩
  obtain ⟨h1, ⟨h2, h3, h4, h5⟩, h6, h7, h8, h9⟩ := id hs
  obtain ⟨t1', t2', t3'⟩ := id h1
  have bA := tA_b (T := T) (n := n) i
  have bB := tB_b (T := T) (n := n) i
  have q : tA T n i < n := by have := mt tC_3.mpr (show tC T n i ≠ 3 by omega); omega
  have es : nI (tB T n i) - nI (tA T n i) = nI (tB T n i - tA T n i) := pk_sub bB.1
  have s1 : 10 ≤ 11 + 2 * key := by omega
  have s2 : 11 + 2 * key < 17 := by omega
  have l0 : 0 < lW (11 + 2 * key) := by
    rcases (show key = 0 ∨ key = 1 ∨ key = 2 by omega) with rfl | rfl | rfl <;> decide
  obtain ⟨v, hv, ev⟩ := so_1 ((tok_all (T := T) (n := n) (i := i) (by omega) (by omega) (Nat.le_refl _) (bB.2.2 (by omega))).trans c1)
  have ech : ((nI (97 + v)).toUInt32 % 65536).toInt32 = nI (97 + v) := by
    rw [pk_char, pk_tn (by omega), Nat.mod_eq_of_lt (by omega)]
  have ki := k_ix (Ls := Ls) (xs := xs) (d := d) (H := (S, I, R)) s1 s2 l0 hv
  have ki : rn Ls xs (d + 4) 224 0 [some (.inr (.inr (11 + 2 * key))), some (.inl (nI (97 + v)))] [] (S, I, R) = some (some (.inl (nmW key (nI (97 + v)))), (S, I, R)) := ki
  have failing : (tB T n i - tA T n i ≠ 1 ∨ nmW key (T (tA T n i)) < 0) → ∃ I2, RF I2 T n i ∧ Fr6 I I2 ∧ rn Ls xs (d + 5) 219 0 [some (.inr (.inl (some 60))), none] [] (S, I, R) = some (none, (S, I2, R)) := by
    intro hq
    obtain ⟨I2, g1, g2, r⟩ := s_fail (Ls := Ls) (xs := xs) (e := d + 4) h hs (by omega)
    refine ⟨I2, g1, g2, ?_⟩
    by_cases hl : tB T n i - tA T n i = 1
    · have hn : nmW key (T (tA T n i)) < 0 := by rcases hq with q | q; exact absurd hl q; exact q
      rw [ev] at hn
      simp only [e_R_readName_0, e_R_readName_1, e_R_readName_4, e_R_readName_5, e_R_readName_8, e_R_readName_9, e_R_readName_10, e_R_readName_13, e_R_readName_14, e_R_readName_17, e_R_readName_18, e_R_readName_21, e_R_readName_24, e_R_readName_25, e_R_readName_28, e_R_readName_29, e_R_readName_30, e_R_readName_33, e_R_readName_36, e_R_readName_37, e_R_readName_38, e_R_readName_39, e_R_readName_42, e_R_readName_43, e_R_readName_46, is_60 h, rf_60_0 h, is_58 h, rf_58_0 h, and_self, and_true, true_and, and_false, false_and, or_true, true_or, or_false, false_or, not_true_eq_false, not_false_eq_true, if_true, if_false, ne_eq, ite_self, reduceCtorEq, i10, Decidable.not_not, Bool.and_self, Bool.and_true, Bool.true_and, h4, h3, es, hl, show nI 1 = 1 from rfl, hr, ia_59 h (show tA T n i < 96 by omega), nI_clamp (show tA T n i < 2 ^ 31 by omega), t3' _ q, ev, ech, s1, s2, ki, rb_i, i_nle.mpr hn, r, rb_v]
    · have ne : ¬ nI (tB T n i - tA T n i) = 1 := by rw [show (1 : Int32) = nI 1 from rfl, nI_eq' (by omega) (by decide)]; exact hl
      simp only [e_R_readName_0, e_R_readName_1, e_R_readName_4, e_R_readName_5, e_R_readName_8, e_R_readName_9, e_R_readName_10, e_R_readName_13, e_R_readName_14, e_R_readName_17, e_R_readName_18, e_R_readName_21, e_R_readName_24, e_R_readName_25, e_R_readName_28, e_R_readName_29, e_R_readName_30, e_R_readName_33, e_R_readName_36, e_R_readName_37, e_R_readName_38, e_R_readName_39, e_R_readName_42, e_R_readName_43, e_R_readName_46, is_60 h, and_self, and_true, true_and, and_false, false_and, or_true, true_or, or_false, false_or, not_true_eq_false, not_false_eq_true, if_true, if_false, ne_eq, ite_self, reduceCtorEq, i10, Decidable.not_not, Bool.and_self, Bool.and_true, Bool.true_and, h4, h3, es, ne, show ¬ (0 : Int32) ≤ -1 by decide, r, rb_v]
  refine ⟨failing, fun hq => ?_⟩
  have hl : tB T n i - tA T n i = 1 := Classical.byContradiction (fun q => hq (Or.inl q))
  have hn : ¬ nmW key (T (tA T n i)) < 0 := fun q => hq (Or.inr q)
  rcases nm_or (key := key) (c := T (tA T n i)) hk with em | ⟨m, hm, -, em⟩
  · rw [em] at hn; exact absurd m1_lt hn
  · have e10 : (10000 : Int32) + nmW key (T (tA T n i)) = nI (10000 + m) := by rw [em]; exact nI_add 10000 m
    have c0 : ¬ nI (10000 + m) < 0 := nI_n0 (by omega)
    obtain ⟨I2, g1, g2, r⟩ := s_atom (Ls := Ls) (xs := xs) (e := d + 4) (c := nI (10000 + m)) h hs hD (cv_nam hm).symm c0
    obtain ⟨I3, k1, k2, r3⟩ := s_step (Ls := Ls) (xs := xs) (e := d + 4) h (by omega) g1
    rw [e10]
    refine ⟨I3, k1, g2.trans' k2, ?_⟩
    rw [ev] at em
    simp only [e_R_readName_0, e_R_readName_1, e_R_readName_4, e_R_readName_5, e_R_readName_8, e_R_readName_9, e_R_readName_10, e_R_readName_13, e_R_readName_14, e_R_readName_17, e_R_readName_18, e_R_readName_21, e_R_readName_24, e_R_readName_25, e_R_readName_28, e_R_readName_29, e_R_readName_30, e_R_readName_33, e_R_readName_36, e_R_readName_37, e_R_readName_38, e_R_readName_39, e_R_readName_42, e_R_readName_43, e_R_readName_46, e_R_readName_47, e_R_readName_48, e_R_readName_49, e_R_readName_52, e_R_readName_53, e_R_readName_54, e_R_readName_57, e_R_readName_58, e_R_readName_59, e_R_readName_60, e_R_readName_61, e_R_readName_64, e_R_readName_65, e_R_readName_68, is_60 h, rf_60_0 h, is_58 h, rf_58_0 h, and_self, and_true, true_and, and_false, false_and, or_true, true_or, or_false, false_or, not_true_eq_false, not_false_eq_true, if_true, if_false, ne_eq, ite_self, reduceCtorEq, i10, Decidable.not_not, Bool.and_self, Bool.and_true, Bool.true_and, h4, h3, es, hl, show nI 1 = 1 from rfl, hr, ia_59 h (show tA T n i < 96 by omega), nI_clamp (show tA T n i < 2 ^ 31 by omega), t3' _ q, ev, ech, s1, s2, ki, rb_i, em, nI_pos' (show m < 2 ^ 31 by omega), h8, nI_1, r, rb_v, r3]
end RDN

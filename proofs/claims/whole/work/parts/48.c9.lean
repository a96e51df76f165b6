/-! THE CLASS: foresight, choices and holes -/
section CTA
variable {Ls : Nat} {xs : Nat → Int32} {d : Nat} {S : mS} {I I2 I3 : mI} {R R2 R3 : mR} {x y z : Int32} {H : mH} {p q : Nat} {a : Nat → Int32}
theorem F37 (h : ∀ b, b ≠ 37 → I2 b = I b) : Ff I I2 R R := ⟨fun b hb => h b (by omega), fun _ _ => rfl⟩
theorem l_F_chooseSweep (hq : isP q) (hg : gd a) {t m n : Nat} (ht : t + m < 2 ^ 30) (hn : n ≤ 14) (e1 : a 1 = nI n) (e2 : a 2 = nI t) : ∀ (j w : Nat) (I : mI) (R : mR) (o : Option (Nat × Int32)), w + j = n → WF S R → SkR S I R q a → chR nI I o → ∃ I2 R2, Ff I I2 R R2 ∧ chR nI I2 (bsS a m w j o) ∧ rn Ls xs (d + 5) 136 6 [some (.inr (.inl (some 37))), some (.inr (.inl (some q))), some (.inl (nI m)), some (.inl (nI w))] [] (S, I, R) = some (none, (S, I2, R2)) := by
  have cn : cW (a 1) = n := by rw [e1, cW, nI_clamp (by omega)]
  intro j
  induction j with
  | zero =>
    intro w I R o hw h hs hc
    have : w = n := by omega
    subst this
    refine ⟨I, R, Ff.rfl', hc, ?_⟩
    rw [e_F_chooseSweep_6]
    simp only [e_F_chooseSweep_0, e_F_chooseSweep_1, e_F_chooseSweep_4, e_F_chooseSweep_5, e_F_chooseSweep_7, e_F_chooseSweep_8, e_F_chooseSweep_11, e_F_chooseSweep_14, e_F_chooseSweep_15, e_F_chooseSweep_18, e_F_chooseSweep_19, e_F_chooseSweep_20, e_F_chooseSweep_23, e_F_chooseSweep_26, e_F_chooseSweep_27, e_F_chooseSweep_30, e_F_chooseSweep_31, e_F_chooseSweep_34, e_F_chooseSweep_35, e_F_chooseSweep_38, e_F_chooseSweep_41, e_F_chooseSweep_42, e_F_chooseSweep_43, e_F_chooseSweep_44, e_F_chooseSweep_47, e_F_chooseSweep_48, e_F_chooseSweep_51, e_F_chooseSweep_52, e_F_chooseSweep_55, e_F_chooseSweep_56, e_F_chooseSweep_57, e_F_chooseSweep_58, e_F_chooseSweep_61, e_F_chooseSweep_64, e_F_chooseSweep_67, e_F_chooseSweep_70, e_F_chooseSweep_73, q_is h hq.q, hs.f3, e1, nI_le' (show w < 2 ^ 31 by omega) (show w < 2 ^ 31 by omega), Nat.le_refl, if_true]
  | succ j ih =>
    intro w I R o hw h hs hc
    have hw14 : w < 14 := by omega
    have w5 : I (q + 4 + w) 5 = a (8 + 6 * w + 5) := hs.2.1 w 5 (by omega) (by omega)
    by_cases hu : a (8 + 6 * w + 5) = 1
    · obtain ⟨I2, R2, s2, f2, g2, w2, r2⟩ := k_S_becomeAs (Ls := Ls) (xs := xs) (d := d + 3) h q38 hq.q hq.ne hs hg
      have s3 := s2.setW q38 hw14 (show 5 < 6 by decide) (x := 0)
      have hg3 : gd (upd a (8 + 6 * w + 5) 0) := gd_fld hg (by omega) (by decide) (Or.inl rfl)
      obtain ⟨I4, s4, f4, r4⟩ := k_S_passHours (Ls := Ls) (xs := xs) (d := d) w2 q38 ht s3 hg3 (by rw [up_n (by omega)]; exact e2)
      have c4 : chR nI I4 o := hc.fr (by rw [f4 37 (by omega), vu_n (by omega), f2 37 (by omega)])
      obtain ⟨I5, f5, c5, r5⟩ := k_F_chooseIfLess (Ls := Ls) (xs := xs) (d := d + 4) (x := hrsS (upd a (8 + 6 * w + 5) 0) m 4) w2 c4 (w := w) (nI_NN (by omega))
      have ff5 : Ff I I5 R R2 := ((((f2.ffr g2).up (b := 38 + 4 + w) (by omega) (by omega)).trans' f4.ff).trans' (F37 f5))
      obtain ⟨I6, R6, f6, c6, r6⟩ := ih (w + 1) I5 R2 _ (by omega) w2 (hs.ff hq (by omega) ff5) c5
      refine ⟨I6, R6, ff5.trans' f6, by unfold bsS; rw [if_pos hu]; exact c6, ?_⟩
      rw [e_F_chooseSweep_6, ← r6]
      simp only [e_F_chooseSweep_0, e_F_chooseSweep_1, e_F_chooseSweep_4, e_F_chooseSweep_5, e_F_chooseSweep_7, e_F_chooseSweep_8, e_F_chooseSweep_11, e_F_chooseSweep_14, e_F_chooseSweep_15, e_F_chooseSweep_18, e_F_chooseSweep_19, e_F_chooseSweep_20, e_F_chooseSweep_23, e_F_chooseSweep_26, e_F_chooseSweep_27, e_F_chooseSweep_30, e_F_chooseSweep_31, e_F_chooseSweep_34, e_F_chooseSweep_35, e_F_chooseSweep_38, e_F_chooseSweep_41, e_F_chooseSweep_42, e_F_chooseSweep_43, e_F_chooseSweep_44, e_F_chooseSweep_47, e_F_chooseSweep_48, e_F_chooseSweep_51, e_F_chooseSweep_52, e_F_chooseSweep_55, e_F_chooseSweep_56, e_F_chooseSweep_57, e_F_chooseSweep_58, e_F_chooseSweep_61, e_F_chooseSweep_64, e_F_chooseSweep_67, e_F_chooseSweep_70, e_F_chooseSweep_73, q_is h hq.q, hs.f3, e1, nI_le' (show n < 2 ^ 31 by omega) (show w < 2 ^ 31 by omega), show ¬ n ≤ w by omega, and_self, and_true, true_and, and_false, false_and, or_true, true_or, or_false, false_or, not_true_eq_false, not_false_eq_true, if_true, if_false, ne_eq, ite_self, reduceCtorEq, i10, Decidable.not_not, Bool.and_self, Bool.and_true, Bool.true_and, q_r0 h hq.q, q_ia1 h hq.q hw14, nI_clamp (show w < 2 ^ 31 by omega), q_w h hq.q hw14, q_wi h hq.q hw14, w5, hu, show ¬ (1 : Int32) = 0 by decide, is_37 h, rf_37_0 h, rf_37_0 w2, is_38 h, r2, rb_v, q_r0 w2 q38, q_ia1 h q38 hw14, q_w w2 q38 hw14, q_wi h q38 hw14, bo_0, r4, s4.f6, r5, nI_1]
    · have hu0 : a (8 + 6 * w + 5) = 0 := by rcases okF5 (hg.2 w 5 (by omega) (by decide)) with e | e; exact e; exact absurd e hu
      obtain ⟨I6, R6, f6, c6, r6⟩ := ih (w + 1) I R o (by omega) h hs hc
      refine ⟨I6, R6, f6, by unfold bsS; rw [if_neg hu]; exact c6, ?_⟩
      rw [e_F_chooseSweep_6, ← r6]
      simp only [e_F_chooseSweep_0, e_F_chooseSweep_1, e_F_chooseSweep_4, e_F_chooseSweep_5, e_F_chooseSweep_7, e_F_chooseSweep_8, e_F_chooseSweep_11, e_F_chooseSweep_14, e_F_chooseSweep_15, e_F_chooseSweep_18, e_F_chooseSweep_19, e_F_chooseSweep_20, e_F_chooseSweep_23, e_F_chooseSweep_26, e_F_chooseSweep_27, e_F_chooseSweep_30, e_F_chooseSweep_31, e_F_chooseSweep_34, e_F_chooseSweep_35, e_F_chooseSweep_38, e_F_chooseSweep_41, e_F_chooseSweep_42, e_F_chooseSweep_43, e_F_chooseSweep_44, e_F_chooseSweep_47, e_F_chooseSweep_48, e_F_chooseSweep_51, e_F_chooseSweep_52, e_F_chooseSweep_55, e_F_chooseSweep_56, e_F_chooseSweep_57, e_F_chooseSweep_58, e_F_chooseSweep_61, e_F_chooseSweep_64, e_F_chooseSweep_67, e_F_chooseSweep_70, e_F_chooseSweep_73, q_is h hq.q, hs.f3, e1, nI_le' (show n < 2 ^ 31 by omega) (show w < 2 ^ 31 by omega), show ¬ n ≤ w by omega, and_self, and_true, true_and, and_false, false_and, or_true, true_or, or_false, false_or, not_true_eq_false, not_false_eq_true, if_true, if_false, ne_eq, ite_self, reduceCtorEq, i10, Decidable.not_not, Bool.and_self, Bool.and_true, Bool.true_and, q_r0 h hq.q, q_ia1 h hq.q hw14, nI_clamp (show w < 2 ^ 31 by omega), q_w h hq.q hw14, q_wi h hq.q hw14, w5, hu0, nI_1]
theorem k_F_chooseSweep (h : WF S R) (hq : isP q) (hs : SkR S I R q a) (hg : gd a) {t m : Nat} (ht : t + m < 2 ^ 30) (e2 : a 2 = nI t) : ∃ I2 R2, Ff I I2 R R2 ∧ chR nI I2 (bsS a m 0 (cW (a 1)) none) ∧ rn Ls xs (d + 5) 136 0 [some (.inr (.inl (some 37))), some (.inr (.inl (some q))), some (.inl (nI m)), none] [] (S, I, R) = some (none, (S, I2, R2)) := by
  obtain ⟨n, hn, e1, cn⟩ := hg.n
  obtain ⟨I2, f2, c2, r2⟩ := k_F_chooseNone (Ls := Ls) (xs := xs) (d := d + 4) (I := I) (g := nI) h
  obtain ⟨I3, R3, f3, c3, r3⟩ := l_F_chooseSweep (Ls := Ls) (xs := xs) (d := d) hq hg ht hn e1 e2 n 0 I2 R none (by omega) h (hs.ff hq (by omega) (F37 f2)) c2
  have r3 : rn Ls xs (d + 5) 136 6 [some (.inr (.inl (some 37))), some (.inr (.inl (some q))), some (.inl (nI m)), some (.inl 0)] [] (S, I2, R) = _ := r3
  rw [cn]
  refine ⟨I3, R3, (F37 f2).trans' f3, c3, ?_⟩
  simp only [e_F_chooseSweep_0, e_F_chooseSweep_1, e_F_chooseSweep_4, e_F_chooseSweep_5, is_37 h, and_self, and_true, true_and, and_false, false_and, or_true, true_or, or_false, false_or, not_true_eq_false, not_false_eq_true, if_true, if_false, ne_eq, ite_self, reduceCtorEq, i10, Decidable.not_not, Bool.and_self, Bool.and_true, Bool.true_and, r2, rb_v, r3]
theorem pc_lt {i : Nat} (hi : i ≤ 19) : (9 < nI i - 9) = (18 < i) := by
  apply propext
  rw [i_lt, show (9 : Int32) = nI 9 from rfl, sub_toInt (by omega) (by decide), nI_toInt (by decide)]
  omega
theorem pc_ok {i : Nat} (hi : i < 19) : okF 3 (nI i - 9) := by
  have e := sub_toInt (a := i) (b := 9) (by omega) (by decide)
  have z9 : Int32.toInt 9 = 9 := rfl
  have z9' : Int32.toInt (-9) = -9 := rfl
  show (-9 : Int32) ≤ nI i - 9 ∧ nI i - 9 ≤ 9
  rw [i_le, i_le, show nI i - 9 = nI i - nI 9 from rfl, e, z9, z9']
  omega
theorem pc_1 (i : Nat) : nI i - 9 + 1 = nI (i + 1) - 9 := by
  rw [← nI_1, Int32.sub_eq_add_neg, Int32.sub_eq_add_neg, Int32.add_assoc, Int32.add_assoc, Int32.add_comm (-9) 1]
theorem pc_NN {i : Nat} (hi : i < 19) : nI i - 9 ≠ NN := fun e => by
  have h := okF3 (pc_ok hi)
  rw [e] at h
  exact absurd h.1 (by decide)
theorem l_F_choosePace (hq : isP q) (hg : gd a) {t m n w : Nat} (ht : t + m < 2 ^ 30) (hn : n ≤ 14) (e1 : a 1 = nI n) (e2 : a 2 = nI t) (hw : w < n) : ∀ (j i : Nat) (I : mI) (R : mR) (o : Option (Nat × Int32)), i + j = 19 → WF S R → SkR S I R q a → chR (fun i => nI i - 9) I o → ∃ I2 R2, Ff I I2 R R2 ∧ chR (fun i => nI i - 9) I2 (psS a w m i j o) ∧ rn Ls xs (d + 5) 139 8 [some (.inr (.inl (some 37))), some (.inr (.inl (some q))), some (.inl (nI w)), some (.inl (nI m)), some (.inl (nI i - 9))] [] (S, I, R) = some (none, (S, I2, R2)) := by
  have cn : cW (a 1) = n := by rw [e1, cW, nI_clamp (by omega)]
  have hw14 : w < 14 := by omega
  intro j
  induction j with
  | zero =>
    intro i I R o hi h hs hc
    have : i = 19 := by omega
    subst this
    refine ⟨I, R, Ff.rfl', hc, ?_⟩
    rw [e_F_choosePace_8]
    simp only [e_F_choosePace_0, e_F_choosePace_1, e_F_choosePace_4, e_F_choosePace_6, e_F_choosePace_10, e_F_choosePace_12, e_F_choosePace_15, e_F_choosePace_16, e_F_choosePace_19, e_F_choosePace_20, e_F_choosePace_23, e_F_choosePace_24, e_F_choosePace_27, e_F_choosePace_30, e_F_choosePace_31, e_F_choosePace_32, e_F_choosePace_34, e_F_choosePace_37, e_F_choosePace_38, e_F_choosePace_41, e_F_choosePace_42, e_F_choosePace_45, e_F_choosePace_46, e_F_choosePace_48, e_F_choosePace_49, e_F_choosePace_52, e_F_choosePace_55, e_F_choosePace_58, e_F_choosePace_61, e_F_choosePace_64, pc_lt (Nat.le_refl _), show 18 < 19 by decide, if_true]
  | succ j ih =>
    intro i I R o hi h hs hc
    obtain ⟨I2, R2, s2, f2, g2, w2, r2⟩ := k_S_becomeAs (Ls := Ls) (xs := xs) (d := d + 3) h q38 hq.q hq.ne hs hg
    have s3 := s2.setW q38 hw14 (show 3 < 6 by decide) (x := nI i - 9)
    have hg3 : gd (upd a (8 + 6 * w + 3) (nI i - 9)) := gd_fld hg (by omega) (by decide) (pc_ok (by omega))
    obtain ⟨I4, s4, f4, r4⟩ := k_S_passHours (Ls := Ls) (xs := xs) (d := d) w2 q38 ht s3 hg3 (by rw [up_n (by omega)]; exact e2)
    have c4 : chR (fun i => nI i - 9) I4 o := hc.fr (by rw [f4 37 (by omega), vu_n (by omega), f2 37 (by omega)])
    obtain ⟨I5, f5, c5, r5⟩ := k_F_chooseIfLess (Ls := Ls) (xs := xs) (d := d + 4) (x := hrsS (upd a (8 + 6 * w + 3) (nI i - 9)) m 4) w2 c4 (w := i) (pc_NN (by omega))
    have ff5 : Ff I I5 R R2 := ((((f2.ffr g2).up (b := 38 + 4 + w) (by omega) (by omega)).trans' f4.ff).trans' (F37 f5))
    obtain ⟨I6, R6, f6, c6, r6⟩ := ih (i + 1) I5 R2 _ (by omega) w2 (hs.ff hq (by omega) ff5) c5
    refine ⟨I6, R6, ff5.trans' f6, c6, ?_⟩
    rw [e_F_choosePace_8, ← r6]
    simp only [e_F_choosePace_0, e_F_choosePace_1, e_F_choosePace_4, e_F_choosePace_6, e_F_choosePace_10, e_F_choosePace_12, e_F_choosePace_15, e_F_choosePace_16, e_F_choosePace_19, e_F_choosePace_20, e_F_choosePace_23, e_F_choosePace_24, e_F_choosePace_27, e_F_choosePace_30, e_F_choosePace_31, e_F_choosePace_32, e_F_choosePace_34, e_F_choosePace_37, e_F_choosePace_38, e_F_choosePace_41, e_F_choosePace_42, e_F_choosePace_45, e_F_choosePace_46, e_F_choosePace_48, e_F_choosePace_49, e_F_choosePace_52, e_F_choosePace_55, e_F_choosePace_58, e_F_choosePace_61, e_F_choosePace_64, pc_lt (show i ≤ 19 by omega), show ¬ 18 < i by omega, and_self, and_true, true_and, and_false, false_and, or_true, true_or, or_false, false_or, not_true_eq_false, not_false_eq_true, if_true, if_false, ne_eq, ite_self, reduceCtorEq, i10, Decidable.not_not, Bool.and_self, Bool.and_true, Bool.true_and, nI_clamp (show w < 2 ^ 31 by omega), is_37 h, rf_37_0 h, rf_37_0 w2, is_38 h, r2, rb_v, q_r0 w2 q38, q_ia1 h q38 hw14, q_w w2 q38 hw14, q_wi h q38 hw14, r4, s4.f6, r5, pc_1]
theorem k_F_choosePace (h : WF S R) (hq : isP q) (hs : SkR S I R q a) (hg : gd a) {t m n w : Nat} (ht : t + m < 2 ^ 30) (hn : n ≤ 14) (e1 : a 1 = nI n) (e2 : a 2 = nI t) (hw : w < n) : ∃ I2 R2, Ff I I2 R R2 ∧ chR (fun i => nI i - 9) I2 (psS a w m 0 19 none) ∧ rn Ls xs (d + 5) 139 0 [some (.inr (.inl (some 37))), some (.inr (.inl (some q))), some (.inl (nI w)), some (.inl (nI m)), none] [] (S, I, R) = some (none, (S, I2, R2)) := by
  have cn : cW (a 1) = n := by rw [e1, cW, nI_clamp (by omega)]
  obtain ⟨I2, f2, c2, r2⟩ := k_F_chooseNone (Ls := Ls) (xs := xs) (d := d + 4) (I := I) (g := fun i => nI i - 9) h
  obtain ⟨I3, R3, f3, c3, r3⟩ := l_F_choosePace (Ls := Ls) (xs := xs) (d := d) hq hg ht hn e1 e2 hw 19 0 I2 R none (by omega) h (hs.ff hq (by omega) (F37 f2)) c2
  have r3 : rn Ls xs (d + 5) 139 8 [some (.inr (.inl (some 37))), some (.inr (.inl (some q))), some (.inl (nI w)), some (.inl (nI m)), some (.inl (-9))] [] (S, I2, R) = _ := r3
  refine ⟨I3, R3, (F37 f2).trans' f3, c3, ?_⟩
  simp only [e_F_choosePace_0, e_F_choosePace_1, e_F_choosePace_4, e_F_choosePace_6, is_37 h, and_self, and_true, true_and, and_false, false_and, or_true, true_or, or_false, false_or, not_true_eq_false, not_false_eq_true, if_true, if_false, ne_eq, ite_self, reduceCtorEq, i10, Decidable.not_not, Bool.and_self, Bool.and_true, Bool.true_and, r2, rb_v, r3]
end CTA
/-! holes -/
theorem or_as (x y z : Int32) : (x ||| y) ||| z = x ||| (y ||| z) := Int32.or_assoc x y z
theorem ovS_or (a : Nat → Int32) (h : Nat) : ∀ (j w : Nat) (s : Int32), ovS a h w j s = s ||| ovS a h w j 0
  | 0, _, s => (or_z s).symm
  | j + 1, w, s => by
    show ovS a h (w + 1) j _ = s ||| ovS a h (w + 1) j _
    rw [ovS_or a h j (w + 1) (s ||| _), ovS_or a h j (w + 1) (0 ||| _), or_as, Int32.zero_or]
theorem ovS_hi {a : Nat → Int32} {h : Nat} (hh : 8 ≤ h) (h31 : h < 2 ^ 31) {n : Nat} (hf : ∀ w, w < n → okF 1 (a (8 + 6 * w + 1))) : ∀ (j w : Nat) (s : Int32), w + j = n → ovS a h w j s = s
  | 0, _, s, _ => rfl
  | j + 1, w, s, hw => by
    have h1 := okF1 (hf w (by omega))
    obtain ⟨i, -, hi, ei⟩ := inN (a := 0) (b := 7) (by decide) h1 rfl rfl
    have ne : ¬ a (8 + 6 * w + 1) = nI h := by rw [ei, nI_eq' (by omega) h31]; omega
    show ovS a h (w + 1) j _ = s
    rw [if_neg (fun q => ne q.2), or_z]
    exact ovS_hi hh h31 hf j (w + 1) s (by omega)
theorem metS_sn (V : Nat → Nat → Int32) (k : Nat) : ∀ (j h : Nat) (s : Int32), metS V k h (j + 1) s = metS V k h j s ||| V (h + j) (k + (h + j))
  | 0, h, s => rfl
  | j + 1, h, s => by
    show metS V k (h + 1) (j + 1) _ = metS V k (h + 1) j _ ||| _
    rw [metS_sn V k j (h + 1), show h + 1 + j = h + (j + 1) by omega]
theorem metS_8 {V : Nat → Nat → Int32} {k : Nat} (hV : ∀ h, 8 ≤ h → h < 2 ^ 31 → V h (k + h) = 0) : ∀ i, i < 2 ^ 30 → metS V k 0 (8 + i) 0 = metS V k 0 8 0
  | 0, _ => rfl
  | i + 1, hi => by
    have := metS_sn V k (8 + i) 0 0
    rw [show 8 + (i + 1) = 8 + i + 1 by omega, this, metS_8 hV i (by omega), Nat.zero_add, hV _ (by omega) (by omega), or_z]

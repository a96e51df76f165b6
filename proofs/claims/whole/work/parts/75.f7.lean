/-! TEXTS: the class reads by levels -/
def RQ (S : mS) (R : mR) (I : mI) (T : Nat → Int32) (n : Nat) (D : List Int32) (X : Option (Option mV × mH)) : rR → Prop
  | .inl j => ∃ I2, RF I2 T n j ∧ Fr6 I I2 ∧ X = some (none, (S, I2, R))
  | .inr (j, E) => ∃ I2, RS I2 T n j (D ++ E) ∧ Fr6 I I2 ∧ X = some (none, (S, I2, R))
section RDQ
variable {Ls : Nat} {xs : Nat → Int32} {S : mS} {I I2 I3 : mI} {R : mR} {T : Nat → Int32} {n key : Nat}
theorem tk_n {i : Nat} (h : (tk T n key i).1 ≠ 0) : tC T n i ≠ 3 := fun q => h (by unfold tk; rw [if_pos q])
theorem tk_i {i : Nat} (hn : n ≤ 96) (h : (tk T n key i).1 ≠ 0) : i ≤ 95 := by
  have := tC_n (tk_n h)
  omega
/-- the loop of a level -/
theorem l_level (h : WF S R) {f lev o nn m e : Nat} (hl : lev < 5) (hm : m ≤ 96) (he : 9 + 2 * f ≤ e) (hn : n ≤ 96)
    (ih : ∀ (i : Nat) (I : mI) (D : List Int32), RS I T n i D → D.length + 1 ≤ i → i ≤ 96 → RQ S R I T n D (rn Ls xs e 195 0 [some (.inr (.inl (some 60))), some (.inl (nI (lev + 1))), some (.inl (nI o)), some (.inl (nI nn)), none, none, none] [] (S, I, R)) (rd (tk T n key) f (lev + 1) o nn i)) :
    ∀ (k it j : Nat) (I : mI) (D E : List Int32) (l6 : Option mV), it + k = m → RS I T n j (D ++ E) → (D ++ E).length + 1 ≤ j → RQ S R I T n D (rn Ls xs (e + 1) 195 37 [some (.inr (.inl (some 60))), some (.inl (nI lev)), some (.inl (nI o)), some (.inl (nI nn)), some (.inl (nI m)), some (.inl (nI it)), l6] [] (S, I, R)) (rdl (tk T n key) lev (fun k => rd (tk T n key) f (lev + 1) o nn k) k j E) := by
  intro k
  induction k with
  | zero =>
    intro it j I D E l6 hit hs hD
    have : it = m := by omega
    subst this
    refine ⟨I, hs, Fr6.rfl', ?_⟩
    rw [e_R_readLevel_37]
    simp only [e_R_readLevel_0, e_R_readLevel_1, e_R_readLevel_2, e_R_readLevel_5, e_R_readLevel_6, e_R_readLevel_7, e_R_readLevel_8, e_R_readLevel_11, e_R_readLevel_12, e_R_readLevel_13, e_R_readLevel_14, e_R_readLevel_15, e_R_readLevel_16, e_R_readLevel_17, e_R_readLevel_18, e_R_readLevel_21, e_R_readLevel_22, e_R_readLevel_23, e_R_readLevel_26, e_R_readLevel_27, e_R_readLevel_30, e_R_readLevel_32, e_R_readLevel_34, e_R_readLevel_35, e_R_readLevel_39, e_R_readLevel_41, e_R_readLevel_44, e_R_readLevel_45, e_R_readLevel_48, e_R_readLevel_51, e_R_readLevel_52, e_R_readLevel_53, e_R_readLevel_56, e_R_readLevel_59, e_R_readLevel_60, e_R_readLevel_63, e_R_readLevel_66, e_R_readLevel_67, e_R_readLevel_70, e_R_readLevel_71, e_R_readLevel_73, e_R_readLevel_74, e_R_readLevel_77, e_R_readLevel_78, e_R_readLevel_79, e_R_readLevel_80, e_R_readLevel_81, e_R_readLevel_82, e_R_readLevel_83, e_R_readLevel_86, e_R_readLevel_87, e_R_readLevel_89, e_R_readLevel_90, e_R_readLevel_93, e_R_readLevel_96, e_R_readLevel_99, nI_le' (show it < 2 ^ 31 by omega) (show it < 2 ^ 31 by omega), Nat.le_refl, if_true]
  | succ k ihk =>
    intro it j I D E l6 hit hs hD
    have nle : ¬ nI m ≤ nI it := by rw [nI_le' (by omega) (by omega)]; omega
    have e9 : I 60 9 = -1 := hs.2.2.1
    have kj := k_joins (Ls := Ls) (xs := xs) (e := e) (key := key) h (by omega) hs.1 hs.2.1 hl
    rw [e_R_readLevel_37]
    by_cases hj : jn (tk T n key j) lev = true
    · rw [if_pos hj] at kj
      have j5 : (tk T n key j).1 = 5 := (of_decide_eq_true hj).1
      have j95 := tk_i hn (show (tk T n key j).1 ≠ 0 by rw [j5]; decide)
      have c0 : tC T n j = 0 := Classical.byContradiction (fun q => (tk_ns (key := key) q).2.2.2 j5)
      have q : tA T n j < n := by have := mt tC_3.mpr (show tC T n j ≠ 3 by omega); omega
      obtain ⟨t1', t2', t3'⟩ := id hs.1
      have e6 : I 60 6 = nI (tA T n j) := hs.2.1.2.1
      obtain ⟨I2, g1, g2, r2⟩ := s_step (Ls := Ls) (xs := xs) (e := e) h (by omega) hs
      have iq := ih (j + 1) I2 (D ++ E) g1 (by omega) (by omega)
      have st : ∀ {Z}, rn Ls xs (e + 1) 195 39 [some (.inr (.inl (some 60))), some (.inl (nI lev)), some (.inl (nI o)), some (.inl (nI nn)), some (.inl (nI m)), some (.inl (nI it)), l6] [.inl (nI it)] (S, I, R) = Z ↔ rb Ls xs (e + 1) 195 86 [some (.inr (.inl (some 60))), some (.inl (nI lev)), some (.inl (nI o)), some (.inl (nI nn)), some (.inl (nI m)), some (.inl (nI it)), some (.inl (T (tA T n j)))] [] (rn Ls xs e 195 0 [some (.inr (.inl (some 60))), some (.inl (nI (lev + 1))), some (.inl (nI o)), some (.inl (nI nn)), none, none, none] [] (S, I2, R)) = Z := by
        intro Z
        simp only [e_R_readLevel_39, e_R_readLevel_41, e_R_readLevel_44, e_R_readLevel_45, e_R_readLevel_48, e_R_readLevel_51, e_R_readLevel_52, e_R_readLevel_53, e_R_readLevel_56, e_R_readLevel_59, e_R_readLevel_60, e_R_readLevel_63, e_R_readLevel_66, e_R_readLevel_67, e_R_readLevel_70, e_R_readLevel_71, e_R_readLevel_73, e_R_readLevel_74, e_R_readLevel_77, e_R_readLevel_78, e_R_readLevel_79, e_R_readLevel_80, e_R_readLevel_81, e_R_readLevel_82, e_R_readLevel_83, nle, and_self, and_true, true_and, and_false, false_and, or_true, true_or, or_false, false_or, not_true_eq_false, not_false_eq_true, if_true, if_false, ne_eq, ite_self, reduceCtorEq, i10, Decidable.not_not, Bool.and_self, Bool.and_true, Bool.true_and, is_60 h, e9, show ¬ (0 : Int32) ≤ -1 by decide, kj, rb_i, t1, rf_60_0 h, is_58 h, rf_58_0 h, e6, ia_59 h (show tA T n j < 96 by omega), nI_clamp (show tA T n j < 2 ^ 31 by omega), t3' _ q, r2, rb_v, nI_1]
      have sg : tk T n key j = tkb (T (tA T n j)) := tk_s c0
      have cv := cv_sg (T (tA T n j)) (by rw [← sg]; exact j5)
      rw [← sg] at cv
      unfold rdl
      rw [if_pos hj]
      cases hx : rd (tk T n key) f (lev + 1) o nn (j + 1) with
      | inl x =>
        rw [hx] at iq
        obtain ⟨I3, k1, k2, r3⟩ := iq
        obtain ⟨I4, k3, k4, r4⟩ := f_put (Ls := Ls) (xs := xs) (e := e) (x := -(T (tA T n j))) h k1
        refine ⟨I4, k3, (g2.trans' k2).trans' k4, st.mpr ?_⟩
        rw [r3]
        simp only [rb_v, e_R_readLevel_86, e_R_readLevel_87, e_R_readLevel_89, e_R_readLevel_90, e_R_readLevel_93, e_R_readLevel_96, is_60 h, and_self, and_true, true_and, and_false, false_and, or_true, true_or, or_false, false_or, not_true_eq_false, not_false_eq_true, if_true, if_false, ne_eq, ite_self, reduceCtorEq, i10, Decidable.not_not, Bool.and_self, Bool.and_true, Bool.true_and, r4]
        rw [e_R_readLevel_37]
        by_cases q2 : nI m ≤ nI it + 1
        · simp only [e_R_readLevel_39, e_R_readLevel_41, e_R_readLevel_44, e_R_readLevel_45, e_R_readLevel_48, e_R_readLevel_51, e_R_readLevel_52, e_R_readLevel_53, e_R_readLevel_56, e_R_readLevel_59, e_R_readLevel_60, e_R_readLevel_63, e_R_readLevel_66, e_R_readLevel_67, e_R_readLevel_70, e_R_readLevel_71, e_R_readLevel_73, e_R_readLevel_74, e_R_readLevel_77, e_R_readLevel_78, e_R_readLevel_79, e_R_readLevel_80, e_R_readLevel_81, e_R_readLevel_82, e_R_readLevel_83, e_R_readLevel_86, e_R_readLevel_87, e_R_readLevel_89, e_R_readLevel_90, e_R_readLevel_93, e_R_readLevel_96, e_R_readLevel_99, q2, and_self, and_true, true_and, and_false, false_and, or_true, true_or, or_false, false_or, not_true_eq_false, not_false_eq_true, if_true, if_false, ne_eq, ite_self, reduceCtorEq, i10, Decidable.not_not, Bool.and_self, Bool.and_true, Bool.true_and]
        · simp only [e_R_readLevel_39, e_R_readLevel_41, e_R_readLevel_44, e_R_readLevel_45, e_R_readLevel_48, e_R_readLevel_51, e_R_readLevel_52, e_R_readLevel_53, e_R_readLevel_56, e_R_readLevel_59, e_R_readLevel_60, e_R_readLevel_63, e_R_readLevel_66, e_R_readLevel_67, e_R_readLevel_70, e_R_readLevel_71, e_R_readLevel_73, e_R_readLevel_74, e_R_readLevel_77, e_R_readLevel_78, e_R_readLevel_79, e_R_readLevel_80, e_R_readLevel_81, e_R_readLevel_82, e_R_readLevel_83, e_R_readLevel_86, e_R_readLevel_87, e_R_readLevel_89, e_R_readLevel_90, e_R_readLevel_93, e_R_readLevel_96, e_R_readLevel_99, q2, and_self, and_true, true_and, and_false, false_and, or_true, true_or, or_false, false_or, not_true_eq_false, not_false_eq_true, if_true, if_false, ne_eq, ite_self, reduceCtorEq, i10, Decidable.not_not, Bool.and_self, Bool.and_true, Bool.true_and, is_60 h, k3.p0]
      | inr vv =>
        obtain ⟨j2, E2⟩ := vv
        rw [hx] at iq
        obtain ⟨I3, k1, k2, r3⟩ := iq
        obtain ⟨b1, b2, b3⟩ := rd_b f _ _ _ _ _ _ hx
        have b95 := tk_i hn b3
        have len : (D ++ E ++ E2).length + 2 ≤ j2 := by rw [List.length_append]; omega
        obtain ⟨I4, k3, k4, r4⟩ := s_put (Ls := Ls) (xs := xs) (e := e) (x := -(T (tA T n j))) (c := (tk T n key j).2) h k1 (by omega) cv.1.symm cv.2
        have as : D ++ E ++ E2 ++ [(tk T n key j).2] = D ++ (E ++ E2 ++ [(tk T n key j).2]) := by simp only [List.append_assoc]
        rw [as] at k3
        have iq2 := ihk (it + 1) j2 I4 D (E ++ E2 ++ [(tk T n key j).2]) (some (.inl (T (tA T n j)))) (by omega) k3 (by rw [← as, List.length_append]; exact len)
        have st2 : rb Ls xs (e + 1) 195 86 [some (.inr (.inl (some 60))), some (.inl (nI lev)), some (.inl (nI o)), some (.inl (nI nn)), some (.inl (nI m)), some (.inl (nI it)), some (.inl (T (tA T n j)))] [] (rn Ls xs e 195 0 [some (.inr (.inl (some 60))), some (.inl (nI (lev + 1))), some (.inl (nI o)), some (.inl (nI nn)), none, none, none] [] (S, I2, R)) = rn Ls xs (e + 1) 195 37 [some (.inr (.inl (some 60))), some (.inl (nI lev)), some (.inl (nI o)), some (.inl (nI nn)), some (.inl (nI m)), some (.inl (nI (it + 1))), some (.inl (T (tA T n j)))] [] (S, I4, R) := by
          rw [r3]
          simp only [rb_v, e_R_readLevel_86, e_R_readLevel_87, e_R_readLevel_89, e_R_readLevel_90, e_R_readLevel_93, e_R_readLevel_96, is_60 h, and_self, and_true, true_and, and_false, false_and, or_true, true_or, or_false, false_or, not_true_eq_false, not_false_eq_true, if_true, if_false, ne_eq, ite_self, reduceCtorEq, i10, Decidable.not_not, Bool.and_self, Bool.and_true, Bool.true_and, r4, nI_1]
        show RQ S R I T n D _ (rdl (tk T n key) lev (fun k => rd (tk T n key) f (lev + 1) o nn k) k j2 (E ++ E2 ++ [(tk T n key j).2]))
        cases hy : rdl (tk T n key) lev (fun k => rd (tk T n key) f (lev + 1) o nn k) k j2 (E ++ E2 ++ [(tk T n key j).2]) with
        | inl x =>
          rw [hy] at iq2
          obtain ⟨I5, q1, q2, r5⟩ := iq2
          exact ⟨I5, q1, ((g2.trans' k2).trans' k4).trans' q2, st.mpr (st2.trans r5)⟩
        | inr ww =>
          obtain ⟨j3, E3⟩ := ww
          rw [hy] at iq2
          obtain ⟨I5, q1, q2, r5⟩ := iq2
          exact ⟨I5, q1, ((g2.trans' k2).trans' k4).trans' q2, st.mpr (st2.trans r5)⟩
    · rw [if_neg hj] at kj
      unfold rdl
      rw [if_neg hj]
      refine ⟨I, hs, Fr6.rfl', ?_⟩
      simp only [e_R_readLevel_39, e_R_readLevel_41, e_R_readLevel_44, e_R_readLevel_45, e_R_readLevel_48, e_R_readLevel_51, e_R_readLevel_52, e_R_readLevel_53, e_R_readLevel_56, e_R_readLevel_59, e_R_readLevel_60, e_R_readLevel_63, e_R_readLevel_66, e_R_readLevel_67, e_R_readLevel_70, e_R_readLevel_71, e_R_readLevel_73, e_R_readLevel_74, e_R_readLevel_77, e_R_readLevel_78, e_R_readLevel_79, e_R_readLevel_80, e_R_readLevel_81, e_R_readLevel_82, e_R_readLevel_83, e_R_readLevel_86, e_R_readLevel_87, e_R_readLevel_89, e_R_readLevel_90, e_R_readLevel_93, e_R_readLevel_96, e_R_readLevel_99, nle, and_self, and_true, true_and, and_false, false_and, or_true, true_or, or_false, false_or, not_true_eq_false, not_false_eq_true, if_true, if_false, ne_eq, ite_self, reduceCtorEq, i10, Decidable.not_not, Bool.and_self, Bool.and_true, Bool.true_and, is_60 h, e9, show ¬ (0 : Int32) ≤ -1 by decide, kj, rb_i]
theorem tk_3 {i : Nat} (h : tC T n i = 3) : tk T n key i = (0, 0) := by unfold tk; rw [if_pos h]
theorem tk_2b {i : Nat} (h : tC T n i = 2) (hg : tG T n i ∨ 4 < tB T n i - tA T n i) : tk T n key i = (6, 0) := by unfold tk; rw [if_neg (by omega), if_pos h, if_pos hg]
theorem tk_2 {i : Nat} (h : tC T n i = 2) (hg : ¬ (tG T n i ∨ 4 < tB T n i - tA T n i)) : tk T n key i = (1, nvS T (tA T n i) (tB T n i - tA T n i)) := by unfold tk; rw [if_neg (by omega), if_pos h, if_neg hg]
theorem tk_1b {i : Nat} (h : tC T n i = 1) (hg : tG T n i ∨ tB T n i - tA T n i ≠ 1 ∨ nmW key (T (tA T n i)) < 0) : tk T n key i = (6, 0) := by unfold tk; rw [if_neg (by omega), if_neg (by omega), if_pos h, if_pos hg]
theorem tk_1 {i : Nat} (h : tC T n i = 1) (hg : ¬ (tG T n i ∨ tB T n i - tA T n i ≠ 1 ∨ nmW key (T (tA T n i)) < 0)) : tk T n key i = (1, 10000 + nmW key (T (tA T n i))) := by unfold tk; rw [if_neg (by omega), if_neg (by omega), if_pos h, if_neg hg]
theorem tk_0 {i : Nat} (h : tC T n i = 0) : (tk T n key i).1 ≠ 1 := by rw [tk_s h]; exact (tkb_0 _).2
/-- the class reads as rd does -/
theorem c_rd (h : WF S R) (hn : n ≤ 96) (hk : key < 3) (hr : R 60 4 = .inr (11 + 2 * key)) : ∀ (f : Nat),
    (∀ (o nn i e : Nat) (I : mI) (D : List Int32), 7 * (8 - o) + (8 - nn) + 1 ≤ f → o ≤ 8 → nn ≤ 8 → 8 + 2 * f ≤ e → RS I T n i D → D.length + 1 ≤ i → i ≤ 96 → RQ S R I T n D (rn Ls xs e 212 0 [some (.inr (.inl (some 60))), some (.inl (nI o)), some (.inl (nI nn))] [] (S, I, R)) (rd (tk T n key) f 5 o nn i)) ∧
    (∀ (lev o nn i e : Nat) (I : mI) (D : List Int32), 7 * (8 - o) + (8 - nn) + (6 - lev) ≤ f → lev ≤ 5 → o ≤ 8 → nn ≤ 8 → 9 + 2 * f ≤ e → RS I T n i D → D.length + 1 ≤ i → i ≤ 96 → RQ S R I T n D (rn Ls xs e 195 0 [some (.inr (.inl (some 60))), some (.inl (nI lev)), some (.inl (nI o)), some (.inl (nI nn)), none, none, none] [] (S, I, R)) (rd (tk T n key) f lev o nn i)) := by
  intro f
  induction f with
  | zero =>
    refine ⟨fun o nn i e I D hf => absurd hf (by omega), fun lev o nn i e I D hf hl => absurd hf (by omega)⟩
  | succ f ih =>
    have piece : ∀ (o nn i e : Nat) (I : mI) (D : List Int32), 7 * (8 - o) + (8 - nn) + 1 ≤ f + 1 → o ≤ 8 → nn ≤ 8 → 8 + 2 * (f + 1) ≤ e → RS I T n i D → D.length + 1 ≤ i → i ≤ 96 → RQ S R I T n D (rn Ls xs e 212 0 [some (.inr (.inl (some 60))), some (.inl (nI o)), some (.inl (nI nn))] [] (S, I, R)) (rd (tk T n key) (f + 1) 5 o nn i) := by
      intro o nn i e' I D hf ho hnn he hs hD hi
      obtain ⟨e, rfl⟩ : ∃ e, e' = e + 1 := ⟨e' - 1, by omega⟩
      obtain ⟨e5, e6, e7, e8⟩ := id hs.2.1
      have bC := tC_le (T := T) (n := n) i
      have k33 := k_sg (Ls := Ls) (xs := xs) (e := e) (S := S) (R := R) (key := key) (b := 33) h hs.1 hs.2.1 tkb_2 (Or.inl rfl)
      have k40 := k_sg (Ls := Ls) (xs := xs) (e := e) (S := S) (R := R) (key := key) (b := 40) h hs.1 hs.2.1 tkb_3 (Or.inr (Or.inl rfl))
      /- from 44 on -/
      have p44 : (tk T n key i).1 ≠ 1 → RQ S R I T n D (rn Ls xs (e + 1) 212 44 [some (.inr (.inl (some 60))), some (.inl (nI o)), some (.inl (nI nn))] [] (S, I, R)) (rd (tk T n key) (f + 1) 5 o nn i) := by
        intro k1
        unfold rd
        rw [if_pos rfl, if_neg k1]
        by_cases k2 : (tk T n key i).1 = 2
        · rw [if_pos k2] at k33
          have k3 : ¬ (tk T n key i).1 = 3 := by omega
          rw [if_neg k3] at k40
          have i95 := tk_i hn (show (tk T n key i).1 ≠ 0 by omega)
          by_cases hl : nn < 8
          · rw [if_pos ⟨k2, hl⟩]
            have nl : ¬ (8 : Int32) ≤ nI nn := by rw [show (8 : Int32) = nI 8 from rfl, nI_le' (by decide) (by omega)]; omega
            obtain ⟨I2, g1, g2, r2⟩ := s_step (Ls := Ls) (xs := xs) (e := e) h (by omega) hs
            have iq := ih.1 o (nn + 1) (i + 1) e I2 D (by omega) ho (by omega) (by omega) g1 (by omega) (by omega)
            cases hx : rd (tk T n key) f 5 o (nn + 1) (i + 1) with
            | inl x =>
              rw [hx] at iq
              obtain ⟨I3, q1, q2, r3⟩ := iq
              obtain ⟨I4, q3, q4, r4⟩ := f_put (Ls := Ls) (xs := xs) (e := e) (x := -33) h q1
              exact ⟨I4, q3, (g2.trans' q2).trans' q4, by simp only [e_R_readPiece_44, e_R_readPiece_45, e_R_readPiece_47, e_R_readPiece_50, e_R_readPiece_53, e_R_readPiece_54, e_R_readPiece_56, e_R_readPiece_59, e_R_readPiece_60, e_R_readPiece_63, e_R_readPiece_64, e_R_readPiece_65, e_R_readPiece_66, e_R_readPiece_67, e_R_readPiece_68, e_R_readPiece_71, e_R_readPiece_72, e_R_readPiece_74, e_R_readPiece_77, e_R_readPiece_80, e_R_readPiece_81, e_R_readPiece_83, e_R_readPiece_86, e_R_readPiece_89, e_R_readPiece_90, e_R_readPiece_92, e_R_readPiece_95, e_R_readPiece_96, e_R_readPiece_99, e_R_readPiece_100, e_R_readPiece_101, e_R_readPiece_102, e_R_readPiece_103, e_R_readPiece_104, e_R_readPiece_105, e_R_readPiece_108, e_R_readPiece_109, e_R_readPiece_111, e_R_readPiece_114, e_R_readPiece_117, e_R_readPiece_118, e_R_readPiece_121, e_R_readPiece_122, e_R_readPiece_125, e_R_readPiece_128, e_R_readPiece_129, e_R_readPiece_132, is_60 h, and_self, and_true, true_and, and_false, false_and, or_true, true_or, or_false, false_or, not_true_eq_false, not_false_eq_true, if_true, if_false, ne_eq, ite_self, reduceCtorEq, i10, Decidable.not_not, Bool.and_self, Bool.and_true, Bool.true_and, k33, rb_i, t1, nl, r2, rb_v, nI_1, r3, r4]⟩
            | inr vv =>
              obtain ⟨j, E⟩ := vv
              rw [hx] at iq
              obtain ⟨I3, q1, q2, r3⟩ := iq
              obtain ⟨b1, b2, b3⟩ := rd_b f _ _ _ _ _ _ hx
              have b95 := tk_i hn b3
              obtain ⟨I4, q3, q4, r4⟩ := s_put (Ls := Ls) (xs := xs) (e := e) (x := -33) (c := -10) h q1 (by rw [List.length_append]; omega) rfl (by decide)
              rw [List.append_assoc] at q3
              exact ⟨I4, q3, (g2.trans' q2).trans' q4, by simp only [e_R_readPiece_44, e_R_readPiece_45, e_R_readPiece_47, e_R_readPiece_50, e_R_readPiece_53, e_R_readPiece_54, e_R_readPiece_56, e_R_readPiece_59, e_R_readPiece_60, e_R_readPiece_63, e_R_readPiece_64, e_R_readPiece_65, e_R_readPiece_66, e_R_readPiece_67, e_R_readPiece_68, e_R_readPiece_71, e_R_readPiece_72, e_R_readPiece_74, e_R_readPiece_77, e_R_readPiece_80, e_R_readPiece_81, e_R_readPiece_83, e_R_readPiece_86, e_R_readPiece_89, e_R_readPiece_90, e_R_readPiece_92, e_R_readPiece_95, e_R_readPiece_96, e_R_readPiece_99, e_R_readPiece_100, e_R_readPiece_101, e_R_readPiece_102, e_R_readPiece_103, e_R_readPiece_104, e_R_readPiece_105, e_R_readPiece_108, e_R_readPiece_109, e_R_readPiece_111, e_R_readPiece_114, e_R_readPiece_117, e_R_readPiece_118, e_R_readPiece_121, e_R_readPiece_122, e_R_readPiece_125, e_R_readPiece_128, e_R_readPiece_129, e_R_readPiece_132, is_60 h, and_self, and_true, true_and, and_false, false_and, or_true, true_or, or_false, false_or, not_true_eq_false, not_false_eq_true, if_true, if_false, ne_eq, ite_self, reduceCtorEq, i10, Decidable.not_not, Bool.and_self, Bool.and_true, Bool.true_and, k33, rb_i, t1, nl, r2, rb_v, nI_1, r3, r4]⟩
          · rw [if_neg (fun q => hl q.2), if_neg (fun q => k3 q.1)]
            have ge : (8 : Int32) ≤ nI nn := nI_le (a := 8) (by omega) (by omega)
            obtain ⟨I2, g1, g2, r2⟩ := s_fail (Ls := Ls) (xs := xs) (e := e) h hs (by omega)
            exact ⟨I2, g1, g2, by simp only [e_R_readPiece_44, e_R_readPiece_45, e_R_readPiece_47, e_R_readPiece_50, e_R_readPiece_53, e_R_readPiece_54, e_R_readPiece_56, e_R_readPiece_59, e_R_readPiece_60, e_R_readPiece_63, e_R_readPiece_64, e_R_readPiece_65, e_R_readPiece_66, e_R_readPiece_67, e_R_readPiece_68, e_R_readPiece_71, e_R_readPiece_72, e_R_readPiece_74, e_R_readPiece_77, e_R_readPiece_80, e_R_readPiece_81, e_R_readPiece_83, e_R_readPiece_86, e_R_readPiece_89, e_R_readPiece_90, e_R_readPiece_92, e_R_readPiece_95, e_R_readPiece_96, e_R_readPiece_99, e_R_readPiece_100, e_R_readPiece_101, e_R_readPiece_102, e_R_readPiece_103, e_R_readPiece_104, e_R_readPiece_105, e_R_readPiece_108, e_R_readPiece_109, e_R_readPiece_111, e_R_readPiece_114, e_R_readPiece_117, e_R_readPiece_118, e_R_readPiece_121, e_R_readPiece_122, e_R_readPiece_125, e_R_readPiece_128, e_R_readPiece_129, e_R_readPiece_132, is_60 h, and_self, and_true, true_and, and_false, false_and, or_true, true_or, or_false, false_or, not_true_eq_false, not_false_eq_true, if_true, if_false, ne_eq, ite_self, reduceCtorEq, i10, Decidable.not_not, Bool.and_self, Bool.and_true, Bool.true_and, k33, k40, rb_i, t1, ge, r2, rb_v]⟩
        · rw [if_neg k2] at k33
          rw [if_neg (fun q => k2 q.1)]
          by_cases k3 : (tk T n key i).1 = 3
          · rw [if_pos k3] at k40
            have i95 := tk_i hn (show (tk T n key i).1 ≠ 0 by omega)
            by_cases hl : o < 8
            · rw [if_pos ⟨k3, hl⟩]
              have nl : ¬ (8 : Int32) ≤ nI o := by rw [show (8 : Int32) = nI 8 from rfl, nI_le' (by decide) (by omega)]; omega
              obtain ⟨I2, g1, g2, r2⟩ := s_step (Ls := Ls) (xs := xs) (e := e) h (by omega) hs
              have iq := ih.2 0 (o + 1) nn (i + 1) e I2 D (by omega) (by omega) (by omega) hnn (by omega) g1 (by omega) (by omega)
              rw [show nI 0 = 0 from rfl] at iq
              cases hx : rd (tk T n key) f 0 (o + 1) nn (i + 1) with
              | inl x =>
                rw [hx] at iq
                obtain ⟨I3, q1, q2, r3⟩ := iq
                have k41 := k_sg (Ls := Ls) (xs := xs) (e := e) (S := S) (R := R) (key := key) (b := 41) h q1.1 q1.2.1 tkb_4 (Or.inr (Or.inr rfl))
                have ff := f_fail (Ls := Ls) (xs := xs) (e := e) h q1
                have fs := f_step (Ls := Ls) (xs := xs) (e := e) h q1
                refine ⟨I3, q1, g2.trans' q2, ?_⟩
                by_cases k4 : (tk T n key x).1 = 4
                · rw [if_pos k4] at k41
                  simp only [e_R_readPiece_44, e_R_readPiece_45, e_R_readPiece_47, e_R_readPiece_50, e_R_readPiece_53, e_R_readPiece_54, e_R_readPiece_56, e_R_readPiece_59, e_R_readPiece_60, e_R_readPiece_63, e_R_readPiece_64, e_R_readPiece_65, e_R_readPiece_66, e_R_readPiece_67, e_R_readPiece_68, e_R_readPiece_71, e_R_readPiece_72, e_R_readPiece_74, e_R_readPiece_77, e_R_readPiece_80, e_R_readPiece_81, e_R_readPiece_83, e_R_readPiece_86, e_R_readPiece_89, e_R_readPiece_90, e_R_readPiece_92, e_R_readPiece_95, e_R_readPiece_96, e_R_readPiece_99, e_R_readPiece_100, e_R_readPiece_101, e_R_readPiece_102, e_R_readPiece_103, e_R_readPiece_104, e_R_readPiece_105, e_R_readPiece_108, e_R_readPiece_109, e_R_readPiece_111, e_R_readPiece_114, e_R_readPiece_117, e_R_readPiece_118, e_R_readPiece_121, e_R_readPiece_122, e_R_readPiece_125, e_R_readPiece_128, e_R_readPiece_129, e_R_readPiece_132, is_60 h, and_self, and_true, true_and, and_false, false_and, or_true, true_or, or_false, false_or, not_true_eq_false, not_false_eq_true, if_true, if_false, ne_eq, ite_self, reduceCtorEq, i10, Decidable.not_not, Bool.and_self, Bool.and_true, Bool.true_and, k33, k40, rb_i, t1, nl, r2, rb_v, nI_1, r3, k41, fs]
                · rw [if_neg k4] at k41
                  simp only [e_R_readPiece_44, e_R_readPiece_45, e_R_readPiece_47, e_R_readPiece_50, e_R_readPiece_53, e_R_readPiece_54, e_R_readPiece_56, e_R_readPiece_59, e_R_readPiece_60, e_R_readPiece_63, e_R_readPiece_64, e_R_readPiece_65, e_R_readPiece_66, e_R_readPiece_67, e_R_readPiece_68, e_R_readPiece_71, e_R_readPiece_72, e_R_readPiece_74, e_R_readPiece_77, e_R_readPiece_80, e_R_readPiece_81, e_R_readPiece_83, e_R_readPiece_86, e_R_readPiece_89, e_R_readPiece_90, e_R_readPiece_92, e_R_readPiece_95, e_R_readPiece_96, e_R_readPiece_99, e_R_readPiece_100, e_R_readPiece_101, e_R_readPiece_102, e_R_readPiece_103, e_R_readPiece_104, e_R_readPiece_105, e_R_readPiece_108, e_R_readPiece_109, e_R_readPiece_111, e_R_readPiece_114, e_R_readPiece_117, e_R_readPiece_118, e_R_readPiece_121, e_R_readPiece_122, e_R_readPiece_125, e_R_readPiece_128, e_R_readPiece_129, e_R_readPiece_132, is_60 h, and_self, and_true, true_and, and_false, false_and, or_true, true_or, or_false, false_or, not_true_eq_false, not_false_eq_true, if_true, if_false, ne_eq, ite_self, reduceCtorEq, i10, Decidable.not_not, Bool.and_self, Bool.and_true, Bool.true_and, k33, k40, rb_i, t1, nl, r2, rb_v, nI_1, r3, k41, ff, fs]
              | inr vv =>
                obtain ⟨j, E⟩ := vv
                rw [hx] at iq
                obtain ⟨I3, q1, q2, r3⟩ := iq
                obtain ⟨b1, b2, b3⟩ := rd_b f _ _ _ _ _ _ hx
                have b95 := tk_i hn b3
                have k41 := k_sg (Ls := Ls) (xs := xs) (e := e) (S := S) (R := R) (key := key) (b := 41) h q1.1 q1.2.1 tkb_4 (Or.inr (Or.inr rfl))
                simp only
                by_cases k4 : (tk T n key j).1 = 4
                · rw [if_pos k4] at k41 ⊢
                  obtain ⟨I4, q3, q4, r4⟩ := s_step (Ls := Ls) (xs := xs) (e := e) h (by omega) q1
                  exact ⟨I4, q3, (g2.trans' q2).trans' q4, by simp only [e_R_readPiece_44, e_R_readPiece_45, e_R_readPiece_47, e_R_readPiece_50, e_R_readPiece_53, e_R_readPiece_54, e_R_readPiece_56, e_R_readPiece_59, e_R_readPiece_60, e_R_readPiece_63, e_R_readPiece_64, e_R_readPiece_65, e_R_readPiece_66, e_R_readPiece_67, e_R_readPiece_68, e_R_readPiece_71, e_R_readPiece_72, e_R_readPiece_74, e_R_readPiece_77, e_R_readPiece_80, e_R_readPiece_81, e_R_readPiece_83, e_R_readPiece_86, e_R_readPiece_89, e_R_readPiece_90, e_R_readPiece_92, e_R_readPiece_95, e_R_readPiece_96, e_R_readPiece_99, e_R_readPiece_100, e_R_readPiece_101, e_R_readPiece_102, e_R_readPiece_103, e_R_readPiece_104, e_R_readPiece_105, e_R_readPiece_108, e_R_readPiece_109, e_R_readPiece_111, e_R_readPiece_114, e_R_readPiece_117, e_R_readPiece_118, e_R_readPiece_121, e_R_readPiece_122, e_R_readPiece_125, e_R_readPiece_128, e_R_readPiece_129, e_R_readPiece_132, is_60 h, and_self, and_true, true_and, and_false, false_and, or_true, true_or, or_false, false_or, not_true_eq_false, not_false_eq_true, if_true, if_false, ne_eq, ite_self, reduceCtorEq, i10, Decidable.not_not, Bool.and_self, Bool.and_true, Bool.true_and, k33, k40, rb_i, t1, nl, r2, rb_v, nI_1, r3, k41, r4]⟩
                · rw [if_neg k4] at k41 ⊢
                  obtain ⟨I4, q3, q4, r4⟩ := s_fail (Ls := Ls) (xs := xs) (e := e) h q1 (by rw [List.length_append]; omega)
                  have fs := f_step (Ls := Ls) (xs := xs) (e := e) h q3
                  exact ⟨I4, q3, (g2.trans' q2).trans' q4, by simp only [e_R_readPiece_44, e_R_readPiece_45, e_R_readPiece_47, e_R_readPiece_50, e_R_readPiece_53, e_R_readPiece_54, e_R_readPiece_56, e_R_readPiece_59, e_R_readPiece_60, e_R_readPiece_63, e_R_readPiece_64, e_R_readPiece_65, e_R_readPiece_66, e_R_readPiece_67, e_R_readPiece_68, e_R_readPiece_71, e_R_readPiece_72, e_R_readPiece_74, e_R_readPiece_77, e_R_readPiece_80, e_R_readPiece_81, e_R_readPiece_83, e_R_readPiece_86, e_R_readPiece_89, e_R_readPiece_90, e_R_readPiece_92, e_R_readPiece_95, e_R_readPiece_96, e_R_readPiece_99, e_R_readPiece_100, e_R_readPiece_101, e_R_readPiece_102, e_R_readPiece_103, e_R_readPiece_104, e_R_readPiece_105, e_R_readPiece_108, e_R_readPiece_109, e_R_readPiece_111, e_R_readPiece_114, e_R_readPiece_117, e_R_readPiece_118, e_R_readPiece_121, e_R_readPiece_122, e_R_readPiece_125, e_R_readPiece_128, e_R_readPiece_129, e_R_readPiece_132, is_60 h, and_self, and_true, true_and, and_false, false_and, or_true, true_or, or_false, false_or, not_true_eq_false, not_false_eq_true, if_true, if_false, ne_eq, ite_self, reduceCtorEq, i10, Decidable.not_not, Bool.and_self, Bool.and_true, Bool.true_and, k33, k40, rb_i, t1, nl, r2, rb_v, nI_1, r3, k41, r4, fs]⟩
            · rw [if_neg (fun q => hl q.2)]
              have ge : (8 : Int32) ≤ nI o := nI_le (a := 8) (by omega) (by omega)
              obtain ⟨I2, g1, g2, r2⟩ := s_fail (Ls := Ls) (xs := xs) (e := e) h hs (by omega)
              exact ⟨I2, g1, g2, by simp only [e_R_readPiece_44, e_R_readPiece_45, e_R_readPiece_47, e_R_readPiece_50, e_R_readPiece_53, e_R_readPiece_54, e_R_readPiece_56, e_R_readPiece_59, e_R_readPiece_60, e_R_readPiece_63, e_R_readPiece_64, e_R_readPiece_65, e_R_readPiece_66, e_R_readPiece_67, e_R_readPiece_68, e_R_readPiece_71, e_R_readPiece_72, e_R_readPiece_74, e_R_readPiece_77, e_R_readPiece_80, e_R_readPiece_81, e_R_readPiece_83, e_R_readPiece_86, e_R_readPiece_89, e_R_readPiece_90, e_R_readPiece_92, e_R_readPiece_95, e_R_readPiece_96, e_R_readPiece_99, e_R_readPiece_100, e_R_readPiece_101, e_R_readPiece_102, e_R_readPiece_103, e_R_readPiece_104, e_R_readPiece_105, e_R_readPiece_108, e_R_readPiece_109, e_R_readPiece_111, e_R_readPiece_114, e_R_readPiece_117, e_R_readPiece_118, e_R_readPiece_121, e_R_readPiece_122, e_R_readPiece_125, e_R_readPiece_128, e_R_readPiece_129, e_R_readPiece_132, is_60 h, and_self, and_true, true_and, and_false, false_and, or_true, true_or, or_false, false_or, not_true_eq_false, not_false_eq_true, if_true, if_false, ne_eq, ite_self, reduceCtorEq, i10, Decidable.not_not, Bool.and_self, Bool.and_true, Bool.true_and, k33, k40, rb_i, t1, ge, r2, rb_v]⟩
          · rw [if_neg k3] at k40
            rw [if_neg (fun q => k3 q.1)]
            obtain ⟨I2, g1, g2, r2⟩ := s_fail (Ls := Ls) (xs := xs) (e := e) h hs (by omega)
            exact ⟨I2, g1, g2, by simp only [e_R_readPiece_44, e_R_readPiece_45, e_R_readPiece_47, e_R_readPiece_50, e_R_readPiece_53, e_R_readPiece_54, e_R_readPiece_56, e_R_readPiece_59, e_R_readPiece_60, e_R_readPiece_63, e_R_readPiece_64, e_R_readPiece_65, e_R_readPiece_66, e_R_readPiece_67, e_R_readPiece_68, e_R_readPiece_71, e_R_readPiece_72, e_R_readPiece_74, e_R_readPiece_77, e_R_readPiece_80, e_R_readPiece_81, e_R_readPiece_83, e_R_readPiece_86, e_R_readPiece_89, e_R_readPiece_90, e_R_readPiece_92, e_R_readPiece_95, e_R_readPiece_96, e_R_readPiece_99, e_R_readPiece_100, e_R_readPiece_101, e_R_readPiece_102, e_R_readPiece_103, e_R_readPiece_104, e_R_readPiece_105, e_R_readPiece_108, e_R_readPiece_109, e_R_readPiece_111, e_R_readPiece_114, e_R_readPiece_117, e_R_readPiece_118, e_R_readPiece_121, e_R_readPiece_122, e_R_readPiece_125, e_R_readPiece_128, e_R_readPiece_129, e_R_readPiece_132, is_60 h, and_self, and_true, true_and, and_false, false_and, or_true, true_or, or_false, false_or, not_true_eq_false, not_false_eq_true, if_true, if_false, ne_eq, ite_self, reduceCtorEq, i10, Decidable.not_not, Bool.and_self, Bool.and_true, Bool.true_and, k33, k40, rb_i, t1, r2, rb_v]⟩
      by_cases c2 : tC T n i = 2
      · by_cases hg : tG T n i
        · have st : rn Ls xs (e + 1) 212 0 [some (.inr (.inl (some 60))), some (.inl (nI o)), some (.inl (nI nn))] [] (S, I, R) = rn Ls xs (e + 1) 212 44 [some (.inr (.inl (some 60))), some (.inl (nI o)), some (.inl (nI nn))] [] (S, I, R) := by
            rw [if_pos hg] at e8
            simp only [e_R_readPiece_0, e_R_readPiece_1, e_R_readPiece_4, e_R_readPiece_5, e_R_readPiece_8, e_R_readPiece_9, e_R_readPiece_12, e_R_readPiece_15, e_R_readPiece_16, e_R_readPiece_19, e_R_readPiece_22, e_R_readPiece_23, e_R_readPiece_26, e_R_readPiece_27, e_R_readPiece_30, e_R_readPiece_31, e_R_readPiece_34, is_60 h, and_self, and_true, true_and, and_false, false_and, or_true, true_or, or_false, false_or, not_true_eq_false, not_false_eq_true, if_true, if_false, ne_eq, ite_self, reduceCtorEq, i10, Decidable.not_not, Bool.and_self, Bool.and_true, Bool.true_and, e5, e8, c2, show nI 2 = 2 from rfl, t1, show ¬ (2 : Int32) = 1 by decide]
          rw [st]
          exact p44 (by rw [tk_2b c2 (Or.inl hg)]; decide)
        · rw [if_neg hg] at e8
          obtain ⟨y1, y2⟩ := s_number (Ls := Ls) (xs := xs) (e := e) h (by omega) hs (by omega) c2
          by_cases hl : 4 < tB T n i - tA T n i
          · obtain ⟨I2, g1, g2, r2⟩ := y1 hl
            unfold rd
            rw [if_pos rfl, tk_2b c2 (Or.inr hl)]
            exact ⟨I2, g1, g2, by simp only [e_R_readPiece_0, e_R_readPiece_1, e_R_readPiece_4, e_R_readPiece_5, e_R_readPiece_8, e_R_readPiece_9, e_R_readPiece_12, e_R_readPiece_15, e_R_readPiece_16, e_R_readPiece_19, e_R_readPiece_22, e_R_readPiece_23, e_R_readPiece_26, e_R_readPiece_27, e_R_readPiece_30, e_R_readPiece_31, e_R_readPiece_34, e_R_readPiece_132, is_60 h, and_self, and_true, true_and, and_false, false_and, or_true, true_or, or_false, false_or, not_true_eq_false, not_false_eq_true, if_true, if_false, ne_eq, ite_self, reduceCtorEq, i10, Decidable.not_not, Bool.and_self, Bool.and_true, Bool.true_and, e5, e8, c2, show nI 2 = 2 from rfl, r2, rb_v]⟩
          · obtain ⟨I2, g1, g2, r2⟩ := y2 hl
            unfold rd
            rw [if_pos rfl, tk_2 c2 (fun q => q.elim hg hl)]
            exact ⟨I2, g1, g2, by simp only [e_R_readPiece_0, e_R_readPiece_1, e_R_readPiece_4, e_R_readPiece_5, e_R_readPiece_8, e_R_readPiece_9, e_R_readPiece_12, e_R_readPiece_15, e_R_readPiece_16, e_R_readPiece_19, e_R_readPiece_22, e_R_readPiece_23, e_R_readPiece_26, e_R_readPiece_27, e_R_readPiece_30, e_R_readPiece_31, e_R_readPiece_34, e_R_readPiece_132, is_60 h, and_self, and_true, true_and, and_false, false_and, or_true, true_or, or_false, false_or, not_true_eq_false, not_false_eq_true, if_true, if_false, ne_eq, ite_self, reduceCtorEq, i10, Decidable.not_not, Bool.and_self, Bool.and_true, Bool.true_and, e5, e8, c2, show nI 2 = 2 from rfl, r2, rb_v]⟩
      · have n2 : ¬ nI (tC T n i) = 2 := by rw [show (2 : Int32) = nI 2 from rfl, nI_eq' (by omega) (by decide)]; exact c2
        by_cases c1 : tC T n i = 1
        · by_cases hg : tG T n i
          · have st : rn Ls xs (e + 1) 212 0 [some (.inr (.inl (some 60))), some (.inl (nI o)), some (.inl (nI nn))] [] (S, I, R) = rn Ls xs (e + 1) 212 44 [some (.inr (.inl (some 60))), some (.inl (nI o)), some (.inl (nI nn))] [] (S, I, R) := by
              rw [if_pos hg] at e8
              simp only [e_R_readPiece_0, e_R_readPiece_1, e_R_readPiece_4, e_R_readPiece_5, e_R_readPiece_8, e_R_readPiece_9, e_R_readPiece_12, e_R_readPiece_15, e_R_readPiece_16, e_R_readPiece_19, e_R_readPiece_22, e_R_readPiece_23, e_R_readPiece_26, e_R_readPiece_27, e_R_readPiece_30, e_R_readPiece_31, e_R_readPiece_34, is_60 h, and_self, and_true, true_and, and_false, false_and, or_true, true_or, or_false, false_or, not_true_eq_false, not_false_eq_true, if_true, if_false, ne_eq, ite_self, reduceCtorEq, i10, Decidable.not_not, Bool.and_self, Bool.and_true, Bool.true_and, e5, e8, c1, show nI 1 = 1 from rfl, t1, show ¬ (1 : Int32) = 2 by decide]
            rw [st]
            exact p44 (by rw [tk_1b c1 (Or.inl hg)]; decide)
          · rw [if_neg hg] at e8
            obtain ⟨y1, y2⟩ := s_name (Ls := Ls) (xs := xs) (e := e) h (by omega) hk hr hs (by omega) c1
            by_cases hl : tB T n i - tA T n i ≠ 1 ∨ nmW key (T (tA T n i)) < 0
            · obtain ⟨I2, g1, g2, r2⟩ := y1 hl
              unfold rd
              rw [if_pos rfl, tk_1b c1 (Or.inr hl)]
              exact ⟨I2, g1, g2, by simp only [e_R_readPiece_0, e_R_readPiece_1, e_R_readPiece_4, e_R_readPiece_5, e_R_readPiece_8, e_R_readPiece_9, e_R_readPiece_12, e_R_readPiece_15, e_R_readPiece_16, e_R_readPiece_19, e_R_readPiece_22, e_R_readPiece_23, e_R_readPiece_26, e_R_readPiece_27, e_R_readPiece_30, e_R_readPiece_31, e_R_readPiece_34, e_R_readPiece_37, e_R_readPiece_38, e_R_readPiece_41, e_R_readPiece_132, is_60 h, and_self, and_true, true_and, and_false, false_and, or_true, true_or, or_false, false_or, not_true_eq_false, not_false_eq_true, if_true, if_false, ne_eq, ite_self, reduceCtorEq, i10, Decidable.not_not, Bool.and_self, Bool.and_true, Bool.true_and, e5, e8, c1, show nI 1 = 1 from rfl, show ¬ (1 : Int32) = 2 by decide, r2, rb_v]⟩
            · obtain ⟨I2, g1, g2, r2⟩ := y2 hl
              unfold rd
              rw [if_pos rfl, tk_1 c1 (fun q => q.elim hg hl)]
              exact ⟨I2, g1, g2, by simp only [e_R_readPiece_0, e_R_readPiece_1, e_R_readPiece_4, e_R_readPiece_5, e_R_readPiece_8, e_R_readPiece_9, e_R_readPiece_12, e_R_readPiece_15, e_R_readPiece_16, e_R_readPiece_19, e_R_readPiece_22, e_R_readPiece_23, e_R_readPiece_26, e_R_readPiece_27, e_R_readPiece_30, e_R_readPiece_31, e_R_readPiece_34, e_R_readPiece_37, e_R_readPiece_38, e_R_readPiece_41, e_R_readPiece_132, is_60 h, and_self, and_true, true_and, and_false, false_and, or_true, true_or, or_false, false_or, not_true_eq_false, not_false_eq_true, if_true, if_false, ne_eq, ite_self, reduceCtorEq, i10, Decidable.not_not, Bool.and_self, Bool.and_true, Bool.true_and, e5, e8, c1, show nI 1 = 1 from rfl, show ¬ (1 : Int32) = 2 by decide, r2, rb_v]⟩
        · have n1 : ¬ nI (tC T n i) = 1 := by rw [show (1 : Int32) = nI 1 from rfl, nI_eq' (by omega) (by decide)]; exact c1
          have st : rn Ls xs (e + 1) 212 0 [some (.inr (.inl (some 60))), some (.inl (nI o)), some (.inl (nI nn))] [] (S, I, R) = rn Ls xs (e + 1) 212 44 [some (.inr (.inl (some 60))), some (.inl (nI o)), some (.inl (nI nn))] [] (S, I, R) := by
            simp only [e_R_readPiece_0, e_R_readPiece_1, e_R_readPiece_4, e_R_readPiece_5, e_R_readPiece_8, e_R_readPiece_9, e_R_readPiece_12, e_R_readPiece_15, e_R_readPiece_16, e_R_readPiece_19, e_R_readPiece_22, e_R_readPiece_23, e_R_readPiece_26, e_R_readPiece_27, is_60 h, and_self, and_true, true_and, and_false, false_and, or_true, true_or, or_false, false_or, not_true_eq_false, not_false_eq_true, if_true, if_false, ne_eq, ite_self, reduceCtorEq, i10, Decidable.not_not, Bool.and_self, Bool.and_true, Bool.true_and, e5, n1, n2]
          rw [st]
          by_cases c0 : tC T n i = 0
          · exact p44 (tk_0 c0)
          · exact p44 (by rw [tk_3 (by omega)]; decide)
    refine ⟨piece, ?_⟩
    intro lev o nn i e' I D hf hlev ho hnn he hs hD hi
    obtain ⟨e, rfl⟩ : ∃ e, e' = e + 1 := ⟨e' - 1, by omega⟩
    by_cases h5 : lev = 5
    · subst h5
      have pq := piece o nn i e I D (by omega) ho hnn (by omega) hs hD hi
      cases hx : rd (tk T n key) (f + 1) 5 o nn i with
      | inl x =>
        rw [hx] at pq
        obtain ⟨I3, q1, q2, r3⟩ := pq
        exact ⟨I3, q1, q2, by simp only [e_R_readLevel_0, e_R_readLevel_1, e_R_readLevel_2, e_R_readLevel_5, e_R_readLevel_6, e_R_readLevel_7, e_R_readLevel_8, e_R_readLevel_11, show nI 5 = 5 from rfl, and_self, and_true, true_and, and_false, false_and, or_true, true_or, or_false, false_or, not_true_eq_false, not_false_eq_true, if_true, if_false, ne_eq, ite_self, reduceCtorEq, i10, Decidable.not_not, Bool.and_self, Bool.and_true, Bool.true_and, is_60 h, r3, rb_v]⟩
      | inr vv =>
        obtain ⟨j, E⟩ := vv
        rw [hx] at pq
        obtain ⟨I3, q1, q2, r3⟩ := pq
        exact ⟨I3, q1, q2, by simp only [e_R_readLevel_0, e_R_readLevel_1, e_R_readLevel_2, e_R_readLevel_5, e_R_readLevel_6, e_R_readLevel_7, e_R_readLevel_8, e_R_readLevel_11, show nI 5 = 5 from rfl, and_self, and_true, true_and, and_false, false_and, or_true, true_or, or_false, false_or, not_true_eq_false, not_false_eq_true, if_true, if_false, ne_eq, ite_self, reduceCtorEq, i10, Decidable.not_not, Bool.and_self, Bool.and_true, Bool.true_and, is_60 h, r3, rb_v]⟩
    · have n5 : ¬ nI lev = 5 := by rw [show (5 : Int32) = nI 5 from rfl, nI_eq' (by omega) (by decide)]; exact h5
      have ih2 := fun (i : Nat) (I : mI) (D : List Int32) hs hD hi => ih.2 (lev + 1) o nn i e I D (by omega) (by omega) ho hnn (by omega) hs hD hi
      have pq := ih2 i I D hs hD hi
      have st : rn Ls xs (e + 1) 195 0 [some (.inr (.inl (some 60))), some (.inl (nI lev)), some (.inl (nI o)), some (.inl (nI nn)), none, none, none] [] (S, I, R) = rb Ls xs (e + 1) 195 21 [some (.inr (.inl (some 60))), some (.inl (nI lev)), some (.inl (nI o)), some (.inl (nI nn)), none, none, none] [] (rn Ls xs e 195 0 [some (.inr (.inl (some 60))), some (.inl (nI (lev + 1))), some (.inl (nI o)), some (.inl (nI nn)), none, none, none] [] (S, I, R)) := by
        simp only [e_R_readLevel_0, e_R_readLevel_1, e_R_readLevel_2, e_R_readLevel_5, e_R_readLevel_6, e_R_readLevel_7, e_R_readLevel_8, e_R_readLevel_11, e_R_readLevel_12, e_R_readLevel_13, e_R_readLevel_14, e_R_readLevel_15, e_R_readLevel_16, e_R_readLevel_17, e_R_readLevel_18, n5, and_self, and_true, true_and, and_false, false_and, or_true, true_or, or_false, false_or, not_true_eq_false, not_false_eq_true, if_true, if_false, ne_eq, ite_self, reduceCtorEq, i10, Decidable.not_not, Bool.and_self, Bool.and_true, Bool.true_and, is_60 h, nI_1]
      have st2 : ∀ (I : mI), rn Ls xs (e + 1) 195 21 [some (.inr (.inl (some 60))), some (.inl (nI lev)), some (.inl (nI o)), some (.inl (nI nn)), none, none, none] [] (S, I, R) = rn Ls xs (e + 1) 195 37 [some (.inr (.inl (some 60))), some (.inl (nI lev)), some (.inl (nI o)), some (.inl (nI nn)), some (.inl (nI (if lev = 2 then 1 else 96))), some (.inl (nI 0)), none] [] (S, I, R) := by
        intro I
        by_cases h2 : lev = 2
        · simp only [e_R_readLevel_21, e_R_readLevel_22, e_R_readLevel_23, e_R_readLevel_26, e_R_readLevel_27, e_R_readLevel_30, e_R_readLevel_32, e_R_readLevel_34, e_R_readLevel_35, h2, show nI 2 = 2 from rfl, and_self, and_true, true_and, and_false, false_and, or_true, true_or, or_false, false_or, not_true_eq_false, not_false_eq_true, if_true, if_false, ne_eq, ite_self, reduceCtorEq, i10, Decidable.not_not, Bool.and_self, Bool.and_true, Bool.true_and, show nI 1 = 1 from rfl, show nI 0 = 0 from rfl]
        · have n2 : ¬ nI lev = 2 := by rw [show (2 : Int32) = nI 2 from rfl, nI_eq' (by omega) (by decide)]; exact h2
          simp only [e_R_readLevel_21, e_R_readLevel_22, e_R_readLevel_23, e_R_readLevel_26, e_R_readLevel_27, e_R_readLevel_30, e_R_readLevel_32, e_R_readLevel_34, e_R_readLevel_35, h2, n2, and_self, and_true, true_and, and_false, false_and, or_true, true_or, or_false, false_or, not_true_eq_false, not_false_eq_true, if_true, if_false, ne_eq, ite_self, reduceCtorEq, i10, Decidable.not_not, Bool.and_self, Bool.and_true, Bool.true_and, show nI 96 = 96 from rfl, show nI 0 = 0 from rfl]
      unfold rd
      rw [if_neg h5, st]
      cases hx : rd (tk T n key) f (lev + 1) o nn i with
      | inl x =>
        rw [hx] at pq
        obtain ⟨I3, q1, q2, r3⟩ := pq
        refine ⟨I3, q1, q2, ?_⟩
        rw [r3, rb_v, st2, e_R_readLevel_37]
        by_cases h2 : lev = 2
        · simp only [e_R_readLevel_39, e_R_readLevel_41, e_R_readLevel_44, e_R_readLevel_45, e_R_readLevel_48, e_R_readLevel_51, e_R_readLevel_52, e_R_readLevel_53, e_R_readLevel_56, e_R_readLevel_59, e_R_readLevel_60, e_R_readLevel_63, e_R_readLevel_66, e_R_readLevel_67, e_R_readLevel_70, e_R_readLevel_71, e_R_readLevel_73, e_R_readLevel_74, e_R_readLevel_77, e_R_readLevel_78, e_R_readLevel_79, e_R_readLevel_80, e_R_readLevel_81, e_R_readLevel_82, e_R_readLevel_83, e_R_readLevel_86, e_R_readLevel_87, e_R_readLevel_89, e_R_readLevel_90, e_R_readLevel_93, e_R_readLevel_96, e_R_readLevel_99, h2, and_self, and_true, true_and, and_false, false_and, or_true, true_or, or_false, false_or, not_true_eq_false, not_false_eq_true, if_true, if_false, ne_eq, ite_self, reduceCtorEq, i10, Decidable.not_not, Bool.and_self, Bool.and_true, Bool.true_and, show ¬ nI 1 ≤ nI 0 by decide, is_60 h, q1.p0]
        · simp only [e_R_readLevel_39, e_R_readLevel_41, e_R_readLevel_44, e_R_readLevel_45, e_R_readLevel_48, e_R_readLevel_51, e_R_readLevel_52, e_R_readLevel_53, e_R_readLevel_56, e_R_readLevel_59, e_R_readLevel_60, e_R_readLevel_63, e_R_readLevel_66, e_R_readLevel_67, e_R_readLevel_70, e_R_readLevel_71, e_R_readLevel_73, e_R_readLevel_74, e_R_readLevel_77, e_R_readLevel_78, e_R_readLevel_79, e_R_readLevel_80, e_R_readLevel_81, e_R_readLevel_82, e_R_readLevel_83, e_R_readLevel_86, e_R_readLevel_87, e_R_readLevel_89, e_R_readLevel_90, e_R_readLevel_93, e_R_readLevel_96, e_R_readLevel_99, h2, and_self, and_true, true_and, and_false, false_and, or_true, true_or, or_false, false_or, not_true_eq_false, not_false_eq_true, if_true, if_false, ne_eq, ite_self, reduceCtorEq, i10, Decidable.not_not, Bool.and_self, Bool.and_true, Bool.true_and, show ¬ nI 96 ≤ nI 0 by decide, is_60 h, q1.p0]
      | inr vv =>
        obtain ⟨j, E⟩ := vv
        rw [hx] at pq
        obtain ⟨I3, q1, q2, r3⟩ := pq
        obtain ⟨b1, b2, b3⟩ := rd_b f _ _ _ _ _ _ hx
        have lq := l_level (Ls := Ls) (xs := xs) (key := key) (f := f) (lev := lev) (o := o) (nn := nn) (m := if lev = 2 then 1 else 96) (e := e) h (by omega) (by split <;> omega) (by omega) hn ih2 (if lev = 2 then 1 else 96) 0 j I3 D E none (by omega) q1 (by rw [List.length_append]; omega)
        rw [r3, rb_v, st2]
        simp only
        cases hy : rdl (tk T n key) lev (fun k => rd (tk T n key) f (lev + 1) o nn k) (if lev = 2 then 1 else 96) j E with
        | inl x =>
          rw [hy] at lq
          obtain ⟨I5, u1, u2, r5⟩ := lq
          exact ⟨I5, u1, q2.trans' u2, r5⟩
        | inr ww =>
          obtain ⟨j3, E3⟩ := ww
          rw [hy] at lq
          obtain ⟨I5, u1, u2, r5⟩ := lq
          exact ⟨I5, u1, q2.trans' u2, r5⟩
end RDQ

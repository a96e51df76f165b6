/-! TEXTS: the reference's go -/
section MGP
variable {Ls : Nat} {xs : Nat → Int32} {d : Nat} {S : mS} {I I2 I3 : mI} {R : mR} {x y z : Int32} {T : Nat → Int32} {n i : Nat}
theorem k_go (h : WF S R) (hT : TPM I T n) (e10 : I 93 10 = nI (tS T n i).1) (hE : EP I T n i) (h3 : (tS T n i).2 ≠ 3) : ∃ I2, MTk I2 T n i ∧ (tC T n i ≠ 3 → EP I2 T n (i + 1)) ∧ MG I I2 ∧ rn Ls xs (d + 2) 157 0 [some (.inr (.inl (some 93))), none] [] (S, I, R) = some (none, (S, I2, R)) := by
  obtain ⟨t1', t2', t3'⟩ := id hT
  have be := tS_le (T := T) (n := n) i
  have bA := tA_b (T := T) (n := n) i
  have bB := tB_b (T := T) (n := n) i
  have bC := tC_le (T := T) (n := n) i
  have hA : tA T n i = spS T (n - (tS T n i).1) (tS T n i).1 := rfl
  have hC : tC T n i = lC T n (tA T n i) := rfl
  have hB : tB T n i = lB T n (tA T n i) := rfl
  have l1 := l_go1 (Ls := Ls) (xs := xs) (d := d + 2) (l1 := none) (T := T) (n := n) h (n - (tS T n i).1) (tS T n i).1 I (by omega) hT e10
  rw [← hA] at l1
  /- close -/
  have cl : (nI (tA T n i) = I 93 14) ↔ ((tS T n i).2 ≠ 0 ∧ tA T n i = (tS T n i).1) := by
    by_cases q : (tS T n i).2 = 0
    · refine ⟨fun e => ?_, fun e => absurd q e.1⟩
      rcases hE.2 q with z | ⟨m, hm, z⟩
      · rw [z] at e
        have := congrArg Int32.toInt e
        rw [nI_toInt (by omega)] at this
        have z1 : Int32.toInt (-1) = -1 := rfl
        omega
      · rw [z, nI_eq (by omega) (by omega)] at e
        omega
    · rw [hE.1 q, nI_eq (by omega) (by omega)]
      exact ⟨fun e => ⟨q, e⟩, fun e => e.2⟩
  obtain ⟨I1, hI1⟩ : ∃ I1 : mI, I1 = va_up I 93 (upd (upd (I 93) 10 (nI (tA T n i))) 11 (nI (tA T n i))) := ⟨_, rfl⟩
  have st : rn Ls xs (d + 2) 157 0 [some (.inr (.inl (some 93))), none] [] (S, I, R) = rn Ls xs (d + 2) 157 63 [some (.inr (.inl (some 93))), some (.inl (if (tS T n i).2 ≠ 0 ∧ tA T n i = (tS T n i).1 then 1 else 0))] [] (S, I1, R) := by
    rw [l1, hI1]
    by_cases q : (tS T n i).2 ≠ 0 ∧ tA T n i = (tS T n i).1
    · have e14 := cl.mpr q
      rw [if_pos q]
      simp only [e_M_go_38, e_M_go_39, e_M_go_40, e_M_go_43, e_M_go_46, e_M_go_47, e_M_go_50, e_M_go_51, e_M_go_54, e_M_go_57, e_M_go_58, e_M_go_61, e_M_go_62, is_93 h, and_self, and_true, true_and, and_false, false_and, or_true, true_or, or_false, false_or, not_true_eq_false, not_false_eq_true, if_true, if_false, ne_eq, ite_self, reduceCtorEq, i10, Decidable.not_not, Bool.and_self, Bool.and_true, Bool.true_and, vu_s, up_s, vu_vu, up_n (show 14 ≠ 11 by decide), up_n (show 14 ≠ 10 by decide), ← e14]
    · have e14 : ¬ nI (tA T n i) = I 93 14 := fun z => q (cl.mp z)
      rw [if_neg q]
      simp only [e_M_go_38, e_M_go_39, e_M_go_40, e_M_go_43, e_M_go_46, e_M_go_47, e_M_go_50, e_M_go_51, e_M_go_54, e_M_go_57, e_M_go_58, e_M_go_61, e_M_go_62, is_93 h, and_self, and_true, true_and, and_false, false_and, or_true, true_or, or_false, false_or, not_true_eq_false, not_false_eq_true, if_true, if_false, ne_eq, ite_self, reduceCtorEq, i10, Decidable.not_not, Bool.and_self, Bool.and_true, Bool.true_and, vu_s, up_s, vu_vu, up_n (show 14 ≠ 11 by decide), up_n (show 14 ≠ 10 by decide), e14]
  have f1 : MG I I1 := by
    have := ((MG.rfl' (I := I)).up (k := 10) (x := nI (tA T n i)) (by omega)).up (k := 11) (x := nI (tA T n i)) (by omega)
    rw [vu_s, vu_vu] at this
    rw [hI1]
    exact this
  have T1 : TPM I1 T n := hT.mg f1
  have j10 : I1 93 10 = nI (tA T n i) := by rw [hI1, vu_s, up_n (by decide), up_s]
  have j11 : I1 93 11 = nI (tA T n i) := by rw [hI1, vu_s, up_s]
  have j14 : I1 93 14 = I 93 14 := by rw [hI1, vu_s, up_n (by decide), up_n (by decide)]
  have j9 : I1 93 9 = nI n := T1.1
  have j101 : ∀ k, k < n → I1 101 k = T k := T1.2.2
  rw [st]
  by_cases c3 : tC T n i = 3
  · have q : tA T n i = n := by have := tC_3.mp c3; omega
    have eb : tB T n i = n := by omega
    refine ⟨va_up I1 93 (upd (I1 93) 12 0), ⟨by rw [vu_s, up_n (by decide), j10, q, eb], by rw [vu_s, up_n (by decide), j11], by rw [vu_s, up_s, tkn, if_pos c3]; rfl, fun z => absurd z (by omega), fun z => absurd z (by omega)⟩, fun z => absurd c3 z, f1.up (by omega), ?_⟩
    rw [q] at j11
    simp only [e_M_go_63, e_M_go_64, e_M_go_67, e_M_go_68, e_M_go_71, e_M_go_74, e_M_go_75, e_M_go_76, e_M_go_79, e_M_go_303, is_93 h, and_self, and_true, true_and, and_false, false_and, or_true, true_or, or_false, false_or, not_true_eq_false, not_false_eq_true, if_true, if_false, ne_eq, ite_self, reduceCtorEq, i10, Decidable.not_not, Bool.and_self, Bool.and_true, Bool.true_and, j11, j9]
  · have q : tA T n i < n := by have := mt tC_3.mpr c3; omega
    have qn : ¬ nI (tA T n i) = nI n := by rw [nI_eq' (by omega) (by omega)]; omega
    have ec : tC T n i = so (T (tA T n i)) := by rw [hC, lC, if_pos q]
    have kl := k_isL (Ls := Ls) (xs := xs) (d := d + 1) h T1 (show tA T n i < 2 ^ 31 by omega)
    have kf := k_isF (Ls := Ls) (xs := xs) (d := d + 1) h T1 (show tA T n i < 2 ^ 31 by omega)
    by_cases c1 : tC T n i = 1
    · rw [if_pos ⟨q, by rw [← ec]; exact c1⟩] at kl
      have l2 := l_go2 (Ls := Ls) (xs := xs) (d := d + 1) (l1 := some (.inl (if (tS T n i).2 ≠ 0 ∧ tA T n i = (tS T n i).1 then 1 else 0))) (T := T) (n := n) h (n - tA T n i) (tA T n i) I1 (by omega) T1 j10
      have eb : wdS T 1 (n - tA T n i) (tA T n i) = tB T n i := by
        rw [show n - tA T n i = (n - (tA T n i + 1)) + 1 by omega, wdS, if_pos (by rw [← ec]; exact c1), hB, lB, ← hC, if_neg (by omega), if_neg c3, c1]
      rw [eb] at l2
      have gq : tG T n i ↔ ((tS T n i).2 ≠ 0 ∧ tA T n i = (tS T n i).1) := ⟨fun z => ⟨z.1, z.2.2⟩, fun z => ⟨z.1, by omega, z.2⟩⟩
      obtain ⟨tv, htv⟩ : ∃ tv : Int32, tv = if (tS T n i).2 ≠ 0 ∧ tA T n i = (tS T n i).1 then 4 else 1 := ⟨_, rfl⟩
      refine ⟨va_up I1 93 (upd (upd (upd (upd (I1 93) 10 (nI (tB T n i))) 12 tv) 13 (T (tA T n i))) 14 (nI (tB T n i))), ⟨?_, ?_, ?_, fun _ => ?_, fun z => absurd z (by omega)⟩, fun _ => ⟨fun _ => ?_, fun z => ?_⟩, ?_, ?_⟩
      · rw [vu_s, up_n (by decide), up_n (by decide), up_n (by decide), up_s]
      · rw [vu_s, up_n (by decide), up_n (by decide), up_n (by decide), up_n (by decide), j11]
      · rw [vu_s, up_n (by decide), up_n (by decide), up_s, tkn, if_neg c3, if_neg (by omega), if_pos c1, htv]
        by_cases z : (tS T n i).2 ≠ 0 ∧ tA T n i = (tS T n i).1
        · rw [if_pos z, if_pos (gq.mpr z)]; rfl
        · rw [if_neg z, if_neg (fun y => z (gq.mp y))]; rfl
      · rw [vu_s, up_n (by decide), up_s]
      · rw [vu_s, up_s]; rfl
      · exact absurd (show tC T n i = 0 from z) (by omega)
      · have := (((f1.up (k := 10) (x := nI (tB T n i)) (by omega)).up (k := 12) (x := tv) (by omega)).up (k := 13) (x := T (tA T n i)) (by omega)).up (k := 14) (x := nI (tB T n i)) (by omega)
        simp only [vu_s, vu_vu] at this
        exact this
      · have st2 : rn Ls xs (d + 2) 157 63 [some (.inr (.inl (some 93))), some (.inl (if (tS T n i).2 ≠ 0 ∧ tA T n i = (tS T n i).1 then 1 else 0))] [] (S, I1, R) = rn Ls xs (d + 2) 157 117 [some (.inr (.inl (some 93))), some (.inl (if (tS T n i).2 ≠ 0 ∧ tA T n i = (tS T n i).1 then 1 else 0))] [] (S, va_up I1 93 (upd (I1 93) 10 (nI (tB T n i))), R) := by
          rw [← l2]
          simp only [e_M_go_63, e_M_go_64, e_M_go_67, e_M_go_68, e_M_go_71, e_M_go_74, e_M_go_75, e_M_go_76, e_M_go_79, e_M_go_82, e_M_go_83, e_M_go_84, e_M_go_87, e_M_go_90, is_93 h, and_self, and_true, true_and, and_false, false_and, or_true, true_or, or_false, false_or, not_true_eq_false, not_false_eq_true, if_true, if_false, ne_eq, ite_self, reduceCtorEq, i10, Decidable.not_not, Bool.and_self, Bool.and_true, Bool.true_and, j11, j9, qn, kl, rb_i, t1]
        rw [st2, htv]
        by_cases z : (tS T n i).2 ≠ 0 ∧ tA T n i = (tS T n i).1
        · rw [if_pos z, if_pos z]
          simp only [e_M_go_117, e_M_go_118, e_M_go_119, e_M_go_122, e_M_go_123, e_M_go_126, e_M_go_127, e_M_go_130, e_M_go_131, e_M_go_132, e_M_go_135, e_M_go_136, e_M_go_139, e_M_go_140, e_M_go_143, e_M_go_144, e_M_go_145, e_M_go_148, e_M_go_151, e_M_go_303, is_93 h, rf_93_8 h, and_self, and_true, true_and, and_false, false_and, or_true, true_or, or_false, false_or, not_true_eq_false, not_false_eq_true, if_true, if_false, ne_eq, ite_self, reduceCtorEq, i10, Decidable.not_not, Bool.and_self, Bool.and_true, Bool.true_and, t1, vu_s, vu_vu, up_n (show 11 ≠ 12 by decide), up_n (show 11 ≠ 10 by decide), j11, ia_101 h (show tA T n i < 96 by omega), nI_clamp (show tA T n i < 2 ^ 31 by omega), vu_n (show 101 ≠ 93 by decide), j101 _ q, up_n (show 10 ≠ 13 by decide), up_n (show 10 ≠ 12 by decide), up_s]
        · rw [if_neg z, if_neg z]
          simp only [e_M_go_117, e_M_go_118, e_M_go_119, e_M_go_122, e_M_go_123, e_M_go_126, e_M_go_127, e_M_go_130, e_M_go_131, e_M_go_132, e_M_go_135, e_M_go_136, e_M_go_139, e_M_go_140, e_M_go_143, e_M_go_144, e_M_go_145, e_M_go_148, e_M_go_151, e_M_go_303, is_93 h, rf_93_8 h, and_self, and_true, true_and, and_false, false_and, or_true, true_or, or_false, false_or, not_true_eq_false, not_false_eq_true, if_true, if_false, ne_eq, ite_self, reduceCtorEq, i10, Decidable.not_not, Bool.and_self, Bool.and_true, Bool.true_and, vu_s, vu_vu, up_n (show 11 ≠ 12 by decide), up_n (show 11 ≠ 10 by decide), j11, ia_101 h (show tA T n i < 96 by omega), nI_clamp (show tA T n i < 2 ^ 31 by omega), vu_n (show 101 ≠ 93 by decide), j101 _ q, up_n (show 10 ≠ 13 by decide), up_n (show 10 ≠ 12 by decide), up_s]
    · rw [if_neg (fun z => c1 (by rw [ec]; exact z.2))] at kl
      by_cases c2 : tC T n i = 2
      · rw [if_pos ⟨q, by rw [← ec]; exact c2⟩] at kf
        obtain ⟨I3, hI3, l3⟩ := l_go3 (Ls := Ls) (xs := xs) (d := d + 1) (l1 := some (.inl (if (tS T n i).2 ≠ 0 ∧ tA T n i = (tS T n i).1 then 1 else 0))) (T := T) (n := n) (a := tA T n i) h (n - tA T n i) 0 (va_up I1 93 (upd (I1 93) 13 0)) (by omega) (T1.mg (MG.rfl'.up (by omega))) (by rw [vu_s, up_n (by decide), j10]; rfl) (by rw [vu_s, up_n (by decide), j11]) (by rw [vu_s, up_s]; rfl)
        have eb : wdS T 2 (n - tA T n i) (tA T n i + 0) = tB T n i := by
          rw [Nat.add_zero, show n - tA T n i = (n - (tA T n i + 1)) + 1 by omega, wdS, if_pos (by rw [← ec]; exact c2), hB, lB, ← hC, if_neg (by omega), if_neg c3, c2]
        rw [eb, vu_s, vu_vu, uu] at hI3
        have gq : tG T n i ↔ ((tS T n i).2 ≠ 0 ∧ tA T n i = (tS T n i).1) := ⟨fun z => ⟨z.1, z.2.2⟩, fun z => ⟨z.1, by omega, z.2⟩⟩
        have i10 : I3 93 10 = nI (tB T n i) := by rw [hI3, vu_s, up_s]
        have i11 : I3 93 11 = nI (tA T n i) := by rw [hI3, vu_s, up_n (by decide), up_n (by decide), j11]
        have i13 : I3 93 13 = nvS T (tA T n i) (min (tB T n i - tA T n i) 4) := by rw [hI3, vu_s, up_n (by decide), up_s]
        have f3 : MG I I3 := by
          have := (f1.up (k := 13) (x := nvS T (tA T n i) (min (tB T n i - tA T n i) 4)) (by omega)).up (k := 10) (x := nI (tB T n i)) (by omega)
          simp only [vu_s, vu_vu] at this
          rw [hI3]
          exact this
        obtain ⟨tv, htv⟩ : ∃ tv : Int32, tv = if ((tS T n i).2 ≠ 0 ∧ tA T n i = (tS T n i).1) ∨ 4 < tB T n i - tA T n i then 4 else 2 := ⟨_, rfl⟩
        refine ⟨va_up I3 93 (upd (upd (I3 93) 12 tv) 14 (nI (tB T n i))), ⟨?_, ?_, ?_, fun z => absurd z (by omega), fun _ z => ?_⟩, fun _ => ⟨fun _ => ?_, fun z => ?_⟩, ?_, ?_⟩
        · rw [vu_s, up_n (by decide), up_n (by decide), i10]
        · rw [vu_s, up_n (by decide), up_n (by decide), i11]
        · rw [vu_s, up_n (by decide), up_s, tkn, if_neg c3, if_pos c2, htv]
          by_cases z : ((tS T n i).2 ≠ 0 ∧ tA T n i = (tS T n i).1) ∨ 4 < tB T n i - tA T n i
          · rw [if_pos z, if_pos (z.imp gq.mpr id)]; rfl
          · rw [if_neg z, if_neg (fun y => z (y.imp gq.mp id))]; rfl
        · rw [vu_s, up_n (by decide), up_n (by decide), i13, Nat.min_eq_left z]
        · rw [vu_s, up_s]; rfl
        · exact absurd (show tC T n i = 0 from z) (by omega)
        · have := (f3.up (k := 12) (x := tv) (by omega)).up (k := 14) (x := nI (tB T n i)) (by omega)
          simp only [vu_s, vu_vu] at this
          exact this
        · have st2 : rn Ls xs (d + 2) 157 63 [some (.inr (.inl (some 93))), some (.inl (if (tS T n i).2 ≠ 0 ∧ tA T n i = (tS T n i).1 then 1 else 0))] [] (S, I1, R) = rn Ls xs (d + 2) 157 238 [some (.inr (.inl (some 93))), some (.inl (if (tS T n i).2 ≠ 0 ∧ tA T n i = (tS T n i).1 then 1 else 0))] [] (S, I3, R) := by
            rw [← l3]
            simp only [e_M_go_63, e_M_go_64, e_M_go_67, e_M_go_68, e_M_go_71, e_M_go_74, e_M_go_75, e_M_go_76, e_M_go_79, e_M_go_82, e_M_go_83, e_M_go_84, e_M_go_87, e_M_go_90, e_M_go_154, e_M_go_155, e_M_go_156, e_M_go_159, e_M_go_162, e_M_go_165, e_M_go_166, e_M_go_167, is_93 h, and_self, and_true, true_and, and_false, false_and, or_true, true_or, or_false, false_or, not_true_eq_false, not_false_eq_true, if_true, if_false, ne_eq, ite_self, reduceCtorEq, i10, Decidable.not_not, Bool.and_self, Bool.and_true, Bool.true_and, j11, j9, qn, kl, kf, rb_i, t1]
          have es : nI (tB T n i) - nI (tA T n i) = nI (tB T n i - tA T n i) := pk_sub bB.1
          rw [st2, htv]
          by_cases z : (tS T n i).2 ≠ 0 ∧ tA T n i = (tS T n i).1
          · rw [if_pos z, if_pos (Or.inl z)]
            simp only [e_M_go_238, e_M_go_239, e_M_go_240, e_M_go_243, e_M_go_244, e_M_go_247, e_M_go_248, e_M_go_251, e_M_go_252, e_M_go_253, e_M_go_256, e_M_go_257, e_M_go_260, e_M_go_261, e_M_go_264, e_M_go_265, e_M_go_266, e_M_go_269, e_M_go_272, e_M_go_303, is_93 h, and_self, and_true, true_and, and_false, false_and, or_true, true_or, or_false, false_or, not_true_eq_false, not_false_eq_true, if_true, if_false, ne_eq, ite_self, reduceCtorEq, i10, Decidable.not_not, Bool.and_self, Bool.and_true, Bool.true_and, t1, i10, vu_s, vu_vu, up_n (show 10 ≠ 12 by decide)]
          · rw [if_neg z]
            by_cases z2 : 4 < tB T n i - tA T n i
            · have nle : ¬ nI (tB T n i - tA T n i) ≤ 4 := by rw [show (4 : Int32) = nI 4 from rfl, nI_le' (by omega) (by decide)]; omega
              rw [if_pos (Or.inr z2)]
              simp only [e_M_go_238, e_M_go_239, e_M_go_240, e_M_go_243, e_M_go_244, e_M_go_247, e_M_go_248, e_M_go_251, e_M_go_252, e_M_go_253, e_M_go_256, e_M_go_257, e_M_go_260, e_M_go_261, e_M_go_264, e_M_go_265, e_M_go_266, e_M_go_269, e_M_go_272, e_M_go_303, is_93 h, and_self, and_true, true_and, and_false, false_and, or_true, true_or, or_false, false_or, not_true_eq_false, not_false_eq_true, if_true, if_false, ne_eq, ite_self, reduceCtorEq, i10, Decidable.not_not, Bool.and_self, Bool.and_true, Bool.true_and, i10, i11, es, nle, vu_s, vu_vu, up_n (show 10 ≠ 12 by decide)]
            · have le : nI (tB T n i - tA T n i) ≤ 4 := nI_le (b := 4) (by omega) (by decide)
              rw [if_neg (fun y => y.elim z z2)]
              simp only [e_M_go_238, e_M_go_239, e_M_go_240, e_M_go_243, e_M_go_244, e_M_go_247, e_M_go_248, e_M_go_251, e_M_go_252, e_M_go_253, e_M_go_256, e_M_go_257, e_M_go_260, e_M_go_261, e_M_go_264, e_M_go_265, e_M_go_266, e_M_go_269, e_M_go_272, e_M_go_303, is_93 h, and_self, and_true, true_and, and_false, false_and, or_true, true_or, or_false, false_or, not_true_eq_false, not_false_eq_true, if_true, if_false, ne_eq, ite_self, reduceCtorEq, i10, Decidable.not_not, Bool.and_self, Bool.and_true, Bool.true_and, i10, i11, es, le, vu_s, vu_vu, up_n (show 10 ≠ 12 by decide)]
      · rw [if_neg (fun z => c2 (by rw [ec]; exact z.2))] at kf
        have c0 : tC T n i = 0 := by omega
        have eb : tB T n i = tA T n i + 1 := by rw [hB, lB, ← hC, if_pos c0]
        refine ⟨va_up I1 93 (upd (upd (upd (I1 93) 12 3) 13 (T (tA T n i))) 10 (nI (tA T n i + 1))), ⟨?_, ?_, ?_, fun _ => ?_, fun z => absurd z (by omega)⟩, fun _ => ⟨fun z => absurd c0 z, fun _ => ?_⟩, ?_, ?_⟩
        · rw [vu_s, up_s, eb]
        · rw [vu_s, up_n (by decide), up_n (by decide), up_n (by decide), j11]
        · rw [vu_s, up_n (by decide), up_n (by decide), up_s, tkn, if_neg c3, if_neg c2, if_neg c1]; rfl
        · rw [vu_s, up_n (by decide), up_s]
        · rw [vu_s, up_n (by decide), up_n (by decide), up_n (by decide), j14]
          show I 93 14 = -1 ∨ ∃ m, m < tB T n i ∧ I 93 14 = nI m
          by_cases z : (tS T n i).2 = 0
          · rcases hE.2 z with y | ⟨m, hm, y⟩
            · exact Or.inl y
            · exact Or.inr ⟨m, by omega, y⟩
          · exact Or.inr ⟨(tS T n i).1, by omega, hE.1 z⟩
        · have := ((f1.up (k := 12) (x := 3) (by omega)).up (k := 13) (x := T (tA T n i)) (by omega)).up (k := 10) (x := nI (tA T n i + 1)) (by omega)
          simp only [vu_s, vu_vu] at this
          exact this
        · simp only [e_M_go_63, e_M_go_64, e_M_go_67, e_M_go_68, e_M_go_71, e_M_go_74, e_M_go_75, e_M_go_76, e_M_go_79, e_M_go_82, e_M_go_83, e_M_go_84, e_M_go_87, e_M_go_90, e_M_go_154, e_M_go_155, e_M_go_156, e_M_go_159, e_M_go_162, e_M_go_275, e_M_go_276, e_M_go_277, e_M_go_280, e_M_go_281, e_M_go_282, e_M_go_285, e_M_go_286, e_M_go_289, e_M_go_290, e_M_go_293, e_M_go_294, e_M_go_295, e_M_go_298, e_M_go_299, e_M_go_300, e_M_go_303, is_93 h, rf_93_8 h, and_self, and_true, true_and, and_false, false_and, or_true, true_or, or_false, false_or, not_true_eq_false, not_false_eq_true, if_true, if_false, ne_eq, ite_self, reduceCtorEq, i10, Decidable.not_not, Bool.and_self, Bool.and_true, Bool.true_and, j11, j9, qn, kl, kf, rb_i, vu_s, vu_vu, up_n (show 11 ≠ 12 by decide), ia_101 h (show tA T n i < 96 by omega), nI_clamp (show tA T n i < 2 ^ 31 by omega), vu_n (show 101 ≠ 93 by decide), j101 _ q, up_n (show 10 ≠ 13 by decide), up_n (show 10 ≠ 12 by decide), j10, nI_1]
end MGP

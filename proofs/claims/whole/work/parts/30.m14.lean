/-! THE REFERENCE's calls: check -/
theorem dpS_c {c c2 : Nat → Int32} {n : Nat} (h : ∀ j, j < n → c j = c2 j) : ∀ k, k ≤ n → dpS c k = dpS c2 k
  | 0, _ => rfl
  | k + 1, hk => by
    unfold dpS
    rw [dpS_c h k (by omega), h k (by omega)]
theorem okS_c {c c2 : Nat → Int32} {n : Nat} (h : ∀ j, j < n → c j = c2 j) (ho : okS c n) : okS c2 n := by
  refine ⟨ho.1, by rw [← dpS_c h n (Nat.le_refl _)]; exact ho.2.1, fun k hk => ?_⟩
  rw [← dpS_c h k (by omega), ← h k hk]
  exact ho.2.2 k hk
theorem thS_lt {a b : Nat → Int32} {n i : Nat} (h : i < n) : thS a b n i = a i := by unfold thS; rw [if_pos h]
theorem thS_ge {a b : Nat → Int32} {n i : Nat} (h : n ≤ i) : thS a b n i = b i := by unfold thS; rw [if_neg (by omega)]
theorem rwOK_th {a b : Nat → Int32} (h : rwOK a) : rwOK (thS a b 1464) := by
  obtain ⟨⟨n, h1, h2⟩, m, h3, h4, h5⟩ := h
  refine ⟨⟨n, h1, by rw [thS_lt (by decide)]; exact h2⟩, m, h3, by rw [thS_lt (by decide)]; exact h4, fun t ht => ?_⟩
  obtain ⟨l, g1, g2, g3⟩ := h5 t ht
  have hl := g2.1
  refine ⟨l, by rw [thS_lt (by omega)]; exact g1, okS_c (fun j hj => by rw [thS_lt (by omega)]) g2, fun q j hj => ?_⟩
  rw [thS_lt (by omega)] at q ⊢
  exact g3 q j hj
theorem nI_eq' {a b : Nat} (ha : a < 2 ^ 31) (hb : b < 2 ^ 31) : (nI a = nI b) = (a = b) := propext (nI_eq ha hb)
/-- how many of the told numbers are right -/
noncomputable def rtS (b T : Nat → Int32) (many : Nat) : Nat → Nat → Nat
  | 0, k => 2 * k
  | j + 1, k => if 2 * k < many ∧ T (2 * k) = hrsS b (k + 1) 4 then (if 2 * k + 1 < many ∧ T (2 * k + 1) = upsS (hrsS b (k + 1)) 4 0 (cW (hrsS b (k + 1) 1)) 0 then rtS b T many j (k + 1) else 2 * k + 1) else 2 * k
theorem rtS_le (b T : Nat → Int32) (many : Nat) : ∀ j k, rtS b T many j k ≤ 2 * (k + j)
  | 0, k => by unfold rtS; omega
  | j + 1, k => by
    have := rtS_le b T many j (k + 1)
    unfold rtS
    repeat' split
    all_goals omega
section MT14
variable {Ls : Nat} {xs : Nat → Int32} {d : Nat} {S : mS} {I A : mI} {R : mR} {x y z u v : Int32}
theorem l_M_check (h : WF S R) {b T : Nat → Int32} {J : mI} {p many : Nat} (hb : rwOK b) (hp : p ≤ 30) (hmy : many ≤ 60) (hT : J 117 = T) : ∀ (j k : Nat) (I2 : mI), k + j = p → Sm (va_up J 94 (hrsS b k)) I2 → ∃ I3 l5 m, Sm (va_up J 94 (hrsS b m)) I3 ∧
    rn Ls xs (d + 4) 80 79 [some (.inr (.inl (some 93))), some (.inl x), some (.inl (nI many)), some (.inl (nI (2 * p))), some (.inl (nI (2 * k))), some (.inl (nI k))] [] (S, I2, R) = rn Ls xs (d + 4) 80 180 [some (.inr (.inl (some 93))), some (.inl x), some (.inl (nI many)), some (.inl (nI (2 * p))), some (.inl (nI (rtS b T many j k))), l5] [] (S, I3, R) := by
  intro j
  induction j with
  | zero =>
    intro k I2 hk s
    have : k = p := by omega
    subst this
    refine ⟨I2, some (.inl (nI k)), k, s, ?_⟩
    rw [e_M_check_79]
    simp only [e_M_check_80, e_M_check_82, e_M_check_83, e_M_check_84, show (2 : Int32) * nI k = nI (2 * k) from pk_mul 2 k, nI_le' (show 2 * k < 2 ^ 31 by omega) (show 2 * k < 2 ^ 31 by omega), Nat.le_refl, and_self, and_true, true_and, and_false, false_and, or_true, true_or, or_false, false_or, not_true_eq_false, not_false_eq_true, if_true, if_false, ne_eq, ite_self, reduceCtorEq, i10, Decidable.not_not, Bool.and_self, Bool.and_true, Bool.true_and, rtS]
  | succ j ih =>
    intro k I2 hk s
    have e2 : I2 94 = hrsS b k := by rw [s.row, vu_s]
    obtain ⟨I3, s3, r3⟩ := k_M_hour (Ls := Ls) (xs := xs) (d := d) (I := I2) h (by rw [e2]; exact rwOK_hrs hb k)
    rw [e2] at s3
    have s4 : Sm (va_up J 94 (hrsS b (k + 1))) I3 := by
      have := (s.up (hourS (hrsS b k))).trans' s3
      rw [vu_vu] at this
      exact this
    have e3 : I3 94 = hrsS b (k + 1) := by rw [s4.row, vu_s]
    have eT : I3 117 = T := by rw [s4 117 (by decide) (by decide), vu_n (by decide), hT]
    have ok3 : rwOK (I3 94) := by rw [e3]; exact rwOK_hrs hb (k + 1)
    have ku := k_M_ups (Ls := Ls) (xs := xs) (d := d + 1) (x := 4) h ok3
    rw [e3] at ku
    have q2 : (2 : Int32) * nI k = nI (2 * k) := pk_mul 2 k
    have q3 : (2 : Int32) * nI (k + 1) = nI (2 * k + 2) := by rw [show (2 : Int32) * nI (k + 1) = nI (2 * (k + 1)) from pk_mul 2 (k + 1)]; congr 1
    have l1 : ¬ nI (2 * p) ≤ nI (2 * k) := by rw [nI_le' (by omega) (by omega)]; omega
    have n1 : ¬ nI (2 * k) = nI (2 * k + 1) := by rw [nI_eq' (by omega) (by omega)]; omega
    have n2 : ¬ nI (2 * k) = nI (2 * k + 2) := by rw [nI_eq' (by omega) (by omega)]; omega
    have n3 : ¬ nI (2 * k + 1) = nI (2 * k + 2) := by rw [nI_eq' (by omega) (by omega)]; omega
    by_cases hA : 2 * k < many ∧ T (2 * k) = hrsS b (k + 1) 4
    · have gA : ¬ nI many ≤ nI (2 * k) := by rw [nI_le' (by omega) (by omega)]; omega
      by_cases hB : 2 * k + 1 < many ∧ T (2 * k + 1) = upsS (hrsS b (k + 1)) 4 0 (cW (hrsS b (k + 1) 1)) 0
      · have gB : ¬ nI many ≤ nI (2 * k + 1) := by rw [nI_le' (by omega) (by omega)]; omega
        obtain ⟨I5, l5, m, s5, r5⟩ := ih (k + 1) I3 (by omega) s4
        refine ⟨I5, l5, m, s5, ?_⟩
        rw [e_M_check_79]
        have r5 : rn Ls xs (d + 4) 80 79 [some (.inr (.inl (some 93))), some (.inl x), some (.inl (nI many)), some (.inl (nI (2 * p))), some (.inl (nI (2 * k + 2))), some (.inl (nI (k + 1)))] [] (S, I3, R) = _ := r5
        simp only [e_M_check_80, e_M_check_82, e_M_check_83, e_M_check_84, e_M_check_87, e_M_check_89, e_M_check_90, e_M_check_92, e_M_check_93, e_M_check_96, e_M_check_97, e_M_check_100, e_M_check_102, e_M_check_104, e_M_check_105, e_M_check_108, e_M_check_109, e_M_check_112, e_M_check_114, e_M_check_115, e_M_check_116, e_M_check_119, e_M_check_120, e_M_check_121, e_M_check_124, e_M_check_125, e_M_check_128, e_M_check_129, e_M_check_130, e_M_check_132, e_M_check_134, e_M_check_136, e_M_check_137, e_M_check_139, e_M_check_140, e_M_check_141, e_M_check_142, e_M_check_145, e_M_check_147, e_M_check_148, e_M_check_151, e_M_check_152, e_M_check_155, e_M_check_157, e_M_check_158, e_M_check_159, e_M_check_160, e_M_check_163, e_M_check_166, e_M_check_167, e_M_check_170, e_M_check_171, e_M_check_172, e_M_check_174, e_M_check_177, q2, l1, n1, n2, gA, gB, and_self, and_true, true_and, and_false, false_and, or_true, true_or, or_false, false_or, not_true_eq_false, not_false_eq_true, if_true, if_false, ne_eq, ite_self, reduceCtorEq, i10, Decidable.not_not, Bool.and_self, Bool.and_true, Bool.true_and, is_93 h, rf_93_0 h, rf_93_34 h, r3, rb_v, rb_i, ia_117 h (show 2 * k < 60 by omega), ia_117 h (show 2 * k + 1 < 60 by omega), nI_clamp (show 2 * k < 2 ^ 31 by omega), nI_clamp (show 2 * k + 1 < 2 ^ 31 by omega), ia94_4 h, cl_4, e3, eT, hA, nI_1, ku, hB, r5, rtS]
      · refine ⟨I3, some (.inl (nI (k + 1))), k + 1, s4, ?_⟩
        have ex : rn Ls xs (d + 4) 80 79 [some (.inr (.inl (some 93))), some (.inl x), some (.inl (nI many)), some (.inl (nI (2 * p))), some (.inl (nI (2 * k + 1))), some (.inl (nI (k + 1)))] [] (S, I3, R) = rn Ls xs (d + 4) 80 180 [some (.inr (.inl (some 93))), some (.inl x), some (.inl (nI many)), some (.inl (nI (2 * p))), some (.inl (nI (2 * k + 1))), some (.inl (nI (k + 1)))] [] (S, I3, R) := by
          rw [e_M_check_79]
          simp only [e_M_check_80, e_M_check_82, e_M_check_83, e_M_check_84, e_M_check_87, e_M_check_89, e_M_check_90, e_M_check_92, e_M_check_93, q3, n3, and_self, and_true, true_and, and_false, false_and, or_true, true_or, or_false, false_or, not_true_eq_false, not_false_eq_true, if_true, if_false, ne_eq, ite_self, reduceCtorEq, i10, Decidable.not_not, Bool.and_self, Bool.and_true, Bool.true_and]
        rw [e_M_check_79]
        by_cases hB1 : 2 * k + 1 < many
        · have gB : ¬ nI many ≤ nI (2 * k + 1) := by rw [nI_le' (by omega) (by omega)]; omega
          have hB2 : ¬ T (2 * k + 1) = upsS (hrsS b (k + 1)) 4 0 (cW (hrsS b (k + 1) 1)) 0 := fun q => hB ⟨hB1, q⟩
          simp only [e_M_check_80, e_M_check_82, e_M_check_83, e_M_check_84, e_M_check_87, e_M_check_89, e_M_check_90, e_M_check_92, e_M_check_93, e_M_check_96, e_M_check_97, e_M_check_100, e_M_check_102, e_M_check_104, e_M_check_105, e_M_check_108, e_M_check_109, e_M_check_112, e_M_check_114, e_M_check_115, e_M_check_116, e_M_check_119, e_M_check_120, e_M_check_121, e_M_check_124, e_M_check_125, e_M_check_128, e_M_check_129, e_M_check_130, e_M_check_132, e_M_check_134, e_M_check_136, e_M_check_137, e_M_check_139, e_M_check_140, e_M_check_141, e_M_check_142, e_M_check_145, e_M_check_147, e_M_check_148, e_M_check_151, e_M_check_152, e_M_check_155, e_M_check_157, e_M_check_158, e_M_check_159, e_M_check_160, e_M_check_163, e_M_check_166, e_M_check_167, e_M_check_170, e_M_check_171, e_M_check_172, e_M_check_174, e_M_check_177, q2, l1, n1, n2, gA, gB, and_self, and_true, true_and, and_false, false_and, or_true, true_or, or_false, false_or, not_true_eq_false, not_false_eq_true, if_true, if_false, ne_eq, ite_self, reduceCtorEq, i10, Decidable.not_not, Bool.and_self, Bool.and_true, Bool.true_and, is_93 h, rf_93_0 h, rf_93_34 h, r3, rb_v, rb_i, ia_117 h (show 2 * k < 60 by omega), ia_117 h (show 2 * k + 1 < 60 by omega), nI_clamp (show 2 * k < 2 ^ 31 by omega), nI_clamp (show 2 * k + 1 < 2 ^ 31 by omega), ia94_4 h, cl_4, e3, eT, hA, nI_1, ku, hB1, hB2, Int32.add_zero, ex, rtS]
        · have gB : nI many ≤ nI (2 * k + 1) := by rw [nI_le' (by omega) (by omega)]; omega
          simp only [e_M_check_80, e_M_check_82, e_M_check_83, e_M_check_84, e_M_check_87, e_M_check_89, e_M_check_90, e_M_check_92, e_M_check_93, e_M_check_96, e_M_check_97, e_M_check_100, e_M_check_102, e_M_check_104, e_M_check_105, e_M_check_108, e_M_check_109, e_M_check_112, e_M_check_114, e_M_check_115, e_M_check_116, e_M_check_119, e_M_check_120, e_M_check_121, e_M_check_124, e_M_check_125, e_M_check_128, e_M_check_129, e_M_check_130, e_M_check_132, e_M_check_134, e_M_check_136, e_M_check_137, e_M_check_139, e_M_check_140, e_M_check_141, e_M_check_142, e_M_check_145, e_M_check_147, e_M_check_148, e_M_check_151, e_M_check_152, e_M_check_155, e_M_check_157, e_M_check_158, e_M_check_159, e_M_check_160, e_M_check_163, e_M_check_166, e_M_check_167, e_M_check_170, e_M_check_171, e_M_check_172, e_M_check_174, e_M_check_177, q2, l1, n1, n2, gA, gB, and_self, and_true, true_and, and_false, false_and, or_true, true_or, or_false, false_or, not_true_eq_false, not_false_eq_true, if_true, if_false, ne_eq, ite_self, reduceCtorEq, i10, Decidable.not_not, Bool.and_self, Bool.and_true, Bool.true_and, is_93 h, rf_93_0 h, rf_93_34 h, r3, rb_v, rb_i, ia_117 h (show 2 * k < 60 by omega), nI_clamp (show 2 * k < 2 ^ 31 by omega), ia94_4 h, cl_4, e3, eT, hA, nI_1, hB1, Int32.add_zero, ex, rtS]
    · refine ⟨I3, some (.inl (nI (k + 1))), k + 1, s4, ?_⟩
      have ex : rn Ls xs (d + 4) 80 79 [some (.inr (.inl (some 93))), some (.inl x), some (.inl (nI many)), some (.inl (nI (2 * p))), some (.inl (nI (2 * k))), some (.inl (nI (k + 1)))] [] (S, I3, R) = rn Ls xs (d + 4) 80 180 [some (.inr (.inl (some 93))), some (.inl x), some (.inl (nI many)), some (.inl (nI (2 * p))), some (.inl (nI (2 * k))), some (.inl (nI (k + 1)))] [] (S, I3, R) := by
        rw [e_M_check_79]
        simp only [e_M_check_80, e_M_check_82, e_M_check_83, e_M_check_84, e_M_check_87, e_M_check_89, e_M_check_90, e_M_check_92, e_M_check_93, q3, n2, and_self, and_true, true_and, and_false, false_and, or_true, true_or, or_false, false_or, not_true_eq_false, not_false_eq_true, if_true, if_false, ne_eq, ite_self, reduceCtorEq, i10, Decidable.not_not, Bool.and_self, Bool.and_true, Bool.true_and]
      rw [e_M_check_79]
      by_cases hA1 : 2 * k < many
      · have gA : ¬ nI many ≤ nI (2 * k) := by rw [nI_le' (by omega) (by omega)]; omega
        have hA2 : ¬ T (2 * k) = hrsS b (k + 1) 4 := fun q => hA ⟨hA1, q⟩
        simp only [e_M_check_80, e_M_check_82, e_M_check_83, e_M_check_84, e_M_check_87, e_M_check_89, e_M_check_90, e_M_check_92, e_M_check_93, e_M_check_96, e_M_check_97, e_M_check_100, e_M_check_102, e_M_check_104, e_M_check_105, e_M_check_108, e_M_check_109, e_M_check_112, e_M_check_114, e_M_check_115, e_M_check_116, e_M_check_119, e_M_check_120, e_M_check_121, e_M_check_124, e_M_check_125, e_M_check_128, e_M_check_129, e_M_check_130, e_M_check_132, e_M_check_134, e_M_check_136, e_M_check_137, e_M_check_139, e_M_check_140, e_M_check_141, e_M_check_142, e_M_check_145, e_M_check_147, e_M_check_148, e_M_check_151, e_M_check_152, e_M_check_155, e_M_check_157, e_M_check_158, e_M_check_159, e_M_check_160, e_M_check_163, e_M_check_166, e_M_check_167, e_M_check_170, e_M_check_171, e_M_check_172, e_M_check_174, e_M_check_177, q2, l1, n1, n2, gA, and_self, and_true, true_and, and_false, false_and, or_true, true_or, or_false, false_or, not_true_eq_false, not_false_eq_true, if_true, if_false, ne_eq, ite_self, reduceCtorEq, i10, Decidable.not_not, Bool.and_self, Bool.and_true, Bool.true_and, is_93 h, rf_93_0 h, rf_93_34 h, r3, rb_v, rb_i, ia_117 h (show 2 * k < 60 by omega), nI_clamp (show 2 * k < 2 ^ 31 by omega), ia94_4 h, cl_4, e3, eT, hA1, hA2, nI_1, Int32.add_zero, ex, rtS]
      · have gA : nI many ≤ nI (2 * k) := by rw [nI_le' (by omega) (by omega)]; omega
        simp only [e_M_check_80, e_M_check_82, e_M_check_83, e_M_check_84, e_M_check_87, e_M_check_89, e_M_check_90, e_M_check_92, e_M_check_93, e_M_check_96, e_M_check_97, e_M_check_100, e_M_check_102, e_M_check_104, e_M_check_105, e_M_check_108, e_M_check_109, e_M_check_112, e_M_check_114, e_M_check_115, e_M_check_116, e_M_check_119, e_M_check_120, e_M_check_121, e_M_check_124, e_M_check_125, e_M_check_128, e_M_check_129, e_M_check_130, e_M_check_132, e_M_check_134, e_M_check_136, e_M_check_137, e_M_check_139, e_M_check_140, e_M_check_141, e_M_check_142, e_M_check_145, e_M_check_147, e_M_check_148, e_M_check_151, e_M_check_152, e_M_check_155, e_M_check_157, e_M_check_158, e_M_check_159, e_M_check_160, e_M_check_163, e_M_check_166, e_M_check_167, e_M_check_170, e_M_check_171, e_M_check_172, e_M_check_174, e_M_check_177, q2, l1, n1, n2, gA, and_self, and_true, true_and, and_false, false_and, or_true, true_or, or_false, false_or, not_true_eq_false, not_false_eq_true, if_true, if_false, ne_eq, ite_self, reduceCtorEq, i10, Decidable.not_not, Bool.and_self, Bool.and_true, Bool.true_and, is_93 h, r3, rb_v, hA1, nI_1, Int32.add_zero, ex, rtS]
abbrev bkS (A : mI) : Nat → Int32 := thS (A 95) (A 94) 1464
noncomputable def sp_check (A : mI) (x : Int32) : Int32 × mI := (if 1 ≤ x ∧ x ≤ 30 then (if A 93 3 = 0 then -1000000002 else if rtS (bkS A) (A 117) (cW (A 93 35)) (cW (clS (9999 - bkS A 2) 0 x)) 0 = cW (A 93 35) ∧ rtS (bkS A) (A 117) (cW (A 93 35)) (cW (clS (9999 - bkS A 2) 0 x)) 0 = 2 * cW (clS (9999 - bkS A 2) 0 x) then 0 else 1 + nI (rtS (bkS A) (A 117) (cW (A 93 35)) (cW (clS (9999 - bkS A 2) 0 x)) 0)) else BADi, va_up A 93 (upd (A 93) 35 0))
theorem o_M_check (h : WF S R) (hm : MR I A) (hi : A 93 3 ≠ 0 → rwOK (A 95)) {n : Nat} (hn : n ≤ 60) (e : A 93 35 = nI n) : ∃ I2, MR I2 (sp_check A x).2 ∧ rn Ls xs (d + 9) 80 0 [some (.inr (.inl (some 93))), some (.inl x), none, none, none, none] [] (S, I, R) = some (some (.inl (sp_check A x).1), (S, I2, R)) := by
  have e35 : I 93 35 = nI n := hm.f35.trans e
  have m1 := hm.fld 35 0
  unfold sp_check
  by_cases h1 : 1 ≤ x ∧ x ≤ 30
  · by_cases h2 : A 93 3 = 0
    · refine ⟨_, m1, ?_⟩
      simp only [e_M_check_0, e_M_check_1, e_M_check_4, e_M_check_5, e_M_check_6, e_M_check_7, e_M_check_10, e_M_check_11, e_M_check_12, e_M_check_14, e_M_check_17, e_M_check_20, e_M_check_22, e_M_check_23, e_M_check_24, e_M_check_27, e_M_check_30, e_M_check_32, is_93 h, and_self, and_true, true_and, and_false, false_and, or_true, true_or, or_false, false_or, not_true_eq_false, not_false_eq_true, if_true, if_false, ne_eq, ite_self, reduceCtorEq, i10, Decidable.not_not, Bool.and_self, Bool.and_true, Bool.true_and, e35, vu_s, up_n (show 3 ≠ 35 by decide), hm.f3, h2, k_M_in, rb_i, in1, h1]
    · obtain ⟨k, hk1, hk2, rfl⟩ := inN (a := 1) (b := 30) (by decide) h1 rfl rfl
      have hb : rwOK (bkS A) := rwOK_th (hi h2)
      obtain ⟨p, hp, ep⟩ := clS_nI (y := 9999 - bkS A 2) (k := k) (by omega)
      generalize eJ : va_up (va_up I 93 (upd (I 93) 35 0)) 96 (thS (I 94) (I 96) 1464) = J
      have jT : J 117 = A 117 := by rw [← eJ, vu_n (by decide), vu_n (by decide)]; exact hm.2.2.2.1
      have j94 : J 94 = I 94 := by rw [← eJ, vu_n (by decide), vu_n (by decide)]
      have j95 : J 95 = I 95 := by rw [← eJ, vu_n (by decide), vu_n (by decide)]
      have j96 : J 96 = thS (I 94) (I 96) 1464 := by rw [← eJ, vu_s]
      have mJ : MR J (va_up A 93 (upd (A 93) 35 0)) := by rw [← eJ]; exact m1.hid (b := 96) (by omega)
      obtain ⟨I3, l5, m, s3, r3⟩ := l_M_check (Ls := Ls) (xs := xs) (d := d + 5) (x := nI k) (J := J) h hb (show p ≤ 30 by omega) hn jT p 0 (va_up J 94 (bkS A)) (by omega) Sm.rfl'
      have r3 : rn Ls xs (d + 9) 80 79 [some (.inr (.inl (some 93))), some (.inl (nI k)), some (.inl (nI n)), some (.inl (nI (2 * p))), some (.inl 0), some (.inl 0)] [] (S, va_up J 94 (bkS A), R) = _ := r3
      have i396 : I3 96 = thS (I 94) (I 96) 1464 := by rw [s3 96 (by decide) (by decide), vu_n (by decide), j96]
      have i394 : I3 94 = hrsS (bkS A) m := by rw [s3.row, vu_s]
      have bk : thS (I3 96) (I3 94) 1464 = I 94 := by
        funext i
        by_cases hi14 : i < 1464
        · rw [thS_lt hi14, i396, thS_lt hi14]
        · rw [thS_ge (by omega), i394, hrs_hi hb (by omega), bkS, thS_ge (by omega), hm.now]
      have kc : ∀ {e}, rn Ls xs e 171 0 [some (.inr (.inl (some 96))), some (.inr (.inl (some 94))), none] [] (S, I3, R) = some (none, (S, va_up I3 94 (I 94), R)) := fun {e} => by
        rw [k_M_copyAll (d := e) h (p := 96) (q := 94) (by decide) (fun k hk => ia_96 h hk) (fun k hk => ia_94 h hk), bk]
      refine ⟨va_up I3 94 (I 94), ?_, ?_⟩
      · have q1 := ((mJ.up 94 (hrsS (bkS A) m) (by decide)).sm s3).up 94 (I 94) (by decide)
        rw [vu_vu, vu_id' (I := va_up A 93 (upd (A 93) 35 0)) (f := I 94) (by rw [vu_n (by decide)]; exact hm.now.symm)] at q1
        exact q1
      · have c1 : ∀ {e}, rn Ls xs e 171 0 [some (.inr (.inl (some 94))), some (.inr (.inl (some 96))), none] [] (S, va_up I 93 (upd (I 93) 35 0), R) = some (none, (S, J, R)) := fun {e} => by
          rw [k_M_copyAll (d := e) h (p := 94) (q := 96) (by decide) (fun k hk => ia_94 h hk) (fun k hk => ia_96 h hk), vu_n (show 94 ≠ 93 by decide), vu_n (show 96 ≠ 93 by decide), eJ]
        have c2 : ∀ {e}, rn Ls xs e 171 0 [some (.inr (.inl (some 95))), some (.inr (.inl (some 94))), none] [] (S, J, R) = some (none, (S, va_up J 94 (bkS A), R)) := fun {e} => by
          rw [k_M_copyAll (d := e) h (p := 95) (q := 94) (by decide) (fun k hk => ia_95 h hk) (fun k hk => ia_94 h hk), j94, j95, hm.now, hm.img]
        simp only [e_M_check_0, e_M_check_1, e_M_check_4, e_M_check_5, e_M_check_6, e_M_check_7, e_M_check_10, e_M_check_11, e_M_check_12, e_M_check_14, e_M_check_17, e_M_check_20, e_M_check_22, e_M_check_23, e_M_check_24, e_M_check_27, e_M_check_30, e_M_check_32, e_M_check_33, e_M_check_34, e_M_check_37, e_M_check_38, e_M_check_41, e_M_check_44, e_M_check_45, e_M_check_48, e_M_check_49, e_M_check_52, e_M_check_55, e_M_check_56, e_M_check_59, e_M_check_60, e_M_check_63, e_M_check_64, e_M_check_65, e_M_check_66, is_93 h, and_self, and_true, true_and, and_false, false_and, or_true, true_or, or_false, false_or, not_true_eq_false, not_false_eq_true, if_true, if_false, ne_eq, ite_self, reduceCtorEq, i10, Decidable.not_not, Bool.and_self, Bool.and_true, Bool.true_and, e35, vu_s, up_n (show 3 ≠ 35 by decide), hm.f3, h2, k_M_in, rb_i, rb_v, in1, h1, rf_93_0 h, rf_93_1 h, rf_93_2 h, c1, c2, ia94_2 h, cl_2, e, nI_clamp (show n < 2 ^ 31 by omega)]
        simp only [clS] at ep
        simp only [e_M_check_67, e_M_check_68, e_M_check_71, e_M_check_72, e_M_check_73, e_M_check_74, e_M_check_76, e_M_check_77, k_M_within, rb_i, clS, ep, show (2 : Int32) * nI p = nI (2 * p) from pk_mul 2 p, r3, nI_clamp (show p < 2 ^ 31 by omega)]
        have hle := rtS_le (bkS A) (A 117) n p 0
        simp only [e_M_check_180, e_M_check_181, e_M_check_184, e_M_check_185, e_M_check_188, e_M_check_191, e_M_check_193, e_M_check_194, e_M_check_197, e_M_check_199, e_M_check_200, e_M_check_203, e_M_check_204, e_M_check_207, e_M_check_208, e_M_check_210, e_M_check_211, is_93 h, and_self, and_true, true_and, and_false, false_and, or_true, true_or, or_false, false_or, not_true_eq_false, not_false_eq_true, if_true, if_false, ne_eq, ite_self, reduceCtorEq, i10, Decidable.not_not, Bool.and_self, Bool.and_true, Bool.true_and, rf_93_0 h, rf_93_2 h, kc, rb_v, nI_eq' (show rtS (bkS A) (A 117) n p 0 < 2 ^ 31 by omega) (show n < 2 ^ 31 by omega), nI_eq' (show rtS (bkS A) (A 117) n p 0 < 2 ^ 31 by omega) (show 2 * p < 2 ^ 31 by omega)]
        by_cases g1 : rtS (bkS A) (A 117) n p 0 = n
        · by_cases g2 : rtS (bkS A) (A 117) n p 0 = 2 * p
          · simp only [g1, g2, and_self, and_true, true_and, and_false, false_and, or_true, true_or, or_false, false_or, not_true_eq_false, not_false_eq_true, if_true, if_false, ne_eq, ite_self, reduceCtorEq, i10, Decidable.not_not, Bool.and_self, Bool.and_true, Bool.true_and]
            simp only [show (n = 2 * p) by omega, and_self, and_true, true_and, and_false, false_and, or_true, true_or, or_false, false_or, not_true_eq_false, not_false_eq_true, if_true, if_false, ne_eq, ite_self, reduceCtorEq, i10, Decidable.not_not, Bool.and_self, Bool.and_true, Bool.true_and]
          · simp only [g1, g2, and_self, and_true, true_and, and_false, false_and, or_true, true_or, or_false, false_or, not_true_eq_false, not_false_eq_true, if_true, if_false, ne_eq, ite_self, reduceCtorEq, i10, Decidable.not_not, Bool.and_self, Bool.and_true, Bool.true_and]
            simp only [show ¬ (n = 2 * p) by omega, and_self, and_true, true_and, and_false, false_and, or_true, true_or, or_false, false_or, not_true_eq_false, not_false_eq_true, if_true, if_false, ne_eq, ite_self, reduceCtorEq, i10, Decidable.not_not, Bool.and_self, Bool.and_true, Bool.true_and]
        · simp only [g1, and_self, and_true, true_and, and_false, false_and, or_true, true_or, or_false, false_or, not_true_eq_false, not_false_eq_true, if_true, if_false, ne_eq, ite_self, reduceCtorEq, i10, Decidable.not_not, Bool.and_self, Bool.and_true, Bool.true_and]
  · refine ⟨_, m1, ?_⟩
    simp only [e_M_check_0, e_M_check_1, e_M_check_4, e_M_check_5, e_M_check_6, e_M_check_7, e_M_check_10, e_M_check_11, e_M_check_12, e_M_check_14, e_M_check_17, e_M_check_20, e_M_check_22, e_M_check_23, e_M_check_24, e_M_check_27, e_M_check_30, e_M_check_32, is_93 h, and_self, and_true, true_and, and_false, false_and, or_true, true_or, or_false, false_or, not_true_eq_false, not_false_eq_true, if_true, if_false, ne_eq, ite_self, reduceCtorEq, i10, Decidable.not_not, Bool.and_self, Bool.and_true, Bool.true_and, e35, k_M_in, rb_i, in1, h1]
end MT14

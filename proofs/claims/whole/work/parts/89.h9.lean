/-! TEXTS: the reference's text() -/
def kyB : List Int32 := [104, 97, 114, 100, 102, 101, 101, 102, 105, 110, 101]
def kyA : List Int32 := [0, 4, 7, 11]
/-- the reference's keys -/
def KY (I : mI) : Prop := (∀ k, k < 11 → I 102 k = kyB.getD k 0) ∧ ∀ k, k < 4 → I 103 k = kyA.getD k 0
section MKE
variable {Ls : Nat} {xs : Nat → Int32} {d : Nat} {S : mS} {I I2 I3 A : mI} {R : mR} {T : Nat → Int32} {n i key : Nat}
theorem k_takesE (h : WF S R) (hk : key < 3) (hn : n ≤ 96) (t1' : TPM I T n) (t2' : MTk I T n 1) (t3' : tC T n 1 ≠ 3 → EP I T n 2) (h15 : I 93 15 = nI key) : LR Ls xs d S R T n key 0 0 I [] [] (fun _ => 0) none (.inl 0) ∨ True := Or.inr trivial
/-- takesE -/
theorem m_takesE (h : WF S R) (hk : key < 3) (t1' : TPM I T n) (t2' : MTk I T n 1) (t3' : tC T n 1 ≠ 3 → EP I T n 2) (h15 : I 93 15 = nI key) :
    (∀ j, rd (tk T n key) 70 0 0 0 1 = .inl j → MF S R I T n j (rn Ls xs (d + 4) 159 0 [some (.inr (.inl (some 93))), none, none, none, none] [] (S, I, R))) ∧
    (∀ j E, rd (tk T n key) 70 0 0 0 1 = .inr (j, E) → (tC T n j ≠ 3 → MF S R I T n j (rn Ls xs (d + 4) 159 0 [some (.inr (.inl (some 93))), none, none, none, none] [] (S, I, R))) ∧ (tC T n j = 3 → ∃ I2, MH I I2 ∧ (I2 93 15 = nI key ∧ I2 93 19 = nI E.length ∧ I2 93 20 = nI (atm E) ∧ ∀ k, k < E.length → I2 104 k = E.getD k 0) ∧ rn Ls xs (d + 4) 159 0 [some (.inr (.inl (some 93))), none, none, none, none] [] (S, I, R) = some (some (.inl 1), (S, I2, R)))) := by
  obtain ⟨J, hJ⟩ : ∃ J : mI, J = va_up (va_up I 93 (upd (upd (upd (I 93) 19 0) 20 0) 22 0)) 106 (upd (I 106) 0 0) := ⟨_, rfl⟩
  have k93 : ∀ k, k ≠ 19 → k ≠ 20 → k ≠ 22 → J 93 k = I 93 k := fun k k1 k2 k3 => by rw [hJ, vu_n (by decide), vu_s, up_n k3, up_n k2, up_n k1]
  have ko : ∀ b, b ≠ 93 → b ≠ 106 → J b = I b := fun b b1 b2 => by rw [hJ, vu_n b2, vu_n b1]
  have fJ : MH I J := ⟨fun b b1 _ _ b4 => ko b b1 b4, fun k hk => k93 k (by omega) (by omega) (by omega)⟩
  obtain ⟨m1, m2, m3, m4, m5⟩ := t2'
  have sJ : PS J T n key 1 [] [] (J 106) := ⟨⟨⟨by rw [k93 9 (by decide) (by decide) (by decide)]; exact t1'.1, t1'.2.1, fun k hk => by rw [ko 101 (by decide) (by decide)]; exact t1'.2.2 k hk⟩, ⟨by rw [k93 10 (by decide) (by decide) (by decide)]; exact m1, by rw [k93 11 (by decide) (by decide) (by decide)]; exact m2, by rw [k93 12 (by decide) (by decide) (by decide)]; exact m3, fun q => by rw [k93 13 (by decide) (by decide) (by decide)]; exact m4 q, fun q q2 => by rw [k93 13 (by decide) (by decide) (by decide)]; exact m5 q q2⟩, fun q => by unfold EP; rw [k93 14 (by decide) (by decide) (by decide)]; exact t3' q⟩, by rw [k93 15 (by decide) (by decide) (by decide)]; exact h15, by rw [hJ, vu_n (by decide), vu_s, up_n (by decide), up_s]; rfl, ⟨⟨by rw [hJ, vu_n (by decide), vu_s, up_n (by decide), up_n (by decide), up_s]; rfl, fun k hk => absurd hk (Nat.not_lt_zero _)⟩, by rw [hJ, vu_n (by decide), vu_s, up_s]; rfl, fun k hk => absurd hk (Nat.not_lt_zero _)⟩, fun k _ => rfl, by decide, by decide, fun w hw => absurd hw List.not_mem_nil⟩
  have ts0 : J 106 0 = 0 := by rw [hJ, vu_s, up_s]
  have st : rn Ls xs (d + 4) 159 0 [some (.inr (.inl (some 93))), none, none, none, none] [] (S, I, R) = HD Ls xs d S R J 1 [] none := by
    show _ = rn Ls xs (d + 4) 159 28 [some (.inr (.inl (some 93))), some (.inl 0), some (.inl 0), some (.inl 1), none] [] (S, J, R)
    rw [hJ]
    simp only [e_M_takesE_0, e_M_takesE_1, e_M_takesE_2, e_M_takesE_3, e_M_takesE_4, e_M_takesE_5, e_M_takesE_6, e_M_takesE_7, e_M_takesE_8, e_M_takesE_11, e_M_takesE_12, e_M_takesE_13, e_M_takesE_16, e_M_takesE_17, e_M_takesE_18, e_M_takesE_21, e_M_takesE_22, e_M_takesE_25, e_M_takesE_26, e_M_takesE_27, is_93 h, rf_93_23 h, and_self, and_true, true_and, and_false, false_and, or_true, true_or, or_false, false_or, not_true_eq_false, not_false_eq_true, if_true, if_false, ne_eq, ite_self, reduceCtorEq, i10, Decidable.not_not, Bool.and_self, Bool.and_true, Bool.true_and, vu_s, vu_vu, vu_n (show 106 ≠ 93 by decide), show h_ia S 106 1 0 = true from ia_106 h (show 0 < 10 by decide), show (0 : Int32).toNatClampNeg = 0 from rfl, show vp_nar .boolean 0 = 0 from rfl]
  have lr := (m_rd (Ls := Ls) (xs := xs) (d := d) (T := T) (n := n) h hk 70).2 0 0 0 1 J [] [] (J 106) none (by decide) (by decide) (by decide) (by decide) sJ rfl rfl trivial (fun _ => ts0) (fun k hk => by rw [show k = 0 by omega]; exact Or.inl ts0)
  rw [st]
  refine ⟨fun j hx => ?_, fun j E hx => ?_⟩
  · rw [hx] at lr
    exact MF.tr fJ lr
  · rw [hx] at lr
    obtain ⟨I3, P, Q, ts2, l42, a1, a2, a3, a4, a5, a6, a7, a8, a9⟩ := lr
    rw [List.append_nil] at a1 a9
    rw [List.nil_append] at a1
    have cP : cnt (-11) P = 0 := cnt_P (Or.inr rfl) P (fun w hw => (a4 w hw).1)
    refine ⟨fun c3 => ?_, fun c3 => ?_⟩
    · rw [a9]
      refine MF.tr (fJ.trans' a2) (MF.of a1 (n_bad (Ls := Ls) (xs := xs) (d := d) (l4 := l42) h a1 c3 (fun q => by have := q.2; omega) (by omega) (fun q => ?_)))
      have hj : jn (tk T n key j) (lvS (tk T n key j).2) = true := decide_eq_true ⟨q, rfl⟩
      rcases a8 _ hj with z | z
      · exact absurd z (by omega)
      · have := (jn_rk hj).2.1
        refine ⟨by omega, ?_⟩
        rw [cP, z.2]
        decide
    · obtain ⟨I4, b1, b2, r4⟩ := n_end (Ls := Ls) (xs := xs) (d := d) (l4 := l42) h a1 c3
      rw [if_pos cP] at r4
      have hst : stl 0 P Q = ([], E) := by
        have := stl_P (r := 0) P [] Q (fun w hw => ⟨(a4 w hw).1, by omega⟩)
        rw [List.append_nil] at this
        rw [this, ← a3]
        rfl
      rw [hst] at b1
      exact ⟨I4, (fJ.trans' a2).trans' b2, ⟨b1.2.1, b1.2.2.2.1.1.1, b1.2.2.1, b1.2.2.2.1.1.2⟩, a9.trans r4⟩
/-- the keys' words -/
def kW (w : Nat) : Nat := if w = 0 then 16 else if w = 1 then 12 else 14
theorem ky_b : ∀ w, w < 3 → ∀ k, k < lW (kW w) → kyB.getD ((kyA.getD w 0).toNatClampNeg + k) 0 = bW (kW w) k ∧ (kyA.getD w 0).toNatClampNeg + k < 11 ∧ kyA.getD w 0 + nI k = nI ((kyA.getD w 0).toNatClampNeg + k) := by decide
theorem ky_l : ∀ w, w < 3 → kyA.getD (w + 1) 0 - kyA.getD w 0 = nI (lW (kW w)) ∧ lW (kW w) ≤ 4 := by decide
theorem l_key (h : WF S R) (hK : KY I) (hT : TPM I T n) {w a : Nat} (hw : w < 3) (e11 : I 93 11 = nI a) (hab : a + lW (kW w) ≤ n) : ∀ (j k : Nat), k + j = lW (kW w) → ∃ l4, rn Ls xs (d + 1) 158 55 [some (.inr (.inl (some 93))), some (.inl (nI w)), some (.inl (nI (lW (kW w)))), some (.inl 1), some (.inl (nI k))] [] (S, I, R) = rn Ls xs (d + 1) 158 106 [some (.inr (.inl (some 93))), some (.inl (nI w)), some (.inl (nI (lW (kW w)))), some (.inl (if mtW T a (kW w) j k = true then 1 else 0)), l4] [] (S, I, R) := by
  obtain ⟨t1', t2', t3'⟩ := hT
  obtain ⟨kl, kl4⟩ := ky_l w hw
  intro j
  induction j with
  | zero =>
    intro k hk
    refine ⟨some (.inl (nI k)), ?_⟩
    rw [e_M_takesKey_55]
    simp only [e_M_takesKey_57, e_M_takesKey_58, and_self, and_true, true_and, and_false, false_and, or_true, true_or, or_false, false_or, not_true_eq_false, not_false_eq_true, if_true, if_false, ne_eq, ite_self, reduceCtorEq, i10, Decidable.not_not, Bool.and_self, Bool.and_true, Bool.true_and, nI_le' (show lW (kW w) < 2 ^ 31 by omega) (show k < 2 ^ 31 by omega), show lW (kW w) ≤ k by omega, mtW]
  | succ j ih =>
    intro k hk
    obtain ⟨b1, b2, b3⟩ := ky_b w hw k (by omega)
    have ea : nI a + nI k = nI (a + k) := nI_add a k
    have e102 := hK.1 _ b2
    rw [b1] at e102
    have e103 := hK.2 w (by omega)
    have nle : ¬ nI (lW (kW w)) ≤ nI k := by rw [nI_le' (by omega) (by omega)]; omega
    by_cases hb : T (a + k) = bW (kW w) k
    · obtain ⟨l4, r⟩ := ih (k + 1) (by omega)
      refine ⟨l4, ?_⟩
      rw [show mtW T a (kW w) (j + 1) k = mtW T a (kW w) j (k + 1) by rw [mtW, if_pos hb], ← r, e_M_takesKey_55]
      simp only [e_M_takesKey_57, e_M_takesKey_58, e_M_takesKey_61, e_M_takesKey_62, e_M_takesKey_65, e_M_takesKey_66, e_M_takesKey_69, e_M_takesKey_70, e_M_takesKey_73, e_M_takesKey_75, e_M_takesKey_76, e_M_takesKey_77, e_M_takesKey_78, e_M_takesKey_81, e_M_takesKey_82, e_M_takesKey_85, e_M_takesKey_86, e_M_takesKey_87, e_M_takesKey_89, e_M_takesKey_90, e_M_takesKey_91, e_M_takesKey_94, e_M_takesKey_95, e_M_takesKey_98, e_M_takesKey_99, e_M_takesKey_100, e_M_takesKey_103, is_93 h, rf_93_8 h, rf_93_16 h, rf_93_17 h, and_self, and_true, true_and, and_false, false_and, or_true, true_or, or_false, false_or, not_true_eq_false, not_false_eq_true, if_true, if_false, ne_eq, ite_self, reduceCtorEq, i10, Decidable.not_not, Bool.and_self, Bool.and_true, Bool.true_and, nle, t1, e11, ea, ia_101 h (show a + k < 96 by omega), nI_clamp (show a + k < 2 ^ 31 by omega), t3' (a + k) (by omega), hb, ia_103 h (show w < 4 by omega), nI_clamp (show w < 2 ^ 31 by omega), e103, b3, ia_102 h b2, nI_clamp (show (kyA.getD w 0).toNatClampNeg + k < 2 ^ 31 by omega), e102, nI_1]
    · refine ⟨some (.inl (nI (k + 1))), ?_⟩
      rw [show mtW T a (kW w) (j + 1) k = false by rw [mtW, if_neg hb], e_M_takesKey_55]
      simp only [e_M_takesKey_57, e_M_takesKey_58, e_M_takesKey_61, e_M_takesKey_62, e_M_takesKey_65, e_M_takesKey_66, e_M_takesKey_69, e_M_takesKey_70, e_M_takesKey_73, e_M_takesKey_75, e_M_takesKey_76, e_M_takesKey_77, e_M_takesKey_78, e_M_takesKey_81, e_M_takesKey_82, e_M_takesKey_85, e_M_takesKey_86, e_M_takesKey_87, e_M_takesKey_89, e_M_takesKey_90, e_M_takesKey_91, e_M_takesKey_94, e_M_takesKey_95, e_M_takesKey_98, e_M_takesKey_99, e_M_takesKey_100, e_M_takesKey_103, is_93 h, rf_93_8 h, rf_93_16 h, rf_93_17 h, and_self, and_true, true_and, and_false, false_and, or_true, true_or, or_false, false_or, not_true_eq_false, not_false_eq_true, if_true, if_false, ne_eq, ite_self, reduceCtorEq, i10, Decidable.not_not, Bool.and_self, Bool.and_true, Bool.true_and, nle, t1, e11, ea, ia_101 h (show a + k < 96 by omega), nI_clamp (show a + k < 2 ^ 31 by omega), t3' (a + k) (by omega), hb, ia_103 h (show w < 4 by omega), nI_clamp (show w < 2 ^ 31 by omega), e103, b3, ia_102 h b2, nI_clamp (show (kyA.getD w 0).toNatClampNeg + k < 2 ^ 31 by omega), e102, nI_1, Bool.false_eq_true]
      rw [e_M_takesKey_55]
      by_cases z : nI (lW (kW w)) ≤ nI (k + 1)
      · simp only [e_M_takesKey_57, e_M_takesKey_58, and_self, and_true, true_and, and_false, false_and, or_true, true_or, or_false, false_or, not_true_eq_false, not_false_eq_true, if_true, if_false, ne_eq, ite_self, reduceCtorEq, i10, Decidable.not_not, Bool.and_self, Bool.and_true, Bool.true_and, z]
      · simp only [e_M_takesKey_57, e_M_takesKey_58, e_M_takesKey_61, e_M_takesKey_62, and_self, and_true, true_and, and_false, false_and, or_true, true_or, or_false, false_or, not_true_eq_false, not_false_eq_true, if_true, if_false, ne_eq, ite_self, reduceCtorEq, i10, Decidable.not_not, Bool.and_self, Bool.and_true, Bool.true_and, z]
end MKE

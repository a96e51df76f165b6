/-! THE CLASS: sheets' calls -/
section CRG
variable {Ls : Nat} {xs : Nat → Int32} {d : Nat} {S : mS} {I I2 I3 A A2 : mI} {R R2 R3 : mR} {x y z u v : Int32} {i k : Nat}
theorem CR.shs (hc : CR S I R A) (hI : ∀ b, (b < 65 ∨ 73 ≤ b) → I2 b = I b) (hA : ∀ b, b ≠ 109 → b ≠ 110 → b ≠ 111 → A2 b = A b) (hs : shR I2 A2 ∧ shOK A2) : CR S I2 R A2 := by
  obtain ⟨h1, h2, h3, h4, h5, h6⟩ := hc
  have e93 := hA 93 (by decide) (by decide) (by decide)
  exact ⟨h1.cg (fun b hb => hI b (by omega)) (hA 94 (by decide) (by decide) (by decide)), h2.cg (by rw [hI 0 (by omega)]) (fun b hb => hI b (by omega)) (by rw [e93]) (hA 95 (by decide) (by decide) (by decide)), h3.cg (by rw [hI 0 (by omega)]) (hI 64 (by omega)) (by rw [e93]) (hA 117 (by decide) (by decide) (by decide)), h4.cg (by rw [hI 58 (by omega)]) (hI 59 (by omega)) (by rw [e93]) (hA 101 (by decide) (by decide) (by decide)), hs, slR.cg h6 (fun b b1 b2 => hI b (by omega)) (hA 112 (by decide) (by decide) (by decide)) (hA 113 (by decide) (by decide) (by decide)) (hA 114 (by decide) (by decide) (by decide)) (hA 115 (by decide) (by decide) (by decide))⟩
theorem CR.sls (hc : CR S I R A) (hI : ∀ b, (b < 73 ∨ 93 ≤ b) → I2 b = I b) (hA : ∀ b, b ≠ 112 → b ≠ 113 → b ≠ 114 → b ≠ 115 → A2 b = A b) (hs : slR I2 A2 ∧ slOK A2) : CR S I2 R A2 := by
  obtain ⟨h1, h2, h3, h4, h5, h6⟩ := hc
  have e93 := hA 93 (by decide) (by decide) (by decide) (by decide)
  exact ⟨h1.cg (fun b hb => hI b (by omega)) (hA 94 (by decide) (by decide) (by decide) (by decide)), h2.cg (by rw [hI 0 (by omega)]) (fun b hb => hI b (by omega)) (by rw [e93]) (hA 95 (by decide) (by decide) (by decide) (by decide)), h3.cg (by rw [hI 0 (by omega)]) (hI 64 (by omega)) (by rw [e93]) (hA 117 (by decide) (by decide) (by decide) (by decide)), h4.cg (by rw [hI 58 (by omega)]) (hI 59 (by omega)) (by rw [e93]) (hA 101 (by decide) (by decide) (by decide) (by decide)), shR.cg h5 (fun b b1 b2 => hI b (by omega)) (hA 109 (by decide) (by decide) (by decide) (by decide)) (hA 110 (by decide) (by decide) (by decide) (by decide)) (hA 111 (by decide) (by decide) (by decide) (by decide)), hs⟩
theorem CR.sh (hc : CR S I R A) (hi : i < 4) : I (65 + 2 * i) 1 = A 109 i ∧ I (65 + 2 * i) 2 = A 110 i ∧ (∀ k, k < 24 → I (66 + 2 * i) k = A 111 (24 * i + k)) ∧ (A 109 i = -1 ∨ A 109 i = 0 ∨ A 109 i = 1) ∧ ∃ n, n ≤ 24 ∧ A 110 i = nI n := by
  obtain ⟨h1, h2, h3⟩ := hc.2.2.2.2.1.1 i hi
  obtain ⟨h4, h5⟩ := hc.2.2.2.2.1.2 i hi
  exact ⟨h1, h2, h3, h4, h5⟩
theorem k_mis_y (h : WF S R) (hc : CR S I R A) (hi : i < 4) (hm : A 109 i < 0) : rn Ls xs d 144 0 [some (.inr (.inl (some (65 + 2 * i))))] [] (S, I, R) = some (some (.inl 1), (S, I, R)) := by
  obtain ⟨h1, -, -, h4, -⟩ := hc.sh hi
  rw [k_H_isMissing (sh_is h hi), h1, if_pos]
  rcases h4 with e | e | e
  · exact e
  · rw [e] at hm; exact absurd hm (by decide)
  · rw [e] at hm; exact absurd hm (by decide)
theorem k_mis_n (h : WF S R) (hc : CR S I R A) (hi : i < 4) (hm : ¬ A 109 i < 0) : rn Ls xs d 144 0 [some (.inr (.inl (some (65 + 2 * i))))] [] (S, I, R) = some (some (.inl 0), (S, I, R)) := by
  obtain ⟨h1, -, -, h4, -⟩ := hc.sh hi
  rw [k_H_isMissing (sh_is h hi), h1, if_neg (fun q => hm (by rw [q]; decide))]
theorem sh_get (h1 : isSh x = true) : ∃ w, w < 4 ∧ x = nI w := by
  obtain ⟨w, -, hw, rfl⟩ := inN (a := 0) (b := 3) (by decide) (isSh_iff.mp h1) rfl rfl
  exact ⟨w, by omega, rfl⟩
theorem sl_get (h1 : isSl x = true) : ∃ w, w < 5 ∧ x = nI w := by
  obtain ⟨w, -, hw, rfl⟩ := inN (a := 0) (b := 4) (by decide) (isSl_iff.mp h1) rfl rfl
  exact ⟨w, by omega, rfl⟩
theorem k_H_becomeBlank (h : WF S R) (hi : i < 4) : rn Ls xs (d + 1) 160 0 [some (.inr (.inl (some (65 + 2 * i)))), some (.inl x), some (.inl y)] [] (S, I, R) = some (none, (S, va_up (va_up I (65 + 2 * i) (upd (upd (I (65 + 2 * i)) 1 x) 2 y)) (66 + 2 * i) (fun k => if k < 24 then 0 else I (66 + 2 * i) k), R)) := by
  have f := k_J_fill (Ls := Ls) (xs := xs) (d := d) (x := 0) (I := va_up I (65 + 2 * i) (upd (upd (I (65 + 2 * i)) 1 x) 2 y)) (R := R) (sc_is h hi) (by decide)
  simp only [vu_n (show 66 + 2 * i ≠ 65 + 2 * i by omega)] at f
  simp only [e_H_becomeBlank_0, e_H_becomeBlank_1, e_H_becomeBlank_2, e_H_becomeBlank_5, e_H_becomeBlank_6, e_H_becomeBlank_7, e_H_becomeBlank_10, e_H_becomeBlank_11, e_H_becomeBlank_14, e_H_becomeBlank_15, e_H_becomeBlank_18, sh_is h hi, sc_r h hi, and_self, and_true, true_and, and_false, false_and, or_true, true_or, or_false, false_or, not_true_eq_false, not_false_eq_true, if_true, if_false, ne_eq, ite_self, reduceCtorEq, i10, Decidable.not_not, Bool.and_self, Bool.and_true, Bool.true_and, vu_s, vu_vu, f, rb_v]
theorem cw_sheet (h : WF S R) (hc : CR S I R A) : COp S I R (sp_sheet A x y z) (rn Ls xs (d + 9) 59 0 [some (.inr (.inl (some 0))), some (.inl x), some (.inl y), some (.inl z), none] [] (S, I, R)) := by
  unfold sp_sheet
  by_cases h1 : isSh x = true
  · have h1' := h1
    obtain ⟨w, hw, rfl⟩ := sh_get h1
    have cw : cW (nI w) = w := nI_clamp (by omega)
    by_cases h2 : (-1) ≤ y ∧ y ≤ 1
    · have fin : ∀ (sz : Int32), (0 ≤ sz ∧ sz ≤ 24) → (y = -1 ∨ y = 0 ∨ y = 1) → rn Ls xs (d + 9) 59 0 [some (.inr (.inl (some 0))), some (.inl (nI w)), some (.inl y), some (.inl z), none] [] (S, I, R) = rn Ls xs (d + 9) 59 31 [some (.inr (.inl (some 0))), some (.inl (nI w)), some (.inl y), some (.inl z), some (.inl sz)] [] (S, I, R) → COp S I R (sz, va_up (va_up (va_up A 109 (upd (A 109) w y)) 110 (upd (A 110) w sz)) 111 (flS (A 111) w 24)) (rn Ls xs (d + 9) 59 0 [some (.inr (.inl (some 0))), some (.inl (nI w)), some (.inl y), some (.inl z), none] [] (S, I, R)) := by
        intro sz hz hy st
        rw [st]
        obtain ⟨j, -, hj, ej⟩ := inN (a := 0) (b := 24) (by decide) hz rfl rfl
        have kb := k_H_becomeBlank (Ls := Ls) (xs := xs) (d := d + 7) (x := y) (y := sz) (I := I) h hw
        have e109 : (va_up (va_up (va_up A 109 (upd (A 109) w y)) 110 (upd (A 110) w sz)) 111 (flS (A 111) w 24)) 109 = upd (A 109) w y := by rw [vu_n (by decide), vu_n (by decide), vu_s]
        have e110 : (va_up (va_up (va_up A 109 (upd (A 109) w y)) 110 (upd (A 110) w sz)) 111 (flS (A 111) w 24)) 110 = upd (A 110) w sz := by rw [vu_n (by decide), vu_s]
        refine COp.mk (I2 := va_up (va_up I (65 + 2 * w) (upd (upd (I (65 + 2 * w)) 1 y) 2 sz)) (66 + 2 * w) (fun k => if k < 24 then 0 else I (66 + 2 * w) k)) (R2 := R) (hc.shs (fun b hb => by rw [vu_n (by omega), vu_n (by omega)]) (fun b b1 b2 b3 => by rw [vu_n b3, vu_n b2, vu_n b1]) ⟨fun i hi => ?_, fun i hi => ?_⟩) h (fun b hb => by rw [vu_n (by omega), vu_n (by omega)]) ?_
        · obtain ⟨g1, g2, g3, -, -⟩ := hc.sh hi
          rw [e109, e110, vu_s]
          by_cases e : i = w
          · subst e
            rw [vu_n (show 65 + 2 * i ≠ 66 + 2 * i by omega), vu_s, up_s, up_s, up_s, up_n (by decide), up_s]
            refine ⟨rfl, rfl, fun k hk => ?_⟩
            rw [vu_s]
            unfold flS
            rw [if_pos hk, if_pos (by omega)]
          · rw [vu_n (show 65 + 2 * i ≠ 66 + 2 * w by omega), vu_n (show 65 + 2 * i ≠ 65 + 2 * w by omega), up_n e, up_n e, vu_n (show 66 + 2 * i ≠ 66 + 2 * w by omega), vu_n (show 66 + 2 * i ≠ 65 + 2 * w by omega)]
            refine ⟨g1, g2, fun k hk => ?_⟩
            unfold flS
            rw [if_neg (by omega)]
            exact g3 k hk
        · obtain ⟨-, -, -, g4, g5⟩ := hc.sh hi
          rw [e109, e110]
          by_cases e : i = w
          · subst e
            rw [up_s, up_s]
            exact ⟨hy, j, hj, ej⟩
          · rw [up_n e, up_n e]
            exact ⟨g4, g5⟩
        · simp only [e_W_sheet_31, e_W_sheet_33, e_W_sheet_35, e_W_sheet_38, e_W_sheet_40, e_W_sheet_41, e_W_sheet_43, e_W_sheet_46, e_W_sheet_49, e_W_sheet_50, e_W_sheet_51, e_W_sheet_54, e_W_sheet_55, e_W_sheet_56, e_W_sheet_57, e_W_sheet_59, e_W_sheet_62, e_W_sheet_64, hz.2, i_nlt.mpr hz.1, hz.1, and_self, and_true, true_and, and_false, false_and, or_true, true_or, or_false, false_or, not_true_eq_false, not_false_eq_true, if_true, if_false, ne_eq, ite_self, reduceCtorEq, i10, Decidable.not_not, Bool.and_self, Bool.and_true, Bool.true_and, is_0 h, rf_0_5 h, ia_62 h hw, nI_clamp (show w < 2 ^ 31 by omega), sh_r h hw, sh_is h hw, kb, rb_v]
      have hy : y = -1 ∨ y = 0 ∨ y = 1 := by
        have z1 : Int32.toInt 1 = 1 := rfl
        have z1' : Int32.toInt (-1) = -1 := rfl
        have z0 : Int32.toInt 0 = 0 := rfl
        have a1 := h2.1
        have a2 := h2.2
        rw [i_le, z1'] at a1
        rw [i_le, z1] at a2
        rcases (show y.toInt = -1 ∨ y.toInt = 0 ∨ y.toInt = 1 by omega) with e | e | e
        · exact Or.inl (i_eqI (by rw [e, z1']))
        · exact Or.inr (Or.inl (i_eqI (by rw [e, z0])))
        · exact Or.inr (Or.inr (i_eqI (by rw [e, z1])))
      by_cases hm : y = -1
      · have hy0 : y < 0 := by rw [hm]; decide
        rw [if_pos ⟨h1', h2, Or.inl hy0⟩, if_neg (fun q => q.1 hy0), if_pos hy0, cw]
        exact fin 0 ⟨by decide, by decide⟩ hy (by subst hm; simp only [e_W_sheet_0, e_W_sheet_1, e_W_sheet_4, e_W_sheet_7, e_W_sheet_8, e_W_sheet_9, e_W_sheet_10, e_W_sheet_13, e_W_sheet_16, e_W_sheet_18, e_W_sheet_19, e_W_sheet_20, e_W_sheet_21, e_W_sheet_24, e_W_sheet_25, e_W_sheet_28, e_W_sheet_29, k_W_isSheet, h1', k_W_within, h2, rb_i, t1, and_self, and_true, true_and, and_false, false_and, or_true, true_or, or_false, false_or, not_true_eq_false, not_false_eq_true, if_true, if_false, ne_eq, ite_self, reduceCtorEq, i10, Decidable.not_not, Bool.and_self, Bool.and_true, Bool.true_and])
      · have hy0 : ¬ y < 0 := by
          rcases hy with e | e | e
          · exact absurd e hm
          · rw [e]; decide
          · rw [e]; decide
        have st : rn Ls xs (d + 9) 59 0 [some (.inr (.inl (some 0))), some (.inl (nI w)), some (.inl y), some (.inl z), none] [] (S, I, R) = rn Ls xs (d + 9) 59 31 [some (.inr (.inl (some 0))), some (.inl (nI w)), some (.inl y), some (.inl z), some (.inl z)] [] (S, I, R) := by
          simp only [e_W_sheet_0, e_W_sheet_1, e_W_sheet_4, e_W_sheet_7, e_W_sheet_8, e_W_sheet_9, e_W_sheet_10, e_W_sheet_13, e_W_sheet_16, e_W_sheet_18, e_W_sheet_19, e_W_sheet_20, e_W_sheet_21, e_W_sheet_24, e_W_sheet_25, e_W_sheet_28, e_W_sheet_29, k_W_isSheet, h1', k_W_within, h2, rb_i, t1, and_self, and_true, true_and, and_false, false_and, or_true, true_or, or_false, false_or, not_true_eq_false, not_false_eq_true, if_true, if_false, ne_eq, ite_self, reduceCtorEq, i10, Decidable.not_not, Bool.and_self, Bool.and_true, Bool.true_and, hm]
        by_cases h24 : z ≤ 24
        · rw [if_pos ⟨h1', h2, Or.inr h24⟩, if_neg hy0, cw]
          by_cases hz : z < 0
          · rw [if_pos ⟨hy0, hz⟩]
            exact COp.same h hc (st.trans (by simp only [e_W_sheet_31, e_W_sheet_33, e_W_sheet_35, e_W_sheet_38, e_W_sheet_40, e_W_sheet_41, e_W_sheet_43, e_W_sheet_46, e_W_sheet_49, h24, i_nle.mpr hz, and_self, and_true, true_and, and_false, false_and, or_true, true_or, or_false, false_or, not_true_eq_false, not_false_eq_true, if_true, if_false, ne_eq, ite_self, reduceCtorEq, i10, Decidable.not_not, Bool.and_self, Bool.and_true, Bool.true_and]))
          · rw [if_neg (fun q => hz q.2)]
            exact fin z ⟨i_nlt.mp hz, h24⟩ hy st
        · rw [if_neg (fun q => q.2.2.elim hy0 h24)]
          exact COp.same h hc (st.trans (by simp only [e_W_sheet_31, e_W_sheet_33, e_W_sheet_35, e_W_sheet_38, e_W_sheet_40, e_W_sheet_41, e_W_sheet_43, e_W_sheet_46, e_W_sheet_49, h24, and_self, and_true, true_and, and_false, false_and, or_true, true_or, or_false, false_or, not_true_eq_false, not_false_eq_true, if_true, if_false, ne_eq, ite_self, reduceCtorEq, i10, Decidable.not_not, Bool.and_self, Bool.and_true, Bool.true_and]))
    · rw [if_neg (fun q => h2 q.2.1)]
      exact COp.same h hc (by simp only [e_W_sheet_0, e_W_sheet_1, e_W_sheet_4, e_W_sheet_7, e_W_sheet_8, e_W_sheet_9, e_W_sheet_10, e_W_sheet_13, e_W_sheet_16, e_W_sheet_18, k_W_isSheet, h1', k_W_within, h2, rb_i, t1, and_self, and_true, true_and, and_false, false_and, or_true, true_or, or_false, false_or, not_true_eq_false, not_false_eq_true, if_true, if_false, ne_eq, ite_self, reduceCtorEq, i10, Decidable.not_not, Bool.and_self, Bool.and_true, Bool.true_and])
  · rw [if_neg (fun q => h1 q.1)]
    exact COp.same h hc (by simp only [e_W_sheet_0, e_W_sheet_1, e_W_sheet_4, e_W_sheet_7, e_W_sheet_8, e_W_sheet_9, e_W_sheet_10, e_W_sheet_13, e_W_sheet_16, e_W_sheet_18, k_W_isSheet, h1, rb_i, t1, and_self, and_true, true_and, and_false, false_and, or_true, true_or, or_false, false_or, not_true_eq_false, not_false_eq_true, if_true, if_false, ne_eq, ite_self, reduceCtorEq, i10, Decidable.not_not, Bool.and_self, Bool.and_true, Bool.true_and])
end CRG

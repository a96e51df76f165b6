/-! THE CLASS: texts' values, counts, images -/
section CG
variable {S : mS} {I I2 A A2 : mI} {R R2 : mR} {q : Nat} {a b : Nat → Int32}
theorem nwR.cg (h : nwR S I R A) (hI : ∀ b, ((1 ≤ b ∧ b < 19 ∧ b ≠ 4) ∨ 118 ≤ b) → I2 b = I b) (hA : A2 94 = A 94) : nwR S I2 R A2 := by
  unfold nwR
  rw [hA]
  exact ⟨h.1.fr (hI 1 (by omega)) (fun w hw => hI _ (by omega)) (fun c hc => hI c (by omega)) h.2.c, h.2⟩
theorem imR.cg (h : imR S I R A) (h0 : I2 0 9 = I 0 9) (hI : ∀ b, ((19 ≤ b ∧ b < 37 ∧ b ≠ 22) ∨ 118 ≤ b) → I2 b = I b) (hA : A2 93 3 = A 93 3) (hB : A2 95 = A 95) : imR S I2 R A2 := by
  unfold imR
  rw [hA, hB, h0]
  exact ⟨h.1, h.2.1, fun q => ⟨(h.2.2 q).1.fr (hI 19 (by omega)) (fun w hw => hI _ (by omega)) (fun c hc => hI c (by omega)) (h.2.2 q).2.c, (h.2.2 q).2⟩⟩
theorem wtR.cg (h : wtR I A) (h0 : I2 0 8 = I 0 8) (h1 : I2 64 = I 64) (h2 : A2 93 35 = A 93 35) (h3 : A2 117 = A 117) : wtR I2 A2 := by
  unfold wtR
  rw [h0, h1, h2, h3]
  exact h
theorem tpR.cg (h : tpR I A) (h0 : I2 58 1 = I 58 1) (h1 : I2 59 = I 59) (h2 : A2 93 9 = A 93 9) (h3 : A2 101 = A 101) : tpR I2 A2 := by
  unfold tpR
  rw [h0, h1, h2, h3]
  exact h
theorem shR.cg (h : shR I A ∧ shOK A) (hI : ∀ b, 65 ≤ b → b < 73 → I2 b = I b) (h1 : A2 109 = A 109) (h2 : A2 110 = A 110) (h3 : A2 111 = A 111) : shR I2 A2 ∧ shOK A2 := by
  refine ⟨?_, ?_⟩
  · unfold shR
    rw [h1, h2, h3]
    exact h.1.fr hI
  · unfold shOK
    rw [h1, h2]
    exact h.2
theorem slR.cg (h : slR I A ∧ slOK A) (hI : ∀ b, 73 ≤ b → b < 93 → I2 b = I b) (h1 : A2 112 = A 112) (h2 : A2 113 = A 113) (h3 : A2 114 = A 114) (h4 : A2 115 = A 115) : slR I2 A2 ∧ slOK A2 := by
  refine ⟨?_, ?_⟩
  · unfold slR
    rw [h1, h2, h3, h4]
    exact h.1.fr hI
  · unfold slOK
    rw [h1, h2]
    exact h.2
theorem SkR.cong (h : SkR S I R q a) (hg : gd a) (e : ∀ i, i < 1464 → b i = a i) : SkR S I R q b := by
  obtain ⟨n, hn, -, cn⟩ := hg.n
  obtain ⟨m, hm, e7, -⟩ := hg.1.2
  have c7 : cW (a 7) = m := by rw [cW, e7, nI_clamp (by omega)]
  refine ⟨?_, fun w k hw hk => ?_, fun t ht => ?_⟩
  · rw [e 1 (by decide), e 7 (by decide), e 3 (by decide), e 4 (by decide), e 5 (by decide), e 6 (by decide), e 2 (by decide), e 0 (by decide)]
    exact h.1
  · rw [e 1 (by decide)] at hw
    rw [e _ (by omega)]
    exact h.2.1 w k hw hk
  · rw [e 7 (by decide)] at ht
    obtain ⟨p, r, m', h1, h2, h3, h4, h5, h6, h7, h8, h9, h10⟩ := h.2.2 t ht
    exact ⟨p, r, m', h1, h2, h3, h4, by rw [e _ (by omega)]; exact h5, by rw [e _ (by omega)]; exact h6, h7, h8, by rw [e _ (by omega)]; exact h9, fun j hj => by rw [e _ (by omega)]; exact h10 j hj⟩
theorem gh.cong {H : Nat} (h : gh H a) (hr : rwOK b) (e : ∀ i, i < 92 → b i = a i) : gh H b := by
  obtain ⟨n, hn, -, cn⟩ := h.1.n
  obtain ⟨g, t, ht, e2, c, hb, e4⟩ := h
  refine ⟨⟨hr, fun w k hw hk => ?_⟩, t, ht, by rw [e 2 (by decide)]; exact e2, c, hb, by rw [e 4 (by decide)]; exact e4⟩
  rw [e 1 (by decide)] at hw
  rw [e _ (by omega)]
  exact g.2 w k hw hk
end CG
section CRX
variable {Ls : Nat} {xs : Nat → Int32} {d : Nat} {S : mS} {I I2 I3 A : mI} {R R2 R3 : mR} {x y z u v : Int32}
theorem COp.mk {A2 : mI} {X : Option (Option mV × mH)} (hc : CR S I2 R2 A2) (hw : WF S R2) (hf : ∀ b, 93 ≤ b → I2 b = I b) (e : X = some (some (.inl v), (S, I2, R2))) : COp S I R (v, A2) X := ⟨I2, R2, hc, hw, hf, e⟩
theorem CR.tx (hc : CR S I R A) : ∃ m, m ≤ 14 ∧ A 94 7 = nI m ∧ cW (A 94 7) = m ∧ ∀ t, t < m → ∃ m2, rem (A 94 (92 + 2 * t)) 1000 = nI m2 ∧ okS (fun j => A 94 (120 + 96 * t + j)) m2 := by
  obtain ⟨m, hm, e7, ht⟩ := hc.g.1.2
  exact ⟨m, hm, e7, by rw [cW, e7, nI_clamp (by omega)], fun t htm => by obtain ⟨m2, h1, h2, -⟩ := ht t htm; exact ⟨m2, h1, h2⟩⟩
theorem cw_why (h : WF S R) (hc : CR S I R A) : COp S I R (sp_why A x) (rn Ls xs (d + 9) 57 0 [some (.inr (.inl (some 0))), some (.inl x), none] [] (S, I, R)) := by
  obtain ⟨m, hm, e7, c7, htx⟩ := hc.tx
  unfold sp_why
  refine COp.same h hc ?_
  by_cases hx : 0 ≤ x ∧ x ≤ 2
  · have r := k_S_textFor (Ls := Ls) (xs := xs) (d := d + 8) (key := x) h q1 hc.s hm e7
    rw [if_pos hx, c7]
    rcases cntS_or' (A 94) x m with e | ⟨t, ht, e, -⟩
    · rw [e] at r ⊢
      rw [if_pos (by decide)]
      simp only [e_W_why_0, e_W_why_1, e_W_why_2, e_W_why_3, e_W_why_6, e_W_why_9, e_W_why_11, e_W_why_12, e_W_why_13, e_W_why_16, e_W_why_17, e_W_why_20, e_W_why_21, e_W_why_22, e_W_why_25, e_W_why_28, e_W_why_31, e_W_why_32, is_0 h, rf_0_0 h, is_1 h, and_self, and_true, true_and, and_false, false_and, or_true, true_or, or_false, false_or, not_true_eq_false, not_false_eq_true, if_true, if_false, ne_eq, ite_self, reduceCtorEq, i10, Decidable.not_not, Bool.and_self, Bool.and_true, Bool.true_and, k_W_within, hx, rb_i, t1, r, show ¬ (0 : Int32) ≤ -1 by decide]
    · rw [e] at r ⊢
      rw [if_neg (nI_n0 (by omega))]
      simp only [e_W_why_0, e_W_why_1, e_W_why_2, e_W_why_3, e_W_why_6, e_W_why_9, e_W_why_11, e_W_why_12, e_W_why_13, e_W_why_16, e_W_why_17, e_W_why_20, e_W_why_21, e_W_why_22, e_W_why_25, e_W_why_28, e_W_why_31, e_W_why_32, is_0 h, rf_0_0 h, is_1 h, and_self, and_true, true_and, and_false, false_and, or_true, true_or, or_false, false_or, not_true_eq_false, not_false_eq_true, if_true, if_false, ne_eq, ite_self, reduceCtorEq, i10, Decidable.not_not, Bool.and_self, Bool.and_true, Bool.true_and, k_W_within, hx, rb_i, t1, r, nI_pos' (show t < 2 ^ 31 by omega)]
  · rw [if_neg hx]
    simp only [e_W_why_0, e_W_why_1, e_W_why_2, e_W_why_3, e_W_why_6, e_W_why_9, e_W_why_11, e_W_why_12, e_W_why_13, e_W_why_16, e_W_why_17, e_W_why_20, e_W_why_21, e_W_why_22, e_W_why_25, e_W_why_28, e_W_why_31, e_W_why_32, and_self, and_true, true_and, and_false, false_and, or_true, true_or, or_false, false_or, not_true_eq_false, not_false_eq_true, if_true, if_false, ne_eq, ite_self, reduceCtorEq, i10, Decidable.not_not, Bool.and_self, Bool.and_true, Bool.true_and, k_W_within, hx, rb_i, t1]
theorem cw_textTold (h : WF S R) (hc : CR S I R A) : COp S I R (sp_textTold A x y) (rn Ls xs (d + 9) 55 0 [some (.inr (.inl (some 0))), some (.inl x), some (.inl y)] [] (S, I, R)) := by
  obtain ⟨m, hm, e7, c7, htx⟩ := hc.tx
  unfold sp_textTold
  refine COp.same h hc ?_
  by_cases hx : 0 ≤ x ∧ x ≤ A 94 7 - 1
  · have hx2 := hx
    by_cases hy : 0 ≤ y ∧ y ≤ 1
    · obtain ⟨t, ht, rfl⟩ := nn (i_nlt.mpr hx.1)
      rw [e7, in_iff ht (by omega)] at hx
      obtain ⟨p, o1, o2, o3, o4⟩ := (hc.s.2.2 t (by omega)).adr
      have o1 : R 3 t = .inl (some p) := o1
      have i2 : h_ia S 3 5 (nI t) = true := q_ia2 h q1 (show t < 14 by omega)
      rw [if_pos ⟨hx2, hy⟩, show cW (nI t) = t from nI_clamp ht]
      rcases i_01 hy with rfl | rfl
      · simp only [e_W_textTold_0, e_W_textTold_1, e_W_textTold_2, e_W_textTold_3, e_W_textTold_6, e_W_textTold_9, e_W_textTold_10, e_W_textTold_11, e_W_textTold_14, e_W_textTold_17, e_W_textTold_18, e_W_textTold_19, e_W_textTold_20, e_W_textTold_23, e_W_textTold_26, e_W_textTold_28, e_W_textTold_29, e_W_textTold_30, e_W_textTold_33, e_W_textTold_34, e_W_textTold_37, e_W_textTold_40, e_W_textTold_41, e_W_textTold_42, e_W_textTold_45, e_W_textTold_48, e_W_textTold_49, e_W_textTold_52, e_W_textTold_55, e_W_textTold_56, e_W_textTold_57, e_W_textTold_60, is_0 h, rf_0_0 h, is_1 h, and_self, and_true, true_and, and_false, false_and, or_true, true_or, or_false, false_or, not_true_eq_false, not_false_eq_true, if_true, if_false, ne_eq, ite_self, reduceCtorEq, i10, Decidable.not_not, Bool.and_self, Bool.and_true, Bool.true_and, k_W_within, hc.s.f4, hx2, rb_i, t1, hy, rf_1_1 h, i2, nI_clamp ht, o1, o2, o3]
      · simp only [e_W_textTold_0, e_W_textTold_1, e_W_textTold_2, e_W_textTold_3, e_W_textTold_6, e_W_textTold_9, e_W_textTold_10, e_W_textTold_11, e_W_textTold_14, e_W_textTold_17, e_W_textTold_18, e_W_textTold_19, e_W_textTold_20, e_W_textTold_23, e_W_textTold_26, e_W_textTold_28, e_W_textTold_29, e_W_textTold_30, e_W_textTold_33, e_W_textTold_34, e_W_textTold_37, e_W_textTold_40, e_W_textTold_41, e_W_textTold_42, e_W_textTold_45, e_W_textTold_48, e_W_textTold_49, e_W_textTold_52, e_W_textTold_55, e_W_textTold_56, e_W_textTold_57, e_W_textTold_60, is_0 h, rf_0_0 h, is_1 h, and_self, and_true, true_and, and_false, false_and, or_true, true_or, or_false, false_or, not_true_eq_false, not_false_eq_true, if_true, if_false, ne_eq, ite_self, reduceCtorEq, i10, Decidable.not_not, Bool.and_self, Bool.and_true, Bool.true_and, k_W_within, hc.s.f4, hx2, rb_i, t1, hy, rf_1_1 h, i2, nI_clamp ht, o1, o2, o4]
    · rw [if_neg (fun q => hy q.2)]
      simp only [e_W_textTold_0, e_W_textTold_1, e_W_textTold_2, e_W_textTold_3, e_W_textTold_6, e_W_textTold_9, e_W_textTold_10, e_W_textTold_11, e_W_textTold_14, e_W_textTold_17, e_W_textTold_18, e_W_textTold_19, e_W_textTold_20, e_W_textTold_23, e_W_textTold_26, e_W_textTold_28, e_W_textTold_29, e_W_textTold_30, e_W_textTold_33, e_W_textTold_34, e_W_textTold_37, e_W_textTold_40, e_W_textTold_41, e_W_textTold_42, e_W_textTold_45, e_W_textTold_48, e_W_textTold_49, e_W_textTold_52, e_W_textTold_55, e_W_textTold_56, e_W_textTold_57, e_W_textTold_60, is_0 h, rf_0_0 h, is_1 h, and_self, and_true, true_and, and_false, false_and, or_true, true_or, or_false, false_or, not_true_eq_false, not_false_eq_true, if_true, if_false, ne_eq, ite_self, reduceCtorEq, i10, Decidable.not_not, Bool.and_self, Bool.and_true, Bool.true_and, k_W_within, hc.s.f4, hx2, rb_i, t1, hy]
  · rw [if_neg (fun q => hx q.1)]
    simp only [e_W_textTold_0, e_W_textTold_1, e_W_textTold_2, e_W_textTold_3, e_W_textTold_6, e_W_textTold_9, e_W_textTold_10, e_W_textTold_11, e_W_textTold_14, e_W_textTold_17, e_W_textTold_18, e_W_textTold_19, e_W_textTold_20, e_W_textTold_23, e_W_textTold_26, e_W_textTold_28, e_W_textTold_29, e_W_textTold_30, e_W_textTold_33, e_W_textTold_34, e_W_textTold_37, e_W_textTold_40, e_W_textTold_41, e_W_textTold_42, e_W_textTold_45, e_W_textTold_48, e_W_textTold_49, e_W_textTold_52, e_W_textTold_55, e_W_textTold_56, e_W_textTold_57, e_W_textTold_60, is_0 h, rf_0_0 h, is_1 h, and_self, and_true, true_and, and_false, false_and, or_true, true_or, or_false, false_or, not_true_eq_false, not_false_eq_true, if_true, if_false, ne_eq, ite_self, reduceCtorEq, i10, Decidable.not_not, Bool.and_self, Bool.and_true, Bool.true_and, k_W_within, hc.s.f4, hx, rb_i, t1]
theorem cw_fee (h : WF S R) (hc : CR S I R A) : COp S I R (sp_fee A) (rn Ls xs (d + 9) 45 0 [some (.inr (.inl (some 0))), none] [] (S, I, R)) := by
  obtain ⟨m, hm, e7, c7, htx⟩ := hc.tx
  unfold sp_fee
  have r := k_S_textFor (Ls := Ls) (xs := xs) (d := d + 8) (key := 1) h q1 hc.s hm e7
  rw [c7]
  rcases cntS_or' (A 94) 1 m with e | ⟨t, ht, e, -⟩
  · rw [e] at r ⊢
    rw [if_pos (by decide)]
    exact COp.same h hc (by simp only [e_W_fee_0, e_W_fee_1, e_W_fee_4, e_W_fee_5, e_W_fee_8, e_W_fee_9, e_W_fee_10, e_W_fee_13, e_W_fee_14, e_W_fee_17, e_W_fee_20, e_W_fee_23, e_W_fee_24, e_W_fee_27, e_W_fee_30, e_W_fee_31, e_W_fee_32, e_W_fee_33, e_W_fee_36, e_W_fee_39, e_W_fee_40, e_W_fee_43, e_W_fee_46, e_W_fee_47, e_W_fee_48, e_W_fee_51, e_W_fee_54, e_W_fee_57, is_0 h, rf_0_0 h, is_1 h, and_self, and_true, true_and, and_false, false_and, or_true, true_or, or_false, false_or, not_true_eq_false, not_false_eq_true, if_true, if_false, ne_eq, ite_self, reduceCtorEq, i10, Decidable.not_not, Bool.and_self, Bool.and_true, Bool.true_and, rb_i, r, show ¬ (0 : Int32) ≤ -1 by decide, hc.s.f6])
  · rw [e] at r ⊢
    obtain ⟨p, o1, o2, o3, o4⟩ := (hc.s.2.2 t (by omega)).adr
    have tx := hc.s.2.2 t (by omega)
    rw [o1] at tx
    obtain ⟨g, r2⟩ := k_X_valueOf (Ls := Ls) (xs := xs) (d := d + 7) (x := A 94 4) (y := A 94 5) (z := 0) (f := ftS (A 94 4) (A 94 5)) h q1 tx (htx t ht) (fun i _ => rfl)
    have o1 : R 3 t = .inl (some p) := o1
    have i2 : h_ia S 3 5 (nI t) = true := q_ia2 h q1 (show t < 14 by omega)
    rw [if_neg (nI_n0 (by omega)), show cW (nI t) = t from nI_clamp (by omega)]
    exact COp.st h hc (f := g) (by simp only [e_W_fee_0, e_W_fee_1, e_W_fee_4, e_W_fee_5, e_W_fee_8, e_W_fee_9, e_W_fee_10, e_W_fee_13, e_W_fee_14, e_W_fee_17, e_W_fee_20, e_W_fee_23, e_W_fee_24, e_W_fee_27, e_W_fee_30, e_W_fee_31, e_W_fee_32, e_W_fee_33, e_W_fee_36, e_W_fee_39, e_W_fee_40, e_W_fee_43, e_W_fee_46, e_W_fee_47, e_W_fee_48, e_W_fee_51, e_W_fee_54, e_W_fee_57, is_0 h, rf_0_0 h, is_1 h, and_self, and_true, true_and, and_false, false_and, or_true, true_or, or_false, false_or, not_true_eq_false, not_false_eq_true, if_true, if_false, ne_eq, ite_self, reduceCtorEq, i10, Decidable.not_not, Bool.and_self, Bool.and_true, Bool.true_and, rb_i, r, nI_pos' (show t < 2 ^ 31 by omega), hc.s.f6, hc.s.f7, rf_1_1 h, rf_1_2 h, i2, nI_clamp (show t < 2 ^ 31 by omega), o1, o2, r2])
theorem cw_fine (h : WF S R) (hc : CR S I R A) : COp S I R (sp_fine A x) (rn Ls xs (d + 9) 47 0 [some (.inr (.inl (some 0))), some (.inl x), none, none] [] (S, I, R)) := by
  obtain ⟨n, hn, e1, cn⟩ := hc.g.n
  obtain ⟨m, hm, e7, c7, htx⟩ := hc.tx
  unfold sp_fine
  by_cases hw : isWr A x
  · have hw2 := hw
    obtain ⟨w, hwn, rfl⟩ := wr_get hn e1 hw
    have hw14 : w < 14 := by omega
    have wi := q_wi h q1 hw14
    have w2 : I (1 + 4 + w) 2 = A 94 (8 + 6 * w + 2) := hc.w cn hwn (by decide)
    have w4 : I (1 + 4 + w) 4 = A 94 (8 + 6 * w + 4) := hc.w cn hwn (by decide)
    have cw : cW (nI w) = w := nI_clamp (by omega)
    rw [if_pos hw2, c7, cw]
    have r := k_S_textFor (Ls := Ls) (xs := xs) (d := d + 8) (key := 2) h q1 hc.s hm e7
    rcases cntS_or' (A 94) 2 m with e | ⟨t, ht, e, -⟩
    · rw [e] at r ⊢
      rw [if_pos (by decide)]
      exact COp.same h hc (by simp only [e_W_fine_0, e_W_fine_1, e_W_fine_4, e_W_fine_5, e_W_fine_8, e_W_fine_11, e_W_fine_13, e_W_fine_14, e_W_fine_15, e_W_fine_18, e_W_fine_21, e_W_fine_22, e_W_fine_23, e_W_fine_24, e_W_fine_25, e_W_fine_28, e_W_fine_29, e_W_fine_32, e_W_fine_33, e_W_fine_34, e_W_fine_37, e_W_fine_38, e_W_fine_41, e_W_fine_44, e_W_fine_45, e_W_fine_48, e_W_fine_51, e_W_fine_52, e_W_fine_53, e_W_fine_54, e_W_fine_57, e_W_fine_58, e_W_fine_61, e_W_fine_62, e_W_fine_63, e_W_fine_66, e_W_fine_69, e_W_fine_72, is_0 h, rf_0_0 h, is_1 h, and_self, and_true, true_and, and_false, false_and, or_true, true_or, or_false, false_or, not_true_eq_false, not_false_eq_true, if_true, if_false, ne_eq, ite_self, reduceCtorEq, i10, Decidable.not_not, Bool.and_self, Bool.and_true, Bool.true_and, k_hw_y h hc hw2, rb_i, t1, q_r0 h q1, q_ia1 h q1 hw14, nI_clamp (show w < 2 ^ 31 by omega), q_w h q1 hw14, r, show ¬ (0 : Int32) ≤ -1 by decide, wi, w4])
    · rw [e] at r ⊢
      obtain ⟨p, o1, o2, o3, o4⟩ := (hc.s.2.2 t (by omega)).adr
      have tx := hc.s.2.2 t (by omega)
      rw [o1] at tx
      obtain ⟨g, r2⟩ := k_X_valueOf (Ls := Ls) (xs := xs) (d := d + 7) (x := A 94 (8 + 6 * w + 4)) (y := A 94 (8 + 6 * w + 2)) (z := 0) (f := ftS (A 94 (8 + 6 * w + 4)) (A 94 (8 + 6 * w + 2))) h q1 tx (htx t ht) (fun i _ => rfl)
      have o1 : R 3 t = .inl (some p) := o1
      have i2 : h_ia S 3 5 (nI t) = true := q_ia2 h q1 (show t < 14 by omega)
      rw [if_neg (nI_n0 (by omega)), show cW (nI t) = t from nI_clamp (by omega)]
      exact COp.st h hc (f := g) (by simp only [e_W_fine_0, e_W_fine_1, e_W_fine_4, e_W_fine_5, e_W_fine_8, e_W_fine_11, e_W_fine_13, e_W_fine_14, e_W_fine_15, e_W_fine_18, e_W_fine_21, e_W_fine_22, e_W_fine_23, e_W_fine_24, e_W_fine_25, e_W_fine_28, e_W_fine_29, e_W_fine_32, e_W_fine_33, e_W_fine_34, e_W_fine_37, e_W_fine_38, e_W_fine_41, e_W_fine_44, e_W_fine_45, e_W_fine_48, e_W_fine_51, e_W_fine_52, e_W_fine_53, e_W_fine_54, e_W_fine_57, e_W_fine_58, e_W_fine_61, e_W_fine_62, e_W_fine_63, e_W_fine_66, e_W_fine_69, e_W_fine_72, is_0 h, rf_0_0 h, is_1 h, and_self, and_true, true_and, and_false, false_and, or_true, true_or, or_false, false_or, not_true_eq_false, not_false_eq_true, if_true, if_false, ne_eq, ite_self, reduceCtorEq, i10, Decidable.not_not, Bool.and_self, Bool.and_true, Bool.true_and, k_hw_y h hc hw2, rb_i, t1, q_r0 h q1, q_ia1 h q1 hw14, nI_clamp (show w < 2 ^ 31 by omega), q_w h q1 hw14, r, nI_pos' (show t < 2 ^ 31 by omega), wi, w2, w4, rf_1_1 h, rf_1_2 h, i2, nI_clamp (show t < 2 ^ 31 by omega), o1, o2, r2])
  · rw [if_neg hw]
    exact COp.same h hc (by simp only [e_W_fine_0, e_W_fine_1, e_W_fine_4, e_W_fine_5, e_W_fine_8, e_W_fine_11, e_W_fine_13, e_W_fine_14, e_W_fine_15, e_W_fine_18, e_W_fine_21, e_W_fine_22, e_W_fine_23, e_W_fine_24, e_W_fine_25, e_W_fine_28, e_W_fine_29, e_W_fine_32, e_W_fine_33, e_W_fine_34, e_W_fine_37, e_W_fine_38, e_W_fine_41, e_W_fine_44, e_W_fine_45, e_W_fine_48, e_W_fine_51, e_W_fine_52, e_W_fine_53, e_W_fine_54, e_W_fine_57, e_W_fine_58, e_W_fine_61, e_W_fine_62, e_W_fine_63, e_W_fine_66, e_W_fine_69, e_W_fine_72, is_0 h, rf_0_0 h, is_1 h, and_self, and_true, true_and, and_false, false_and, or_true, true_or, or_false, false_or, not_true_eq_false, not_false_eq_true, if_true, if_false, ne_eq, ite_self, reduceCtorEq, i10, Decidable.not_not, Bool.and_self, Bool.and_true, Bool.true_and, k_hw_n h hc hw, rb_i, t1])
theorem cw_count (h : WF S R) (hc : CR S I R A) : COp S I R (sp_count A x) (rn Ls xs (d + 9) 85 0 [some (.inr (.inl (some 0))), some (.inl x)] [] (S, I, R)) := by
  obtain ⟨n, hn, e1, cn⟩ := hc.g.n
  have bc := ups_cnt (a := A 94) (n := n) hn
  have e8 : I 0 8 = A 93 35 := hc.2.2.1.1
  have e9 : I 58 1 = A 93 9 := hc.2.2.2.1.1
  unfold sp_count
  refine COp.same h hc ?_
  simp only [e_W_count_0, e_W_count_1, e_W_count_48, e_W_count_49, e_W_count_52, e_W_count_55, e_W_count_56, e_W_count_57, e_W_count_60, e_W_count_63, e_W_count_64, e_W_count_65, e_W_count_68, e_W_count_71, e_W_count_72, e_W_count_73, e_W_count_76, e_W_count_79, e_W_count_82, e_W_count_83, e_W_count_84, e_W_count_87, e_W_count_90, e_W_count_91, e_W_count_92, e_W_count_95, e_W_count_96, e_W_count_97, e_W_count_100, e_W_count_103, e_W_count_104, e_W_count_105, e_W_count_108, e_W_count_111, e_W_count_112, e_W_count_114, is_0 h, rf_0_0 h, rf_0_3 h, is_1 h, is_58 h, and_self, and_true, true_and, and_false, false_and, or_true, true_or, or_false, false_or, not_true_eq_false, not_false_eq_true, if_true, if_false, ne_eq, ite_self, reduceCtorEq, i10, Decidable.not_not, Bool.and_self, Bool.and_true, Bool.true_and, hc.s.f3, hc.s.f4, hc.s.f5, hc.s.f9, hc.s.f10, e8, e9, k_S_upSet h q1 hc.s hc.g, k_J_bitCount, cn, bc, rb_i, it_i]
end CRX

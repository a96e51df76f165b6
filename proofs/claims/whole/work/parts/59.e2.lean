/-! THE CLASS: rows, images -/
section CRY
variable {Ls : Nat} {xs : Nat → Int32} {d : Nat} {S : mS} {I I2 I3 A : mI} {R R2 R3 : mR} {x y z u v : Int32}
theorem cw_tell (h : WF S R) (hc : CR S I R A) : COp S I R (sp_tell A x) (rn Ls xs (d + 9) 77 0 [some (.inr (.inl (some 0))), some (.inl x)] [] (S, I, R)) := by
  obtain ⟨h1, h2, ⟨e8, ⟨n, hn, e35⟩, hT⟩, h4, h5, h6⟩ := id hc
  have cn : cW (A 93 35) = n := by rw [e35, cW, nI_clamp (by omega)]
  unfold sp_tell
  by_cases h60 : n = 60
  · rw [if_pos (by rw [e35, h60]; rfl)]
    exact COp.same h hc (by simp only [e_W_tell_0, e_W_tell_1, e_W_tell_4, e_W_tell_6, e_W_tell_9, e_W_tell_11, e_W_tell_12, e_W_tell_13, e_W_tell_16, e_W_tell_17, e_W_tell_20, e_W_tell_21, e_W_tell_22, e_W_tell_23, e_W_tell_24, e_W_tell_27, e_W_tell_28, e_W_tell_29, e_W_tell_32, e_W_tell_33, e_W_tell_36, is_0 h, and_self, and_true, true_and, and_false, false_and, or_true, true_or, or_false, false_or, not_true_eq_false, not_false_eq_true, if_true, if_false, ne_eq, ite_self, reduceCtorEq, i10, Decidable.not_not, Bool.and_self, Bool.and_true, Bool.true_and, e8, e35, h60, show ¬ nI 60 < 60 by decide])
  · have ne : ¬ A 93 35 = 60 := by rw [e35, show (60 : Int32) = nI 60 from rfl, nI_eq' (by omega) (by decide)]; exact h60
    have lt : nI n < 60 := by rw [show (60 : Int32) = nI 60 from rfl, nI_lt' (by omega) (by decide)]; omega
    rw [if_neg ne, cn, e35, nI_1]
    refine COp.mk (I2 := va_up (va_up I 64 (upd (I 64) n x)) 0 (upd (I 0) 8 (nI (n + 1)))) (R2 := R) ⟨h1.cg (fun b hb => by rw [vu_n (by omega), vu_n (by omega)]) (by rw [vu_n (by decide), vu_n (by decide)]), h2.cg (by rw [vu_s, up_n (by decide)]) (fun b hb => by rw [vu_n (by omega), vu_n (by omega)]) (by rw [vu_s, up_n (by decide)]) (by rw [vu_n (by decide), vu_n (by decide)]), ?_, h4.cg (by rw [vu_n (by decide), vu_n (by decide)]) (by rw [vu_n (by decide), vu_n (by decide)]) (by rw [vu_s, up_n (by decide)]) (by rw [vu_n (by decide), vu_n (by decide)]), shR.cg h5 (fun b b1 b2 => by rw [vu_n (by omega), vu_n (by omega)]) (by rw [vu_n (by decide), vu_n (by decide)]) (by rw [vu_n (by decide), vu_n (by decide)]) (by rw [vu_n (by decide), vu_n (by decide)]), slR.cg h6 (fun b b1 b2 => by rw [vu_n (by omega), vu_n (by omega)]) (by rw [vu_n (by decide), vu_n (by decide)]) (by rw [vu_n (by decide), vu_n (by decide)]) (by rw [vu_n (by decide), vu_n (by decide)]) (by rw [vu_n (by decide), vu_n (by decide)])⟩ h (fun b hb => by rw [vu_n (by omega), vu_n (by omega)]) ?_
    · refine ⟨by rw [vu_s, up_s, vu_s, up_s], ⟨n + 1, by omega, by rw [vu_s, up_s]⟩, fun k hk => ?_⟩
      rw [vu_s, up_s, cW, nI_clamp (by omega)] at hk
      rw [vu_n (by decide), vu_s, vu_n (by decide), vu_s]
      by_cases ek : k = n
      · subst ek; rw [up_s, up_s]
      · rw [up_n ek, up_n ek]
        exact hT k (by omega)
    · simp only [e_W_tell_0, e_W_tell_1, e_W_tell_4, e_W_tell_6, e_W_tell_9, e_W_tell_11, e_W_tell_12, e_W_tell_13, e_W_tell_16, e_W_tell_17, e_W_tell_20, e_W_tell_21, e_W_tell_22, e_W_tell_23, e_W_tell_24, e_W_tell_27, e_W_tell_28, e_W_tell_29, e_W_tell_32, e_W_tell_33, e_W_tell_36, is_0 h, rf_0_7 h, and_self, and_true, true_and, and_false, false_and, or_true, true_or, or_false, false_or, not_true_eq_false, not_false_eq_true, if_true, if_false, ne_eq, ite_self, reduceCtorEq, i10, Decidable.not_not, Bool.and_self, Bool.and_true, Bool.true_and, e8, e35, lt, ia_64 h (show n < 60 by omega), nI_clamp (show n < 2 ^ 31 by omega), vu_n (show 0 ≠ 64 by decide), nI_1, vu_s, up_s]
theorem cw_trim (h : WF S R) (hc : CR S I R A) : COp S I R (sp_trim A x) (rn Ls xs (d + 9) 51 0 [some (.inr (.inl (some 0))), some (.inl x)] [] (S, I, R)) := by
  obtain ⟨h1, h2, h3, ⟨e1, ⟨n, hn, e9⟩, hT⟩, h5, h6⟩ := id hc
  have cn : cW (A 93 9) = n := by rw [e9, cW, nI_clamp (by omega)]
  unfold sp_trim
  by_cases hx : 0 ≤ x ∧ x ≤ A 93 9
  · have hx2 := hx
    rw [if_pos hx]
    obtain ⟨k, hk, rfl⟩ := nn (i_nlt.mpr hx.1)
    have hkn : k ≤ n := by have := hx.2; rw [e9, nI_le' hk (by omega)] at this; exact this
    refine COp.mk (I2 := va_up I 58 (upd (I 58) 1 (nI k))) (R2 := R) ⟨h1.cg (fun b hb => by rw [vu_n (by omega)]) (by rw [vu_n (by decide)]), h2.cg (by rw [vu_n (by decide)]) (fun b hb => by rw [vu_n (by omega)]) (by rw [vu_s, up_n (by decide)]) (by rw [vu_n (by decide)]), h3.cg (by rw [vu_n (by decide)]) (by rw [vu_n (by decide)]) (by rw [vu_s, up_n (by decide)]) (by rw [vu_n (by decide)]), ?_, shR.cg h5 (fun b b1 b2 => by rw [vu_n (by omega)]) (by rw [vu_n (by decide)]) (by rw [vu_n (by decide)]) (by rw [vu_n (by decide)]), slR.cg h6 (fun b b1 b2 => by rw [vu_n (by omega)]) (by rw [vu_n (by decide)]) (by rw [vu_n (by decide)]) (by rw [vu_n (by decide)]) (by rw [vu_n (by decide)])⟩ h (fun b hb => by rw [vu_n (by omega)]) ?_
    · refine ⟨by rw [vu_s, up_s, vu_s, up_s], ⟨k, by omega, by rw [vu_s, up_s]⟩, fun i hi => ?_⟩
      rw [vu_s, up_s, cW, nI_clamp (by omega)] at hi
      rw [vu_n (by decide), vu_n (by decide)]
      exact hT i (by omega)
    · simp only [e_W_trim_0, e_W_trim_1, e_W_trim_2, e_W_trim_3, e_W_trim_6, e_W_trim_9, e_W_trim_12, e_W_trim_15, e_W_trim_17, e_W_trim_18, e_W_trim_19, e_W_trim_22, e_W_trim_23, e_W_trim_26, e_W_trim_27, is_0 h, rf_0_3 h, is_58 h, and_self, and_true, true_and, and_false, false_and, or_true, true_or, or_false, false_or, not_true_eq_false, not_false_eq_true, if_true, if_false, ne_eq, ite_self, reduceCtorEq, i10, Decidable.not_not, Bool.and_self, Bool.and_true, Bool.true_and, k_W_within, e1, hx2, rb_i, t1]
  · rw [if_neg hx]
    exact COp.same h hc (by simp only [e_W_trim_0, e_W_trim_1, e_W_trim_2, e_W_trim_3, e_W_trim_6, e_W_trim_9, e_W_trim_12, e_W_trim_15, e_W_trim_17, e_W_trim_18, e_W_trim_19, e_W_trim_22, e_W_trim_23, e_W_trim_26, e_W_trim_27, is_0 h, rf_0_3 h, is_58 h, and_self, and_true, true_and, and_false, false_and, or_true, true_or, or_false, false_or, not_true_eq_false, not_false_eq_true, if_true, if_false, ne_eq, ite_self, reduceCtorEq, i10, Decidable.not_not, Bool.and_self, Bool.and_true, Bool.true_and, k_W_within, e1, hx, rb_i, t1])
theorem cw_keep (h : WF S R) (hc : CR S I R A) : COp S I R (sp_keep A) (rn Ls xs (d + 9) 81 0 [some (.inr (.inl (some 0)))] [] (S, I, R)) := by
  obtain ⟨h1, h2, h3, h4, h5, h6⟩ := id hc
  unfold sp_keep
  obtain ⟨I2, R2, s2, f2, g2, w2, r2⟩ := k_S_becomeAs (Ls := Ls) (xs := xs) (d := d + 7) h q19 q1 (by decide) hc.s hc.g
  have s1 := hc.s.ot q19 q1 (by decide) hc.gg.c f2 g2
  have n9 : ∀ b, b ≠ 0 → va_up I2 0 (upd (I2 0) 9 1) b = I2 b := fun b hb => vu_n hb
  have e0 : I2 0 = I 0 := f2 0 (by omega)
  have c1 : nwR S I2 R2 A := ⟨s1, hc.gg⟩
  refine COp.mk (I2 := va_up I2 0 (upd (I2 0) 9 1)) (R2 := R2) ⟨c1.cg (fun b hb => by rw [n9 b (by omega)]) (by rw [vu_n (by decide), vu_n (by decide)]), ?_, h3.cg (by rw [vu_s, up_n (by decide), e0]) (by rw [n9 64 (by decide), f2 64 (by omega)]) (by rw [vu_s, up_n (by decide)]) (by rw [vu_n (by decide), vu_n (by decide)]), h4.cg (by rw [n9 58 (by decide), f2 58 (by omega)]) (by rw [n9 59 (by decide), f2 59 (by omega)]) (by rw [vu_s, up_n (by decide)]) (by rw [vu_n (by decide), vu_n (by decide)]), shR.cg h5 (fun b b1 b2 => by rw [n9 b (by omega), f2 b (by omega)]) (by rw [vu_n (by decide), vu_n (by decide)]) (by rw [vu_n (by decide), vu_n (by decide)]) (by rw [vu_n (by decide), vu_n (by decide)]), slR.cg h6 (fun b b1 b2 => by rw [n9 b (by omega), f2 b (by omega)]) (by rw [vu_n (by decide), vu_n (by decide)]) (by rw [vu_n (by decide), vu_n (by decide)]) (by rw [vu_n (by decide), vu_n (by decide)]) (by rw [vu_n (by decide), vu_n (by decide)])⟩ w2 (fun b hb => by rw [n9 b (by omega), f2 b (by omega)]) ?_
  · unfold imR
    rw [vu_s, vu_s, up_s, up_s, vu_n (show 95 ≠ 93 by decide), vu_s]
    refine ⟨rfl, Or.inr rfl, fun _ => ⟨?_, ?_⟩⟩
    · have s3 := s2.fr (I2 := va_up I2 0 (upd (I2 0) 9 1)) (n9 19 (by decide)) (fun w hw => n9 _ (by omega)) (fun c hc => n9 c (by omega)) hc.gg.c
      exact s3.cong hc.g (fun i hi => thS_lt hi)
    · exact hc.gg.cong (rwOK_th hc.g.1) (fun i hi => thS_lt (by omega))
  · simp only [e_W_keep_0, e_W_keep_1, e_W_keep_4, e_W_keep_5, e_W_keep_8, e_W_keep_11, e_W_keep_12, e_W_keep_13, e_W_keep_16, e_W_keep_17, e_W_keep_20, e_W_keep_23, is_0 h, rf_0_0 h, rf_0_1 h, rf_0_1 w2, is_19 h, and_self, and_true, true_and, and_false, false_and, or_true, true_or, or_false, false_or, not_true_eq_false, not_false_eq_true, if_true, if_false, ne_eq, ite_self, reduceCtorEq, i10, Decidable.not_not, Bool.and_self, Bool.and_true, Bool.true_and, r2, rb_v, bo_1, n9 19 (by decide), s2.f3]
theorem CR.im (hc : CR S I R A) (hi : A 93 3 ≠ 0) : SkR S I R 19 (A 95) ∧ gh 9999 (A 95) := hc.2.1.2.2 hi
theorem cw_back (h : WF S R) (hc : CR S I R A) : COp S I R (sp_back A) (rn Ls xs (d + 9) 83 0 [some (.inr (.inl (some 0)))] [] (S, I, R)) := by
  have e9 : I 0 9 = A 93 3 := hc.2.1.1
  unfold sp_back
  by_cases h0 : A 93 3 = 0
  · rw [if_pos h0]
    exact COp.same h hc (by simp only [e_W_back_0, e_W_back_1, e_W_back_4, e_W_back_7, e_W_back_9, e_W_back_10, e_W_back_11, e_W_back_14, e_W_back_15, e_W_back_18, e_W_back_21, e_W_back_22, e_W_back_25, e_W_back_28, is_0 h, and_self, and_true, true_and, and_false, false_and, or_true, true_or, or_false, false_or, not_true_eq_false, not_false_eq_true, if_true, if_false, ne_eq, ite_self, reduceCtorEq, i10, Decidable.not_not, Bool.and_self, Bool.and_true, Bool.true_and, e9, h0])
  · obtain ⟨s, g⟩ := hc.im h0
    rw [if_neg h0]
    obtain ⟨I2, R2, s2, f2, g2, w2, r2⟩ := k_S_becomeAs (Ls := Ls) (xs := xs) (d := d + 7) h q1 q19 (by decide) s g.1
    have s3 : SkR S I2 R2 1 (thS (A 95) (A 94) 1464) := s2.cong g.1 (fun i hi => thS_lt hi)
    refine ⟨I2, R2, hc.now s3 (g.cong (rwOK_th g.1.1) (fun i hi => thS_lt (by omega))) f2 g2, w2, fun b hb => f2 b (by omega), ?_⟩
    simp only [e_W_back_0, e_W_back_1, e_W_back_4, e_W_back_7, e_W_back_9, e_W_back_10, e_W_back_11, e_W_back_14, e_W_back_15, e_W_back_18, e_W_back_21, e_W_back_22, e_W_back_25, e_W_back_28, is_0 h, rf_0_0 h, rf_0_1 h, rf_0_0 w2, is_1 h, and_self, and_true, true_and, and_false, false_and, or_true, true_or, or_false, false_or, not_true_eq_false, not_false_eq_true, if_true, if_false, ne_eq, ite_self, reduceCtorEq, i10, Decidable.not_not, Bool.and_self, Bool.and_true, Bool.true_and, e9, h0, r2, rb_v, s3.f3]
theorem cw_check (h : WF S R) (hc : CR S I R A) : COp S I R (sp_check A x) (rn Ls xs (d + 9) 79 0 [some (.inr (.inl (some 0))), some (.inl x), none, none, none] [] (S, I, R)) := by
  obtain ⟨h1, h2, ⟨e8, ⟨n, hn, e35⟩, hT⟩, h4, h5, h6⟩ := id hc
  have cn : cW (A 93 35) = n := by rw [e35, cW, nI_clamp (by omega)]
  have e9 : I 0 9 = A 93 3 := hc.2.1.1
  have c2 : CR S (va_up I 0 (upd (I 0) 8 0)) R (va_up A 93 (upd (A 93) 35 0)) := by
    refine ⟨h1.cg (fun b hb => by rw [vu_n (by omega)]) (by rw [vu_n (by decide)]), h2.cg (by rw [vu_s, up_n (by decide)]) (fun b hb => by rw [vu_n (by omega)]) (by rw [vu_s, up_n (by decide)]) (by rw [vu_n (by decide)]), ?_, h4.cg (by rw [vu_n (by decide)]) (by rw [vu_n (by decide)]) (by rw [vu_s, up_n (by decide)]) (by rw [vu_n (by decide)]), shR.cg h5 (fun b b1 b2 => by rw [vu_n (by omega)]) (by rw [vu_n (by decide)]) (by rw [vu_n (by decide)]) (by rw [vu_n (by decide)]), slR.cg h6 (fun b b1 b2 => by rw [vu_n (by omega)]) (by rw [vu_n (by decide)]) (by rw [vu_n (by decide)]) (by rw [vu_n (by decide)]) (by rw [vu_n (by decide)])⟩
    refine ⟨by rw [vu_s, up_s, vu_s, up_s], ⟨0, by omega, by rw [vu_s, up_s]; rfl⟩, fun k hk => ?_⟩
    rw [vu_s, up_s] at hk
    exact absurd hk (Nat.not_lt_zero _)
  have st : rn Ls xs (d + 9) 79 0 [some (.inr (.inl (some 0))), some (.inl x), none, none, none] [] (S, I, R) = rn Ls xs (d + 9) 79 10 [some (.inr (.inl (some 0))), some (.inl x), some (.inl (nI n)), none, none] [] (S, va_up I 0 (upd (I 0) 8 0), R) := by
    simp only [e_W_check_0, e_W_check_1, e_W_check_4, e_W_check_5, e_W_check_6, e_W_check_7, is_0 h, and_self, and_true, true_and, and_false, false_and, or_true, true_or, or_false, false_or, not_true_eq_false, not_false_eq_true, if_true, if_false, ne_eq, ite_self, reduceCtorEq, i10, Decidable.not_not, Bool.and_self, Bool.and_true, Bool.true_and, e8, e35]
  have fin : ∀ {v : Int32} {I2 : mI} {R2 : mR}, Ff (va_up I 0 (upd (I 0) 8 0)) I2 R R2 → rn Ls xs (d + 9) 79 10 [some (.inr (.inl (some 0))), some (.inl x), some (.inl (nI n)), none, none] [] (S, va_up I 0 (upd (I 0) 8 0), R) = some (some (.inl v), (S, I2, R2)) → COp S I R (v, va_up A 93 (upd (A 93) 35 0)) (rn Ls xs (d + 9) 79 0 [some (.inr (.inl (some 0))), some (.inl x), none, none, none] [] (S, I, R)) := by
    intro v I2 R2 hf hr
    obtain ⟨I3, R3, k1, k2, k3, k4⟩ := COp.ff h c2 hf hr
    exact ⟨I3, R3, k1, k2, fun b hb => by rw [k3 b hb, vu_n (by omega)], st.trans k4⟩
  unfold sp_check
  by_cases hx : 1 ≤ x ∧ x ≤ 30
  · have hx2 := hx
    rw [if_pos hx]
    by_cases h0 : A 93 3 = 0
    · rw [if_pos h0]
      exact fin Ff.rfl' (by simp only [e_W_check_10, e_W_check_11, e_W_check_12, e_W_check_14, e_W_check_17, e_W_check_20, e_W_check_22, e_W_check_23, e_W_check_24, e_W_check_27, e_W_check_30, e_W_check_32, is_0 h, and_self, and_true, true_and, and_false, false_and, or_true, true_or, or_false, false_or, not_true_eq_false, not_false_eq_true, if_true, if_false, ne_eq, ite_self, reduceCtorEq, i10, Decidable.not_not, Bool.and_self, Bool.and_true, Bool.true_and, k_W_within, hx2, rb_i, t1, vu_s, up_n (show 9 ≠ 8 by decide), e9, h0])
    · obtain ⟨s, g⟩ := hc.im h0
      have gb : gh 9999 (bkS A) := g.cong (rwOK_th g.1.1) (fun i hi => thS_lt (by omega))
      have s2 : SkR S I R 19 (bkS A) := s.cong g.1 (fun i hi => thS_lt hi)
      have s3 : SkR S (va_up I 0 (upd (I 0) 8 0)) R 19 (bkS A) := s2.fr (vu_n (by decide)) (fun w hw => vu_n (by omega)) (fun c hc => vu_n (by omega)) gb.c
      obtain ⟨k, hk1, hk2, rfl⟩ := inN (a := 1) (b := 30) (by decide) hx rfl rfl
      obtain ⟨-, t, ht, e2, -⟩ := id gb
      obtain ⟨m1, m2⟩ := min_hr (k := k) (t := t) (by omega) ht
      obtain ⟨I2, R2, f2, r2⟩ := k_F_rightOnes (Ls := Ls) (xs := xs) (d := d + 3) (T := A 117) (m := min k (9999 - t)) h p19 s3 gb.1 (show t + min k (9999 - t) < 2 ^ 29 by omega) e2 hn (fun i hi => by rw [vu_n (by decide)]; exact hT i (by omega))
      have rl := rtS_le (bkS A) (A 117) n (min k (9999 - t)) 0
      rw [if_neg h0, cn, e2, m2, show cW (nI (min k (9999 - t))) = min k (9999 - t) from nI_clamp (by omega)]
      have e2p : (2 : Int32) * nI (min k (9999 - t)) = nI (2 * min k (9999 - t)) := pk_mul 2 _
      have st2 : rn Ls xs (d + 9) 79 10 [some (.inr (.inl (some 0))), some (.inl (nI k)), some (.inl (nI n)), none, none] [] (S, va_up I 0 (upd (I 0) 8 0), R) = rn Ls xs (d + 9) 79 68 [some (.inr (.inl (some 0))), some (.inl (nI k)), some (.inl (nI n)), some (.inl (nI (min k (9999 - t)))), some (.inl (nI (rtS (bkS A) (A 117) n (min k (9999 - t)) 0)))] [] (S, I2, R2) := by
        simp only [e_W_check_10, e_W_check_11, e_W_check_12, e_W_check_14, e_W_check_17, e_W_check_20, e_W_check_22, e_W_check_23, e_W_check_24, e_W_check_27, e_W_check_30, e_W_check_32, e_W_check_33, e_W_check_34, e_W_check_37, e_W_check_38, e_W_check_41, e_W_check_44, e_W_check_45, e_W_check_48, e_W_check_49, e_W_check_50, e_W_check_53, e_W_check_54, e_W_check_57, e_W_check_58, e_W_check_59, e_W_check_62, e_W_check_63, e_W_check_66, is_0 h, rf_0_1 h, rf_0_2 h, rf_0_7 h, is_19 h, is_37 h, and_self, and_true, true_and, and_false, false_and, or_true, true_or, or_false, false_or, not_true_eq_false, not_false_eq_true, if_true, if_false, ne_eq, ite_self, reduceCtorEq, i10, Decidable.not_not, Bool.and_self, Bool.and_true, Bool.true_and, k_W_within, hx2, rb_i, t1, vu_s, up_n (show 9 ≠ 8 by decide), e9, h0, s3.f9, e2, k_J_min, m1, r2]
      by_cases ha : rtS (bkS A) (A 117) n (min k (9999 - t)) 0 = n
      · by_cases hb : n = 2 * min k (9999 - t)
        · rw [if_pos ⟨ha, ha.trans hb⟩]
          exact fin f2 (st2.trans (by
            rw [ha]
            have eb : nI n = nI (2 * min k (9999 - t)) := congrArg nI hb
            simp only [e_W_check_68, e_W_check_70, e_W_check_71, e_W_check_74, e_W_check_75, e_W_check_76, e_W_check_77, e_W_check_78, e_W_check_81, e_W_check_82, e_W_check_85, e_W_check_86, e_W_check_88, e_W_check_89, and_self, and_true, true_and, and_false, false_and, or_true, true_or, or_false, false_or, not_true_eq_false, not_false_eq_true, if_true, if_false, ne_eq, ite_self, reduceCtorEq, i10, Decidable.not_not, Bool.and_self, Bool.and_true, Bool.true_and, e2p, ← eb]))
        · rw [if_neg (fun q => hb (q.1.symm.trans q.2))]
          exact fin f2 (st2.trans (by
            rw [ha]
            have eb : ¬ nI n = nI (2 * min k (9999 - t)) := by rw [nI_eq' (by omega) (by omega)]; exact hb
            simp only [e_W_check_68, e_W_check_70, e_W_check_71, e_W_check_74, e_W_check_75, e_W_check_76, e_W_check_77, e_W_check_78, e_W_check_81, e_W_check_82, e_W_check_85, e_W_check_86, e_W_check_88, e_W_check_89, and_self, and_true, true_and, and_false, false_and, or_true, true_or, or_false, false_or, not_true_eq_false, not_false_eq_true, if_true, if_false, ne_eq, ite_self, reduceCtorEq, i10, Decidable.not_not, Bool.and_self, Bool.and_true, Bool.true_and, e2p, eb]))
      · rw [if_neg (fun q => ha q.1)]
        exact fin f2 (st2.trans (by
          have eb : ¬ nI (rtS (bkS A) (A 117) n (min k (9999 - t)) 0) = nI n := by rw [nI_eq' (by omega) (by omega)]; exact ha
          simp only [e_W_check_68, e_W_check_70, e_W_check_71, e_W_check_74, e_W_check_75, e_W_check_76, e_W_check_77, e_W_check_78, e_W_check_81, e_W_check_82, e_W_check_85, e_W_check_86, e_W_check_88, e_W_check_89, and_self, and_true, true_and, and_false, false_and, or_true, true_or, or_false, false_or, not_true_eq_false, not_false_eq_true, if_true, if_false, ne_eq, ite_self, reduceCtorEq, i10, Decidable.not_not, Bool.and_self, Bool.and_true, Bool.true_and, eb]))
  · rw [if_neg hx]
    exact fin Ff.rfl' (by simp only [e_W_check_10, e_W_check_11, e_W_check_12, e_W_check_14, e_W_check_17, e_W_check_20, e_W_check_22, and_self, and_true, true_and, and_false, false_and, or_true, true_or, or_false, false_or, not_true_eq_false, not_false_eq_true, if_true, if_false, ne_eq, ite_self, reduceCtorEq, i10, Decidable.not_not, Bool.and_self, Bool.and_true, Bool.true_and, k_W_within, hx, rb_i, t1])
end CRY

/-! THE CLASS: copy, slots -/
section CRJ
variable {Ls : Nat} {xs : Nat → Int32} {d : Nat} {S : mS} {I I2 I3 A A2 : mI} {R R2 R3 : mR} {x y z u v : Int32} {i k : Nat}
theorem cw_copy (h : WF S R) (hc : CR S I R A) : COp S I R (sp_copy A x y z u v) (rn Ls xs (d + 9) 67 0 [some (.inr (.inl (some 0))), some (.inl x), some (.inl y), some (.inl z), some (.inl u), some (.inl v), none, none] [] (S, I, R)) := by
  unfold sp_copy
  by_cases h1 : isSh x = true
  · by_cases h2 : isSh z = true
    · have h1' := h1
      have h2' := h2
      obtain ⟨f, hf, rfl⟩ := sh_get h1
      obtain ⟨t, ht, rfl⟩ := sh_get h2
      have cf : cW (nI f) = f := nI_clamp (by omega)
      have ct : cW (nI t) = t := nI_clamp (by omega)
      obtain ⟨a1, a2, a3, a4, n, hn, en⟩ := hc.sh hf
      obtain ⟨b1, b2, b3, b4, m, hm, em⟩ := hc.sh ht
      have st : rn Ls xs (d + 9) 67 0 [some (.inr (.inl (some 0))), some (.inl (nI f)), some (.inl y), some (.inl (nI t)), some (.inl u), some (.inl v), none, none] [] (S, I, R) = rn Ls xs (d + 9) 67 33 [some (.inr (.inl (some 0))), some (.inl (nI f)), some (.inl y), some (.inl (nI t)), some (.inl u), some (.inl v), some (.inr (.inl (some (65 + 2 * f)))), some (.inr (.inl (some (65 + 2 * t))))] [] (S, I, R) := by
        simp only [e_W_copy_0, e_W_copy_1, e_W_copy_4, e_W_copy_7, e_W_copy_8, e_W_copy_11, e_W_copy_14, e_W_copy_16, e_W_copy_17, e_W_copy_18, e_W_copy_21, e_W_copy_22, e_W_copy_23, e_W_copy_25, e_W_copy_26, e_W_copy_29, e_W_copy_30, e_W_copy_31, k_W_isSheet, h1', h2', rb_i, t1, and_self, and_true, true_and, and_false, false_and, or_true, true_or, or_false, false_or, not_true_eq_false, not_false_eq_true, if_true, if_false, ne_eq, ite_self, reduceCtorEq, i10, Decidable.not_not, Bool.and_self, Bool.and_true, Bool.true_and, is_0 h, rf_0_5 h, ia_62 h hf, ia_62 h ht, nI_clamp (show f < 2 ^ 31 by omega), nI_clamp (show t < 2 ^ 31 by omega), sh_r h hf, sh_r h ht]
      rw [if_pos ⟨h1', h2'⟩, cf, ct, st]
      by_cases hm1 : A 109 f < 0
      · rw [if_pos hm1]
        exact COp.same h hc (by simp only [e_W_copy_33, e_W_copy_35, e_W_copy_38, e_W_copy_41, e_W_copy_43, e_W_copy_46, e_W_copy_49, e_W_copy_51, sh_is h hf, k_mis_y h hc hf hm1, rb_i, t1, and_self, and_true, true_and, and_false, false_and, or_true, true_or, or_false, false_or, not_true_eq_false, not_false_eq_true, if_true, if_false, ne_eq, ite_self, reduceCtorEq, i10, Decidable.not_not, Bool.and_self, Bool.and_true, Bool.true_and])
      · rw [if_neg hm1]
        by_cases hm2 : A 109 t < 0
        · rw [if_pos hm2]
          exact COp.same h hc (by simp only [e_W_copy_33, e_W_copy_35, e_W_copy_38, e_W_copy_41, e_W_copy_43, e_W_copy_46, e_W_copy_49, e_W_copy_51, sh_is h hf, sh_is h ht, k_mis_n h hc hf hm1, k_mis_y h hc ht hm2, rb_i, t1, and_self, and_true, true_and, and_false, false_and, or_true, true_or, or_false, false_or, not_true_eq_false, not_false_eq_true, if_true, if_false, ne_eq, ite_self, reduceCtorEq, i10, Decidable.not_not, Bool.and_self, Bool.and_true, Bool.true_and])
        · rw [if_neg hm2]
          by_cases hs : A 109 f = A 109 t
          · rw [if_pos hs, en, em]
            have st2 : rn Ls xs (d + 9) 67 33 [some (.inr (.inl (some 0))), some (.inl (nI f)), some (.inl y), some (.inl (nI t)), some (.inl u), some (.inl v), some (.inr (.inl (some (65 + 2 * f)))), some (.inr (.inl (some (65 + 2 * t))))] [] (S, I, R) = rn Ls xs (d + 9) 67 68 [some (.inr (.inl (some 0))), some (.inl (nI f)), some (.inl y), some (.inl (nI t)), some (.inl u), some (.inl v), some (.inr (.inl (some (65 + 2 * f)))), some (.inr (.inl (some (65 + 2 * t))))] [] (S, I, R) := by
              simp only [e_W_copy_33, e_W_copy_35, e_W_copy_38, e_W_copy_41, e_W_copy_43, e_W_copy_46, e_W_copy_49, e_W_copy_51, e_W_copy_52, e_W_copy_54, e_W_copy_57, e_W_copy_59, e_W_copy_62, sh_is h hf, sh_is h ht, k_mis_n h hc hf hm1, k_mis_n h hc ht hm2, rb_i, t1, and_self, and_true, true_and, and_false, false_and, or_true, true_or, or_false, false_or, not_true_eq_false, not_false_eq_true, if_true, if_false, ne_eq, ite_self, reduceCtorEq, i10, Decidable.not_not, Bool.and_self, Bool.and_true, Bool.true_and, a1, b1, hs]
            rw [st2]
            have k1 := k_H_hasPlaces (Ls := Ls) (xs := xs) (d := d + 7) (I := I) (R := R) (y := y) (v := v) (sh_is h hf) hn (by rw [a2, en])
            have k2 := k_H_hasPlaces (Ls := Ls) (xs := xs) (d := d + 7) (I := I) (R := R) (y := u) (v := v) (sh_is h ht) hm (by rw [b2, em])
            by_cases q1 : hpP n y v
            · by_cases q2 : hpP m u v
              · have i1 := (hp_iff hn).mp q1
                have i2 := (hp_iff hm).mp q2
                rw [if_neg i1.1, if_neg i2.1, if_neg i1.2.1, if_neg i1.2.2, if_neg i2.2.2]
                obtain ⟨yy, hy, rfl⟩ := nn i1.1
                obtain ⟨uu', hu, rfl⟩ := nn i2.1
                obtain ⟨vv, hv, rfl⟩ := nn i1.2.1
                have j1 := q1.2.2
                have j2 := q2.2.2
                rw [nI_toInt hy, nI_toInt hv] at j1
                rw [nI_toInt hu, nI_toInt hv] at j2
                have cy : cW (nI yy) = yy := nI_clamp hy
                have cu : cW (nI uu') = uu' := nI_clamp hu
                have cv : cW (nI vv) = vv := nI_clamp hv
                have s1 := h_is_iff.mp (sc_is h hf)
                have s2 := h_is_iff.mp (sc_is h ht)
                have cp : h_cp S (66 + 2 * f) (66 + 2 * t) (nI yy) (nI uu') (nI vv) = true := by
                  refine decide_eq_true ⟨⟨⟨s1.1, by rw [s1.2]⟩, s2.1, by rw [s2.2]⟩, ⟨?_, ?_, ?_⟩, ?_, ?_⟩
                  · rw [nI_toInt hy]; omega
                  · rw [nI_toInt hu]; omega
                  · rw [nI_toInt hv]; omega
                  · rw [nI_toInt hy, nI_toInt hv, s1.2]; show _ ≤ (24 : Int); omega
                  · rw [nI_toInt hu, nI_toInt hv, s2.2]; show _ ≤ (24 : Int); omega
                rw [cy, cu, cv]
                refine COp.mk (I2 := va_up I (66 + 2 * t) (va_cpy (I (66 + 2 * f)) (I (66 + 2 * t)) yy uu' vv)) (R2 := R) (hc.shs (fun b hb => vu_n (by omega)) (fun b _ _ b3 => vu_n b3) ⟨fun i hi => ?_, fun i hi => ?_⟩) h (fun b hb => vu_n (by omega)) ?_
                · obtain ⟨g1, g2, g3, -, -⟩ := hc.sh hi
                  rw [vu_n (show 65 + 2 * i ≠ 66 + 2 * t by omega), vu_n (show 109 ≠ 111 by decide), vu_n (show 110 ≠ 111 by decide), vu_s]
                  refine ⟨g1, g2, fun k hk => ?_⟩
                  unfold blS
                  by_cases e : i = t
                  · subst e
                    rw [vu_s]
                    unfold va_cpy
                    by_cases hin : uu' ≤ k ∧ k < uu' + vv
                    · rw [if_pos hin, if_pos (by omega), a3 _ (by omega)]
                      congr 1
                      omega
                    · rw [if_neg hin, if_neg (by omega)]
                      exact g3 k hk
                  · rw [vu_n (by omega), if_neg (by omega)]
                    exact g3 k hk
                · rw [vu_n (show 109 ≠ 111 by decide), vu_n (show 110 ≠ 111 by decide)]
                  obtain ⟨-, -, -, g4, g5⟩ := hc.sh hi
                  exact ⟨g4, g5⟩
                · simp only [e_W_copy_68, e_W_copy_70, e_W_copy_71, e_W_copy_73, e_W_copy_76, e_W_copy_79, e_W_copy_81, e_W_copy_83, e_W_copy_85, e_W_copy_88, e_W_copy_91, e_W_copy_94, e_W_copy_95, e_W_copy_97, e_W_copy_100, e_W_copy_101, e_W_copy_103, e_W_copy_106, e_W_copy_108, e_W_copy_110, e_W_copy_113, e_W_copy_115, sh_is h hf, sh_is h ht, k1.1 q1, k2.1 q2, rb_i, t1, and_self, and_true, true_and, and_false, false_and, or_true, true_or, or_false, false_or, not_true_eq_false, not_false_eq_true, if_true, if_false, ne_eq, ite_self, reduceCtorEq, i10, Decidable.not_not, Bool.and_self, Bool.and_true, Bool.true_and, sc_r h hf, sc_r h ht, cp, nI_clamp hy, nI_clamp hu, nI_clamp hv]
              · have i1 := (hp_iff hn).mp q1
                have e : (if y < 0 then (-1000000013, A) else if u < 0 then (-1000000013, A) else if v < 0 then (-1000000013, A) else if nI n - v < y then (-1000000013, A) else if nI m - v < u then ((-1000000013 : Int32), A) else (v, va_up A 111 (blS (A 111) (fun i => A 111 (24 * f + cW y + i)) (24 * t + cW u) (cW v)))) = (-1000000013, A) := by
                  rw [if_neg i1.1]
                  by_cases hu : u < 0
                  · rw [if_pos hu]
                  · rw [if_neg hu, if_neg i1.2.1, if_neg i1.2.2]
                    by_cases hq : nI m - v < u
                    · rw [if_pos hq]
                    · exact absurd ((hp_iff hm).mpr ⟨hu, i1.2.1, hq⟩) q2
                rw [e]
                exact COp.same h hc (by simp only [e_W_copy_68, e_W_copy_70, e_W_copy_71, e_W_copy_73, e_W_copy_76, e_W_copy_79, e_W_copy_81, e_W_copy_83, e_W_copy_85, e_W_copy_88, e_W_copy_91, e_W_copy_94, sh_is h hf, sh_is h ht, k1.1 q1, k2.2 q2, rb_i, t1, and_self, and_true, true_and, and_false, false_and, or_true, true_or, or_false, false_or, not_true_eq_false, not_false_eq_true, if_true, if_false, ne_eq, ite_self, reduceCtorEq, i10, Decidable.not_not, Bool.and_self, Bool.and_true, Bool.true_and])
            · have e : (if y < 0 then (-1000000013, A) else if u < 0 then (-1000000013, A) else if v < 0 then (-1000000013, A) else if nI n - v < y then (-1000000013, A) else if nI m - v < u then ((-1000000013 : Int32), A) else (v, va_up A 111 (blS (A 111) (fun i => A 111 (24 * f + cW y + i)) (24 * t + cW u) (cW v)))) = (-1000000013, A) := by
                by_cases hy : y < 0
                · rw [if_pos hy]
                · rw [if_neg hy]
                  by_cases hu : u < 0
                  · rw [if_pos hu]
                  · rw [if_neg hu]
                    by_cases hv : v < 0
                    · rw [if_pos hv]
                    · rw [if_neg hv]
                      by_cases hq : nI n - v < y
                      · rw [if_pos hq]
                      · exact absurd ((hp_iff hn).mpr ⟨hy, hv, hq⟩) q1
              rw [e]
              exact COp.same h hc (by simp only [e_W_copy_68, e_W_copy_70, e_W_copy_71, e_W_copy_73, e_W_copy_76, e_W_copy_79, e_W_copy_81, e_W_copy_83, e_W_copy_85, e_W_copy_88, e_W_copy_91, e_W_copy_94, sh_is h hf, k1.2 q1, rb_i, t1, and_self, and_true, true_and, and_false, false_and, or_true, true_or, or_false, false_or, not_true_eq_false, not_false_eq_true, if_true, if_false, ne_eq, ite_self, reduceCtorEq, i10, Decidable.not_not, Bool.and_self, Bool.and_true, Bool.true_and])
          · rw [if_neg hs]
            exact COp.same h hc (by simp only [e_W_copy_33, e_W_copy_35, e_W_copy_38, e_W_copy_41, e_W_copy_43, e_W_copy_46, e_W_copy_49, e_W_copy_51, e_W_copy_52, e_W_copy_54, e_W_copy_57, e_W_copy_59, e_W_copy_62, e_W_copy_65, e_W_copy_67, sh_is h hf, sh_is h ht, k_mis_n h hc hf hm1, k_mis_n h hc ht hm2, rb_i, t1, and_self, and_true, true_and, and_false, false_and, or_true, true_or, or_false, false_or, not_true_eq_false, not_false_eq_true, if_true, if_false, ne_eq, ite_self, reduceCtorEq, i10, Decidable.not_not, Bool.and_self, Bool.and_true, Bool.true_and, a1, b1, hs])
    · rw [if_neg (fun q => h2 q.2)]
      exact COp.same h hc (by simp only [e_W_copy_0, e_W_copy_1, e_W_copy_4, e_W_copy_7, e_W_copy_8, e_W_copy_11, e_W_copy_14, e_W_copy_16, k_W_isSheet, h1, h2, rb_i, t1, and_self, and_true, true_and, and_false, false_and, or_true, true_or, or_false, false_or, not_true_eq_false, not_false_eq_true, if_true, if_false, ne_eq, ite_self, reduceCtorEq, i10, Decidable.not_not, Bool.and_self, Bool.and_true, Bool.true_and])
  · rw [if_neg (fun q => h1 q.1)]
    exact COp.same h hc (by simp only [e_W_copy_0, e_W_copy_1, e_W_copy_4, e_W_copy_7, e_W_copy_8, e_W_copy_11, e_W_copy_14, e_W_copy_16, k_W_isSheet, h1, rb_i, t1, and_self, and_true, true_and, and_false, false_and, or_true, true_or, or_false, false_or, not_true_eq_false, not_false_eq_true, if_true, if_false, ne_eq, ite_self, reduceCtorEq, i10, Decidable.not_not, Bool.and_self, Bool.and_true, Bool.true_and])
theorem CR.sl (hc : CR S I R A) (hi : i < 5) : I (73 + 4 * i) 3 = A 112 i ∧ (A 112 i = 1 → I (74 + 4 * i) 0 = A 113 i ∧ okF 0 (I (74 + 4 * i) 0) ∧ worthS (wkA (I (74 + 4 * i))) 0 = A 114 i) ∧ (A 112 i = 2 → I (75 + 4 * i) 2 = A 113 i ∧ ∀ k, k < 24 → I (76 + 4 * i) k = A 115 (24 * i + k)) ∧ (A 112 i = 3 → I (73 + 4 * i) 2 = A 113 i) ∧ (A 112 i = 0 ∨ A 112 i = 1 ∨ A 112 i = 2 ∨ A 112 i = 3) ∧ (A 112 i = 2 → ∃ n, n ≤ 24 ∧ A 113 i = nI n) := by
  obtain ⟨h1, h2, h3, h4⟩ := hc.2.2.2.2.2.1 i hi
  obtain ⟨h5, h6⟩ := hc.2.2.2.2.2.2 i hi
  exact ⟨h1, h2, h3, h4, h5, h6⟩
theorem k_find (h : WF S R) (hc : CR S I R A) (hi : i < 5) : rn Ls xs d 169 0 [some (.inr (.inl (some 0))), some (.inl (nI i)), some (.inl x), none] [] (S, I, R) = some (some (.inl (if A 112 i = 0 then -1000000011 else if A 112 i = x then 0 else -1000000012)), (S, I, R)) := by
  obtain ⟨g1, -⟩ := hc.sl hi
  by_cases h0 : A 112 i = 0
  · simp only [e_W_findingUnless_0, e_W_findingUnless_1, e_W_findingUnless_4, e_W_findingUnless_5, e_W_findingUnless_6, e_W_findingUnless_9, e_W_findingUnless_10, e_W_findingUnless_11, e_W_findingUnless_14, e_W_findingUnless_16, e_W_findingUnless_17, e_W_findingUnless_18, e_W_findingUnless_19, e_W_findingUnless_22, e_W_findingUnless_23, e_W_findingUnless_26, e_W_findingUnless_28, is_0 h, rf_0_6 h, ia_63 h hi, nI_clamp (show i < 2 ^ 31 by omega), so_r h hi, so_is h hi, g1, and_self, and_true, true_and, and_false, false_and, or_true, true_or, or_false, false_or, not_true_eq_false, not_false_eq_true, if_true, if_false, ne_eq, ite_self, reduceCtorEq, i10, Decidable.not_not, Bool.and_self, Bool.and_true, Bool.true_and, h0]
  · by_cases hx : A 112 i = x
    · simp only [e_W_findingUnless_0, e_W_findingUnless_1, e_W_findingUnless_4, e_W_findingUnless_5, e_W_findingUnless_6, e_W_findingUnless_9, e_W_findingUnless_10, e_W_findingUnless_11, e_W_findingUnless_14, e_W_findingUnless_16, e_W_findingUnless_17, e_W_findingUnless_18, e_W_findingUnless_19, e_W_findingUnless_22, e_W_findingUnless_23, e_W_findingUnless_26, e_W_findingUnless_28, is_0 h, rf_0_6 h, ia_63 h hi, nI_clamp (show i < 2 ^ 31 by omega), so_r h hi, so_is h hi, g1, and_self, and_true, true_and, and_false, false_and, or_true, true_or, or_false, false_or, not_true_eq_false, not_false_eq_true, if_true, if_false, ne_eq, ite_self, reduceCtorEq, i10, Decidable.not_not, Bool.and_self, Bool.and_true, Bool.true_and, h0, hx]
      rw [hx] at h0
      simp only [h0, if_false, if_true, not_false_eq_true]
    · simp only [e_W_findingUnless_0, e_W_findingUnless_1, e_W_findingUnless_4, e_W_findingUnless_5, e_W_findingUnless_6, e_W_findingUnless_9, e_W_findingUnless_10, e_W_findingUnless_11, e_W_findingUnless_14, e_W_findingUnless_16, e_W_findingUnless_17, e_W_findingUnless_18, e_W_findingUnless_19, e_W_findingUnless_22, e_W_findingUnless_23, e_W_findingUnless_26, e_W_findingUnless_28, is_0 h, rf_0_6 h, ia_63 h hi, nI_clamp (show i < 2 ^ 31 by omega), so_r h hi, so_is h hi, g1, and_self, and_true, true_and, and_false, false_and, or_true, true_or, or_false, false_or, not_true_eq_false, not_false_eq_true, if_true, if_false, ne_eq, ite_self, reduceCtorEq, i10, Decidable.not_not, Bool.and_self, Bool.and_true, Bool.true_and, h0, hx]
theorem t11 : ¬ (-1000000011 : Int32) = 0 := by decide
theorem t12 : ¬ (-1000000012 : Int32) = 0 := by decide
theorem cw_ask (h : WF S R) (hc : CR S I R A) : COp S I R (sp_ask A x y) (rn Ls xs (d + 9) 71 0 [some (.inr (.inl (some 0))), some (.inl x), some (.inl y), none, none] [] (S, I, R)) := by
  unfold sp_ask
  refine COp.same h hc ?_
  by_cases h1 : isSl x = true
  · have h1' := h1
    obtain ⟨w, hw, rfl⟩ := sl_get h1
    have cw : cW (nI w) = w := nI_clamp (by omega)
    by_cases h2 : in05 y = true
    · rw [if_pos ⟨h1', h2⟩, cw]
      have kf := k_find (Ls := Ls) (xs := xs) (d := d + 8) (x := 1) h hc hw
      obtain ⟨g1, g2, -⟩ := hc.sl hw
      by_cases h0 : A 112 w = 0
      · rw [if_pos h0] at kf ⊢
        simp only [e_W_ask_0, e_W_ask_1, e_W_ask_4, e_W_ask_7, e_W_ask_8, e_W_ask_11, e_W_ask_14, e_W_ask_16, e_W_ask_17, e_W_ask_18, e_W_ask_19, e_W_ask_20, e_W_ask_23, e_W_ask_24, e_W_ask_25, e_W_ask_28, e_W_ask_29, k_W_isSlot, k_W_isKind, h1', h2, rb_i, t1, and_self, and_true, true_and, and_false, false_and, or_true, true_or, or_false, false_or, not_true_eq_false, not_false_eq_true, if_true, if_false, ne_eq, ite_self, reduceCtorEq, i10, Decidable.not_not, Bool.and_self, Bool.and_true, Bool.true_and, is_0 h, kf, t11]
      · rw [if_neg h0] at kf ⊢
        by_cases hk : A 112 w = 1
        · rw [if_pos hk] at kf ⊢
          obtain ⟨g3, g4, g5⟩ := g2 hk
          have ko := k_K_isOf (Ls := Ls) (xs := xs) (d := d + 8) (I := I) (R := R) (x := y) (so_wi h hw) g4 h2
          have kw := k_K_worth (Ls := Ls) (xs := xs) (d := d + 8) (I := I) (R := R) (a := wkA (I (74 + 4 * w))) (w := 0) (so_wi h hw) rfl rfl
          rw [g5] at kw
          rw [g3] at ko
          by_cases hu : undS (A 113 w) y = true
          · rw [if_pos hu] at ko ⊢
            simp only [e_W_ask_0, e_W_ask_1, e_W_ask_4, e_W_ask_7, e_W_ask_8, e_W_ask_11, e_W_ask_14, e_W_ask_16, e_W_ask_17, e_W_ask_18, e_W_ask_19, e_W_ask_20, e_W_ask_23, e_W_ask_24, e_W_ask_25, e_W_ask_28, e_W_ask_29, e_W_ask_30, e_W_ask_31, e_W_ask_34, e_W_ask_35, e_W_ask_36, e_W_ask_39, e_W_ask_41, e_W_ask_43, e_W_ask_44, e_W_ask_47, e_W_ask_50, e_W_ask_52, e_W_ask_55, e_W_ask_58, e_W_ask_60, k_W_isSlot, k_W_isKind, h1', h2, rb_i, t1, and_self, and_true, true_and, and_false, false_and, or_true, true_or, or_false, false_or, not_true_eq_false, not_false_eq_true, if_true, if_false, ne_eq, ite_self, reduceCtorEq, i10, Decidable.not_not, Bool.and_self, Bool.and_true, Bool.true_and, is_0 h, kf, rf_0_6 h, ia_63 h hw, nI_clamp (show w < 2 ^ 31 by omega), so_r h hw, so_is h hw, so_w h hw, so_wi h hw, ko, kw]
          · rw [if_neg hu] at ko ⊢
            simp only [e_W_ask_0, e_W_ask_1, e_W_ask_4, e_W_ask_7, e_W_ask_8, e_W_ask_11, e_W_ask_14, e_W_ask_16, e_W_ask_17, e_W_ask_18, e_W_ask_19, e_W_ask_20, e_W_ask_23, e_W_ask_24, e_W_ask_25, e_W_ask_28, e_W_ask_29, e_W_ask_30, e_W_ask_31, e_W_ask_34, e_W_ask_35, e_W_ask_36, e_W_ask_39, e_W_ask_41, e_W_ask_43, e_W_ask_44, e_W_ask_47, e_W_ask_50, e_W_ask_52, e_W_ask_55, e_W_ask_58, e_W_ask_60, k_W_isSlot, k_W_isKind, h1', h2, rb_i, t1, and_self, and_true, true_and, and_false, false_and, or_true, true_or, or_false, false_or, not_true_eq_false, not_false_eq_true, if_true, if_false, ne_eq, ite_self, reduceCtorEq, i10, Decidable.not_not, Bool.and_self, Bool.and_true, Bool.true_and, is_0 h, kf, rf_0_6 h, ia_63 h hw, nI_clamp (show w < 2 ^ 31 by omega), so_r h hw, so_is h hw, so_w h hw, so_wi h hw, ko]
        · rw [if_neg hk] at kf ⊢
          simp only [e_W_ask_0, e_W_ask_1, e_W_ask_4, e_W_ask_7, e_W_ask_8, e_W_ask_11, e_W_ask_14, e_W_ask_16, e_W_ask_17, e_W_ask_18, e_W_ask_19, e_W_ask_20, e_W_ask_23, e_W_ask_24, e_W_ask_25, e_W_ask_28, e_W_ask_29, k_W_isSlot, k_W_isKind, h1', h2, rb_i, t1, and_self, and_true, true_and, and_false, false_and, or_true, true_or, or_false, false_or, not_true_eq_false, not_false_eq_true, if_true, if_false, ne_eq, ite_self, reduceCtorEq, i10, Decidable.not_not, Bool.and_self, Bool.and_true, Bool.true_and, is_0 h, kf, t12]
    · rw [if_neg (fun q => h2 q.2)]
      simp only [e_W_ask_0, e_W_ask_1, e_W_ask_4, e_W_ask_7, e_W_ask_8, e_W_ask_11, e_W_ask_14, e_W_ask_16, k_W_isSlot, k_W_isKind, h1', h2, rb_i, t1, and_self, and_true, true_and, and_false, false_and, or_true, true_or, or_false, false_or, not_true_eq_false, not_false_eq_true, if_true, if_false, ne_eq, ite_self, reduceCtorEq, i10, Decidable.not_not, Bool.and_self, Bool.and_true, Bool.true_and]
  · rw [if_neg (fun q => h1 q.1)]
    simp only [e_W_ask_0, e_W_ask_1, e_W_ask_4, e_W_ask_7, e_W_ask_8, e_W_ask_11, e_W_ask_14, e_W_ask_16, k_W_isSlot, h1, rb_i, t1, and_self, and_true, true_and, and_false, false_and, or_true, true_or, or_false, false_or, not_true_eq_false, not_false_eq_true, if_true, if_false, ne_eq, ite_self, reduceCtorEq, i10, Decidable.not_not, Bool.and_self, Bool.and_true, Bool.true_and]
theorem cw_item (h : WF S R) (hc : CR S I R A) : COp S I R (sp_item A x y) (rn Ls xs (d + 9) 73 0 [some (.inr (.inl (some 0))), some (.inl x), some (.inl y), none, none] [] (S, I, R)) := by
  unfold sp_item
  refine COp.same h hc ?_
  by_cases h1 : isSl x = true
  · have h1' := h1
    obtain ⟨w, hw, rfl⟩ := sl_get h1
    have cw : cW (nI w) = w := nI_clamp (by omega)
    rw [if_pos h1', cw]
    have kf := k_find (Ls := Ls) (xs := xs) (d := d + 8) (x := 2) h hc hw
    obtain ⟨g1, -, g2, -, -, g3⟩ := hc.sl hw
    by_cases h0 : A 112 w = 0
    · rw [if_pos h0] at kf ⊢
      simp only [e_W_item_0, e_W_item_1, e_W_item_4, e_W_item_7, e_W_item_9, e_W_item_10, e_W_item_11, e_W_item_12, e_W_item_13, e_W_item_16, e_W_item_17, e_W_item_18, e_W_item_21, e_W_item_22, k_W_isSlot, h1', rb_i, t1, and_self, and_true, true_and, and_false, false_and, or_true, true_or, or_false, false_or, not_true_eq_false, not_false_eq_true, if_true, if_false, ne_eq, ite_self, reduceCtorEq, i10, Decidable.not_not, Bool.and_self, Bool.and_true, Bool.true_and, is_0 h, kf, t11]
    · rw [if_neg h0] at kf ⊢
      by_cases hk : A 112 w = 2
      · rw [if_pos hk] at kf ⊢
        obtain ⟨g4, g5⟩ := g2 hk
        obtain ⟨n, hn, en⟩ := g3 hk
        have st : rn Ls xs (d + 9) 73 0 [some (.inr (.inl (some 0))), some (.inl (nI w)), some (.inl y), none, none] [] (S, I, R) = rn Ls xs (d + 9) 73 34 [some (.inr (.inl (some 0))), some (.inl (nI w)), some (.inl y), some (.inl 0), some (.inr (.inl (some (75 + 4 * w))))] [] (S, I, R) := by
          simp only [e_W_item_0, e_W_item_1, e_W_item_4, e_W_item_7, e_W_item_9, e_W_item_10, e_W_item_11, e_W_item_12, e_W_item_13, e_W_item_16, e_W_item_17, e_W_item_18, e_W_item_21, e_W_item_22, e_W_item_23, e_W_item_24, e_W_item_27, e_W_item_28, e_W_item_29, e_W_item_32, k_W_isSlot, h1', rb_i, t1, and_self, and_true, true_and, and_false, false_and, or_true, true_or, or_false, false_or, not_true_eq_false, not_false_eq_true, if_true, if_false, ne_eq, ite_self, reduceCtorEq, i10, Decidable.not_not, Bool.and_self, Bool.and_true, Bool.true_and, is_0 h, kf, rf_0_6 h, ia_63 h hw, nI_clamp (show w < 2 ^ 31 by omega), so_r h hw, so_is h hw, so_s h hw]
        rw [st]
        by_cases hp : 0 ≤ y ∧ y ≤ A 113 w - 1
        · have hp' := hp
          rw [if_pos hp]
          obtain ⟨j, hj, rfl⟩ := nn (i_nlt.mpr hp.1)
          rw [en, in_iff hj (by omega)] at hp
          have cj : cW (nI j) = j := nI_clamp (by omega)
          have hnm := k_H_hasNumber (Ls := Ls) (xs := xs) (d := d + 6) (I := I) (so_si h hw) (so_c h hw) (fun k hk => so_ia h hw hk) hn (by rw [g4, en]) hj
          rw [g5 j (by omega)] at hnm
          rw [cj]
          by_cases hv : A 115 (24 * w + j) = NN
          · rw [if_neg (fun q => q.2 hv)] at hnm
            rw [if_pos hv]
            simp only [e_W_item_34, e_W_item_36, e_W_item_37, e_W_item_40, e_W_item_43, e_W_item_46, e_W_item_47, e_W_item_49, e_W_item_50, e_W_item_53, e_W_item_56, e_W_item_58, e_W_item_61, e_W_item_62, e_W_item_63, e_W_item_66, e_W_item_68, so_si h hw, k_H_hasPlace (so_si h hw), g4, hp', rb_i, t1, and_self, and_true, true_and, and_false, false_and, or_true, true_or, or_false, false_or, not_true_eq_false, not_false_eq_true, if_true, if_false, ne_eq, ite_self, reduceCtorEq, i10, Decidable.not_not, Bool.and_self, Bool.and_true, Bool.true_and, hnm]
          · rw [if_pos ⟨hp, hv⟩] at hnm
            rw [if_neg hv]
            simp only [e_W_item_34, e_W_item_36, e_W_item_37, e_W_item_40, e_W_item_43, e_W_item_46, e_W_item_47, e_W_item_49, e_W_item_50, e_W_item_53, e_W_item_56, e_W_item_58, e_W_item_61, e_W_item_62, e_W_item_63, e_W_item_66, e_W_item_68, so_si h hw, k_H_hasPlace (so_si h hw), g4, hp', rb_i, t1, and_self, and_true, true_and, and_false, false_and, or_true, true_or, or_false, false_or, not_true_eq_false, not_false_eq_true, if_true, if_false, ne_eq, ite_self, reduceCtorEq, i10, Decidable.not_not, Bool.and_self, Bool.and_true, Bool.true_and, hnm, so_c h hw, so_ia h hw (show j < 24 by omega), nI_clamp hj, g5 j (show j < 24 by omega)]
        · rw [if_neg hp]
          simp only [e_W_item_34, e_W_item_36, e_W_item_37, e_W_item_40, e_W_item_43, e_W_item_46, so_si h hw, k_H_hasPlace (so_si h hw), g4, hp, rb_i, t1, and_self, and_true, true_and, and_false, false_and, or_true, true_or, or_false, false_or, not_true_eq_false, not_false_eq_true, if_true, if_false, ne_eq, ite_self, reduceCtorEq, i10, Decidable.not_not, Bool.and_self, Bool.and_true, Bool.true_and]
      · rw [if_neg hk] at kf ⊢
        simp only [e_W_item_0, e_W_item_1, e_W_item_4, e_W_item_7, e_W_item_9, e_W_item_10, e_W_item_11, e_W_item_12, e_W_item_13, e_W_item_16, e_W_item_17, e_W_item_18, e_W_item_21, e_W_item_22, k_W_isSlot, h1', rb_i, t1, and_self, and_true, true_and, and_false, false_and, or_true, true_or, or_false, false_or, not_true_eq_false, not_false_eq_true, if_true, if_false, ne_eq, ite_self, reduceCtorEq, i10, Decidable.not_not, Bool.and_self, Bool.and_true, Bool.true_and, is_0 h, kf, t12]
  · rw [if_neg h1]
    simp only [e_W_item_0, e_W_item_1, e_W_item_4, e_W_item_7, e_W_item_9, k_W_isSlot, h1, rb_i, t1, and_self, and_true, true_and, and_false, false_and, or_true, true_or, or_false, false_or, not_true_eq_false, not_false_eq_true, if_true, if_false, ne_eq, ite_self, reduceCtorEq, i10, Decidable.not_not, Bool.and_self, Bool.and_true, Bool.true_and]
theorem rem_m1 (x : Int32) : x - x / (-1) * (-1) = 0 := by
  apply i_eqI
  rw [rem_toInt x (-1)]
  show x.toInt.tmod (-1) = 0
  rw [show (-1 : Int) = -(1 : Int) from rfl, Int.tmod_neg, Int.tmod_one]
theorem cw_rest (h : WF S R) (hc : CR S I R A) : COp S I R (sp_rest A x y) (rn Ls xs (d + 9) 75 0 [some (.inr (.inl (some 0))), some (.inl x), some (.inl y), none] [] (S, I, R)) := by
  unfold sp_rest
  refine COp.same h hc ?_
  by_cases h1 : isSl x = true
  · have h1' := h1
    obtain ⟨w, hw, rfl⟩ := sl_get h1
    have cw : cW (nI w) = w := nI_clamp (by omega)
    rw [if_pos h1', cw]
    have kf := k_find (Ls := Ls) (xs := xs) (d := d + 8) (x := 3) h hc hw
    obtain ⟨g1, -, -, g2, -⟩ := hc.sl hw
    by_cases h0 : A 112 w = 0
    · rw [if_pos h0] at kf ⊢
      simp only [e_W_rest_0, e_W_rest_1, e_W_rest_4, e_W_rest_7, e_W_rest_9, e_W_rest_10, e_W_rest_11, e_W_rest_12, e_W_rest_13, e_W_rest_16, e_W_rest_17, e_W_rest_18, e_W_rest_21, e_W_rest_22, k_W_isSlot, h1', rb_i, t1, and_self, and_true, true_and, and_false, false_and, or_true, true_or, or_false, false_or, not_true_eq_false, not_false_eq_true, if_true, if_false, ne_eq, ite_self, reduceCtorEq, i10, Decidable.not_not, Bool.and_self, Bool.and_true, Bool.true_and, is_0 h, kf, t11]
    · rw [if_neg h0] at kf ⊢
      by_cases hk : A 112 w = 3
      · rw [if_pos hk] at kf ⊢
        have g3 := g2 hk
        by_cases hy : y = 0
        · rw [if_pos hy]
          simp only [e_W_rest_0, e_W_rest_1, e_W_rest_4, e_W_rest_7, e_W_rest_9, e_W_rest_10, e_W_rest_11, e_W_rest_12, e_W_rest_13, e_W_rest_16, e_W_rest_17, e_W_rest_18, e_W_rest_21, e_W_rest_22, e_W_rest_23, e_W_rest_24, e_W_rest_27, e_W_rest_29, e_W_rest_32, e_W_rest_33, e_W_rest_36, e_W_rest_37, e_W_rest_38, e_W_rest_41, e_W_rest_42, e_W_rest_43, k_W_isSlot, h1', rb_i, t1, and_self, and_true, true_and, and_false, false_and, or_true, true_or, or_false, false_or, not_true_eq_false, not_false_eq_true, if_true, if_false, ne_eq, ite_self, reduceCtorEq, i10, Decidable.not_not, Bool.and_self, Bool.and_true, Bool.true_and, is_0 h, kf, hy]
        · rw [if_neg hy]
          have er : (if y = -1 then 0 else rem (A 113 w) y) = A 113 w - A 113 w / y * y := by
            by_cases hm : y = -1
            · rw [if_pos hm, hm, rem_m1]
            · rw [if_neg hm]
          rw [er]
          simp only [e_W_rest_0, e_W_rest_1, e_W_rest_4, e_W_rest_7, e_W_rest_9, e_W_rest_10, e_W_rest_11, e_W_rest_12, e_W_rest_13, e_W_rest_16, e_W_rest_17, e_W_rest_18, e_W_rest_21, e_W_rest_22, e_W_rest_23, e_W_rest_24, e_W_rest_27, e_W_rest_29, e_W_rest_32, e_W_rest_33, e_W_rest_36, e_W_rest_37, e_W_rest_38, e_W_rest_41, e_W_rest_42, e_W_rest_43, k_W_isSlot, h1', rb_i, t1, and_self, and_true, true_and, and_false, false_and, or_true, true_or, or_false, false_or, not_true_eq_false, not_false_eq_true, if_true, if_false, ne_eq, ite_self, reduceCtorEq, i10, Decidable.not_not, Bool.and_self, Bool.and_true, Bool.true_and, is_0 h, kf, hy, rf_0_6 h, ia_63 h hw, nI_clamp (show w < 2 ^ 31 by omega), so_r h hw, so_is h hw, g3]
      · rw [if_neg hk] at kf ⊢
        simp only [e_W_rest_0, e_W_rest_1, e_W_rest_4, e_W_rest_7, e_W_rest_9, e_W_rest_10, e_W_rest_11, e_W_rest_12, e_W_rest_13, e_W_rest_16, e_W_rest_17, e_W_rest_18, e_W_rest_21, e_W_rest_22, k_W_isSlot, h1', rb_i, t1, and_self, and_true, true_and, and_false, false_and, or_true, true_or, or_false, false_or, not_true_eq_false, not_false_eq_true, if_true, if_false, ne_eq, ite_self, reduceCtorEq, i10, Decidable.not_not, Bool.and_self, Bool.and_true, Bool.true_and, is_0 h, kf, t12]
  · rw [if_neg h1]
    simp only [e_W_rest_0, e_W_rest_1, e_W_rest_4, e_W_rest_7, e_W_rest_9, k_W_isSlot, h1, rb_i, t1, and_self, and_true, true_and, and_false, false_and, or_true, true_or, or_false, false_or, not_true_eq_false, not_false_eq_true, if_true, if_false, ne_eq, ite_self, reduceCtorEq, i10, Decidable.not_not, Bool.and_self, Bool.and_true, Bool.true_and]
end CRJ

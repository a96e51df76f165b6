/-! THE CLASS: lay -/
section CRK
variable {Ls : Nat} {xs : Nat → Int32} {d : Nat} {S : mS} {I I2 I3 A A2 : mI} {R R2 R3 : mR} {x y z u v : Int32} {i k : Nat}
theorem la_112 {w : Nat} {p q : Int32} : laidS A w y p q 112 = upd (A 112) w y := by rw [laidS, vu_n (by decide), vu_n (by decide), vu_s]
theorem la_113 {w : Nat} {p q : Int32} : laidS A w y p q 113 = upd (A 113) w p := by rw [laidS, vu_n (by decide), vu_s]
theorem la_114 {w : Nat} {p q : Int32} : laidS A w y p q 114 = upd (A 114) w q := by rw [laidS, vu_s]
theorem la_o {w b : Nat} {p q : Int32} (h1 : b ≠ 112) (h2 : b ≠ 113) (h3 : b ≠ 114) : laidS A w y p q b = A b := by rw [laidS, vu_n h3, vu_n h2, vu_n h1]
theorem worth_wk {a f : Nat → Int32} {w : Nat} (h0 : f 0 = a (8 + 6 * w)) (h4 : f 4 = a (8 + 6 * w + 4)) : worthS (wkA f) 0 = worthS a w := by
  have e0 : wkA f (8 + 6 * 0) = f 0 := rfl
  have e4 : wkA f (8 + 6 * 0 + 4) = f 4 := rfl
  unfold worthS
  rw [e0, e4, h0, h4]
theorem k_H_becomeAs {p o r ro : Nat} (hp : h_is S p 2 3 = true) (ho : h_is S o 2 3 = true) (hr : R p 0 = .inl (some r)) (hro : R o 0 = .inl (some ro)) (ir : h_is S r 100 24 = true) (iro : h_is S ro 100 24 = true) (hpo : o ≠ p) (h1 : ro ≠ p) (h2 : r ≠ p) : rn Ls xs (d + 1) 167 0 [some (.inr (.inl (some p))), some (.inr (.inl (some o)))] [] (S, I, R) = some (none, (S, va_up (va_up I p (upd (upd (I p) 1 (I o 1)) 2 (I o 2))) r (va_cpy (I ro) (I r) 0 0 24), R)) := by
  have s1 := h_is_iff.mp iro
  have s2 := h_is_iff.mp ir
  have cp : h_cp S ro r 0 0 24 = true := by
    refine decide_eq_true ⟨⟨⟨s1.1, by rw [s1.2]⟩, s2.1, by rw [s2.2]⟩, ⟨by decide, by decide, by decide⟩, ?_, ?_⟩
    · rw [s1.2]; decide
    · rw [s2.2]; decide
  simp only [e_H_becomeAs_0, e_H_becomeAs_1, e_H_becomeAs_2, e_H_becomeAs_5, e_H_becomeAs_8, e_H_becomeAs_9, e_H_becomeAs_10, e_H_becomeAs_13, e_H_becomeAs_16, e_H_becomeAs_17, e_H_becomeAs_20, e_H_becomeAs_21, e_H_becomeAs_22, e_H_becomeAs_25, e_H_becomeAs_26, e_H_becomeAs_28, e_H_becomeAs_31, hp, ho, hr, hro, and_self, and_true, true_and, and_false, false_and, or_true, true_or, or_false, false_or, not_true_eq_false, not_false_eq_true, if_true, if_false, ne_eq, ite_self, reduceCtorEq, i10, Decidable.not_not, Bool.and_self, Bool.and_true, Bool.true_and, vu_s, vu_vu, vu_n hpo, vu_n h1, vu_n h2, cp, show (0 : Int32).toNatClampNeg = 0 from rfl, show (24 : Int32).toNatClampNeg = 24 from rfl]
theorem cw_lay (h : WF S R) (hc : CR S I R A) : COp S I R (sp_lay A x y z) (rn Ls xs (d + 9) 69 0 [some (.inr (.inl (some 0))), some (.inl x), some (.inl y), some (.inl z), none, none] [] (S, I, R)) := by
  obtain ⟨n, hn, e1, cn⟩ := hc.g.n
  unfold sp_lay
  by_cases h1 : isSl x = true
  · have h1' := h1
    obtain ⟨w, hw, rfl⟩ := sl_get h1
    have cw : cW (nI w) = w := nI_clamp (by omega)
    obtain ⟨g1, -⟩ := hc.sl hw
    by_cases h2 : isSh y = true
    · have h2a : 0 ≤ y ∧ y ≤ 3 := isSh_iff.mp h2
      rw [if_pos ⟨h1', h2⟩, cw]
      /- the last piece -/
      have st : ∀ {ok : rn Ls xs (d + 9) 69 0 [some (.inr (.inl (some 0))), some (.inl (nI w)), some (.inl y), some (.inl z), none, none] [] (S, I, R) = rn Ls xs (d + 9) 69 70 [some (.inr (.inl (some 0))), some (.inl (nI w)), some (.inl y), some (.inl z), none, none] [] (S, I, R)}, rn Ls xs (d + 9) 69 0 [some (.inr (.inl (some 0))), some (.inl (nI w)), some (.inl y), some (.inl z), none, none] [] (S, I, R) = rn Ls xs (d + 9) 69 91 [some (.inr (.inl (some 0))), some (.inl (nI w)), some (.inl y), some (.inl z), some (.inr (.inl (some (73 + 4 * w)))), some (.inl (A 112 w))] [] (S, va_up I (73 + 4 * w) (upd (I (73 + 4 * w)) 3 y), R) := by
        intro ok
        rw [ok]
        simp only [e_W_lay_70, e_W_lay_71, e_W_lay_74, e_W_lay_75, e_W_lay_76, e_W_lay_78, e_W_lay_80, e_W_lay_83, e_W_lay_85, e_W_lay_87, e_W_lay_88, is_0 h, rf_0_6 h, ia_63 h hw, nI_clamp (show w < 2 ^ 31 by omega), so_r h hw, so_is h hw, g1, and_self, and_true, true_and, and_false, false_and, or_true, true_or, or_false, false_or, not_true_eq_false, not_false_eq_true, if_true, if_false, ne_eq, ite_self, reduceCtorEq, i10, Decidable.not_not, Bool.and_self, Bool.and_true, Bool.true_and]
      by_cases hy1 : y = 1
      · subst hy1
        rw [if_pos rfl]
        by_cases hz : isWr A z
        · have hz' := hz
          rw [if_pos hz]
          obtain ⟨k, hk, rfl⟩ := wr_get hn e1 hz
          have ck : cW (nI k) = k := nI_clamp (by omega)
          have hk14 : k < 14 := by omega
          have w0 : I (1 + 4 + k) 0 = A 94 (8 + 6 * k) := hc.w cn hk (by decide)
          have w4 : I (1 + 4 + k) 4 = A 94 (8 + 6 * k + 4) := hc.w cn hk (by decide)
          have w5 : I (1 + 4 + k) 5 = A 94 (8 + 6 * k + 5) := hc.w cn hk (by decide)
          rw [ck, st (ok := by simp only [e_W_lay_0, e_W_lay_1, e_W_lay_4, e_W_lay_7, e_W_lay_8, e_W_lay_9, e_W_lay_10, e_W_lay_13, e_W_lay_16, e_W_lay_18, e_W_lay_19, e_W_lay_20, e_W_lay_21, e_W_lay_24, e_W_lay_25, e_W_lay_28, e_W_lay_29, e_W_lay_32, e_W_lay_35, e_W_lay_36, e_W_lay_37, e_W_lay_40, e_W_lay_41, e_W_lay_44, e_W_lay_47, e_W_lay_49, e_W_lay_50, e_W_lay_51, e_W_lay_52, e_W_lay_55, e_W_lay_56, e_W_lay_59, e_W_lay_60, e_W_lay_61, e_W_lay_64, e_W_lay_67, k_W_isSlot, h1', k_W_within, h2a, rb_i, t1, and_self, and_true, true_and, and_false, false_and, or_true, true_or, or_false, false_or, not_true_eq_false, not_false_eq_true, if_true, if_false, ne_eq, ite_self, reduceCtorEq, i10, Decidable.not_not, Bool.and_self, Bool.and_true, Bool.true_and, Int32.reduceAdd, Int32.reduceSub, Int32.reduceLT, Int32.reduceLE, Int32.reduceMul, n_0_1, n_0_2, n_0_3, n_0_4, n_0_5, n_0_6, n_0_7, n_0_8, n_0_9, n_1_0, n_1_2, n_1_3, n_1_4, n_1_5, n_1_6, n_1_7, n_1_8, n_1_9, n_2_0, n_2_1, n_2_3, n_2_4, n_2_5, n_2_6, n_2_7, n_2_8, n_2_9, n_3_0, n_3_1, n_3_2, n_3_4, n_3_5, n_3_6, n_3_7, n_3_8, n_3_9, n_4_0, n_4_1, n_4_2, n_4_3, n_4_5, n_4_6, n_4_7, n_4_8, n_4_9, n_5_0, n_5_1, n_5_2, n_5_3, n_5_4, n_5_6, n_5_7, n_5_8, n_5_9, n_6_0, n_6_1, n_6_2, n_6_3, n_6_4, n_6_5, n_6_7, n_6_8, n_6_9, n_7_0, n_7_1, n_7_2, n_7_3, n_7_4, n_7_5, n_7_6, n_7_8, n_7_9, n_8_0, n_8_1, n_8_2, n_8_3, n_8_4, n_8_5, n_8_6, n_8_7, n_8_9, n_9_0, n_9_1, n_9_2, n_9_3, n_9_4, n_9_5, n_9_6, n_9_7, n_9_8, is_0 h, rf_0_0 h, is_1 h, k_hw_y h hc hz'])]
          have kb := k_K_becomeAs (Ls := Ls) (xs := xs) (d := d + 8) (I := va_up I (73 + 4 * w) (upd (I (73 + 4 * w)) 3 1)) (R := R) (so_wi h hw) (q_wi h q1 hk14) (show 1 + 4 + k ≠ 74 + 4 * w by omega) (by rw [vu_n (by omega), w5]; exact h_bo_ok (hc.g.2 k 5 (by omega) (by decide)))
          simp only [vu_n (show 1 + 4 + k ≠ 73 + 4 * w by omega), vu_n (show 74 + 4 * w ≠ 73 + 4 * w by omega)] at kb
          refine COp.mk (I2 := va_up (va_up I (73 + 4 * w) (upd (I (73 + 4 * w)) 3 1)) (74 + 4 * w) (upd (upd (upd (upd (upd (upd (I (74 + 4 * w)) 0 (I (1 + 4 + k) 0)) 1 (I (1 + 4 + k) 1)) 2 (I (1 + 4 + k) 2)) 3 (I (1 + 4 + k) 3)) 4 (I (1 + 4 + k) 4)) 5 (I (1 + 4 + k) 5))) (R2 := R) (hc.sls (fun b hb => ?_) (fun b b1 b2 b3 _ => la_o b1 b2 b3) ⟨fun i hi => ?_, fun i hi => ?_⟩) h (fun b hb => ?_) (by
            simp only [e_W_lay_91, e_W_lay_92, e_W_lay_93, e_W_lay_96, e_W_lay_98, e_W_lay_101, e_W_lay_102, e_W_lay_105, e_W_lay_108, e_W_lay_109, e_W_lay_110, e_W_lay_113, e_W_lay_116, e_W_lay_117, e_W_lay_118, e_W_lay_121, e_W_lay_123, e_W_lay_126, e_W_lay_127, e_W_lay_130, e_W_lay_131, e_W_lay_132, e_W_lay_135, e_W_lay_138, e_W_lay_140, e_W_lay_141, e_W_lay_144, e_W_lay_146, and_self, and_true, true_and, and_false, false_and, or_true, true_or, or_false, false_or, not_true_eq_false, not_false_eq_true, if_true, if_false, ne_eq, ite_self, reduceCtorEq, i10, Decidable.not_not, Bool.and_self, Bool.and_true, Bool.true_and, Int32.reduceAdd, Int32.reduceSub, Int32.reduceLT, Int32.reduceLE, Int32.reduceMul, n_0_1, n_0_2, n_0_3, n_0_4, n_0_5, n_0_6, n_0_7, n_0_8, n_0_9, n_1_0, n_1_2, n_1_3, n_1_4, n_1_5, n_1_6, n_1_7, n_1_8, n_1_9, n_2_0, n_2_1, n_2_3, n_2_4, n_2_5, n_2_6, n_2_7, n_2_8, n_2_9, n_3_0, n_3_1, n_3_2, n_3_4, n_3_5, n_3_6, n_3_7, n_3_8, n_3_9, n_4_0, n_4_1, n_4_2, n_4_3, n_4_5, n_4_6, n_4_7, n_4_8, n_4_9, n_5_0, n_5_1, n_5_2, n_5_3, n_5_4, n_5_6, n_5_7, n_5_8, n_5_9, n_6_0, n_6_1, n_6_2, n_6_3, n_6_4, n_6_5, n_6_7, n_6_8, n_6_9, n_7_0, n_7_1, n_7_2, n_7_3, n_7_4, n_7_5, n_7_6, n_7_8, n_7_9, n_8_0, n_8_1, n_8_2, n_8_3, n_8_4, n_8_5, n_8_6, n_8_7, n_8_9, n_9_0, n_9_1, n_9_2, n_9_3, n_9_4, n_9_5, n_9_6, n_9_7, n_9_8, is_0 h, rf_0_0 h, is_1 h, so_is h hw, so_w h hw, so_wi h hw, q_r0 h q1, q_ia1 h q1 hk14, nI_clamp (show k < 2 ^ 31 by omega), q_w h q1 hk14, kb, rb_v])
          · rw [vu_n (by omega), vu_n (by omega)]
          · obtain ⟨k1, k2, k3, k4, -, -⟩ := hc.sl hi
            rw [la_112, la_113, la_114, la_o (by decide) (by decide) (by decide)]
            by_cases e : i = w
            · subst e
              rw [up_s, up_s, up_s, vu_n (show 73 + 4 * i ≠ 74 + 4 * i by omega), vu_s, up_s, vu_s]
              refine ⟨rfl, fun _ => ⟨?_, ?_, ?_⟩, fun q => absurd q (by decide), fun q => absurd q (by decide)⟩
              · rw [up_n (by decide), up_n (by decide), up_n (by decide), up_n (by decide), up_n (by decide), up_s, w0]
              · rw [up_n (by decide), up_n (by decide), up_n (by decide), up_n (by decide), up_n (by decide), up_s, w0]
                exact hc.g.2 k 0 (by omega) (by decide)
              · refine worth_wk ?_ ?_
                · rw [up_n (by decide), up_n (by decide), up_n (by decide), up_n (by decide), up_n (by decide), up_s, w0]
                · rw [up_n (by decide), up_s, w4]
            · rw [up_n e, up_n e, up_n e, vu_n (show 73 + 4 * i ≠ 74 + 4 * w by omega), vu_n (show 73 + 4 * i ≠ 73 + 4 * w by omega), vu_n (show 74 + 4 * i ≠ 74 + 4 * w by omega), vu_n (show 74 + 4 * i ≠ 73 + 4 * w by omega), vu_n (show 75 + 4 * i ≠ 74 + 4 * w by omega), vu_n (show 75 + 4 * i ≠ 73 + 4 * w by omega), vu_n (show 76 + 4 * i ≠ 74 + 4 * w by omega), vu_n (show 76 + 4 * i ≠ 73 + 4 * w by omega)]
              exact ⟨k1, k2, k3, k4⟩
          · obtain ⟨-, -, -, -, k5, k6⟩ := hc.sl hi
            rw [la_112, la_113]
            by_cases e : i = w
            · subst e
              rw [up_s, up_s]
              exact ⟨Or.inr (Or.inl rfl), fun q => absurd q (by decide)⟩
            · rw [up_n e, up_n e]
              exact ⟨k5, k6⟩
          · rw [vu_n (by omega), vu_n (by omega)]
        · rw [if_neg hz]
          exact COp.same h hc (by simp only [e_W_lay_0, e_W_lay_1, e_W_lay_4, e_W_lay_7, e_W_lay_8, e_W_lay_9, e_W_lay_10, e_W_lay_13, e_W_lay_16, e_W_lay_18, e_W_lay_19, e_W_lay_20, e_W_lay_21, e_W_lay_24, e_W_lay_25, e_W_lay_28, e_W_lay_29, e_W_lay_32, e_W_lay_35, e_W_lay_36, e_W_lay_37, e_W_lay_40, e_W_lay_41, e_W_lay_44, e_W_lay_47, e_W_lay_49, k_W_isSlot, h1', k_W_within, h2a, rb_i, t1, and_self, and_true, true_and, and_false, false_and, or_true, true_or, or_false, false_or, not_true_eq_false, not_false_eq_true, if_true, if_false, ne_eq, ite_self, reduceCtorEq, i10, Decidable.not_not, Bool.and_self, Bool.and_true, Bool.true_and, Int32.reduceAdd, Int32.reduceSub, Int32.reduceLT, Int32.reduceLE, Int32.reduceMul, n_0_1, n_0_2, n_0_3, n_0_4, n_0_5, n_0_6, n_0_7, n_0_8, n_0_9, n_1_0, n_1_2, n_1_3, n_1_4, n_1_5, n_1_6, n_1_7, n_1_8, n_1_9, n_2_0, n_2_1, n_2_3, n_2_4, n_2_5, n_2_6, n_2_7, n_2_8, n_2_9, n_3_0, n_3_1, n_3_2, n_3_4, n_3_5, n_3_6, n_3_7, n_3_8, n_3_9, n_4_0, n_4_1, n_4_2, n_4_3, n_4_5, n_4_6, n_4_7, n_4_8, n_4_9, n_5_0, n_5_1, n_5_2, n_5_3, n_5_4, n_5_6, n_5_7, n_5_8, n_5_9, n_6_0, n_6_1, n_6_2, n_6_3, n_6_4, n_6_5, n_6_7, n_6_8, n_6_9, n_7_0, n_7_1, n_7_2, n_7_3, n_7_4, n_7_5, n_7_6, n_7_8, n_7_9, n_8_0, n_8_1, n_8_2, n_8_3, n_8_4, n_8_5, n_8_6, n_8_7, n_8_9, n_9_0, n_9_1, n_9_2, n_9_3, n_9_4, n_9_5, n_9_6, n_9_7, n_9_8, is_0 h, rf_0_0 h, is_1 h, k_hw_n h hc hz])
      · rw [if_neg hy1]
        by_cases hy2 : y = 2
        · subst hy2
          rw [if_pos rfl]
          by_cases hz : isSh z = true
          · have hz' := hz
            rw [if_pos hz]
            obtain ⟨k, hk, rfl⟩ := sh_get hz
            have ck : cW (nI k) = k := nI_clamp (by omega)
            obtain ⟨a1, a2, a3, a4, sz, hsz, en⟩ := hc.sh hk
            rw [ck]
            by_cases hm : A 109 k < 0
            · rw [if_pos hm]
              exact COp.same h hc (by simp only [e_W_lay_0, e_W_lay_1, e_W_lay_4, e_W_lay_7, e_W_lay_8, e_W_lay_9, e_W_lay_10, e_W_lay_13, e_W_lay_16, e_W_lay_18, e_W_lay_19, e_W_lay_20, e_W_lay_21, e_W_lay_24, e_W_lay_25, e_W_lay_28, e_W_lay_29, e_W_lay_32, e_W_lay_35, e_W_lay_36, e_W_lay_37, e_W_lay_40, e_W_lay_41, e_W_lay_44, e_W_lay_47, e_W_lay_49, e_W_lay_50, e_W_lay_51, e_W_lay_52, e_W_lay_55, e_W_lay_56, e_W_lay_59, e_W_lay_60, e_W_lay_61, e_W_lay_64, e_W_lay_67, e_W_lay_69, k_W_isSlot, k_W_isSheet, h1', hz', k_W_within, h2a, rb_i, t1, and_self, and_true, true_and, and_false, false_and, or_true, true_or, or_false, false_or, not_true_eq_false, not_false_eq_true, if_true, if_false, ne_eq, ite_self, reduceCtorEq, i10, Decidable.not_not, Bool.and_self, Bool.and_true, Bool.true_and, Int32.reduceAdd, Int32.reduceSub, Int32.reduceLT, Int32.reduceLE, Int32.reduceMul, n_0_1, n_0_2, n_0_3, n_0_4, n_0_5, n_0_6, n_0_7, n_0_8, n_0_9, n_1_0, n_1_2, n_1_3, n_1_4, n_1_5, n_1_6, n_1_7, n_1_8, n_1_9, n_2_0, n_2_1, n_2_3, n_2_4, n_2_5, n_2_6, n_2_7, n_2_8, n_2_9, n_3_0, n_3_1, n_3_2, n_3_4, n_3_5, n_3_6, n_3_7, n_3_8, n_3_9, n_4_0, n_4_1, n_4_2, n_4_3, n_4_5, n_4_6, n_4_7, n_4_8, n_4_9, n_5_0, n_5_1, n_5_2, n_5_3, n_5_4, n_5_6, n_5_7, n_5_8, n_5_9, n_6_0, n_6_1, n_6_2, n_6_3, n_6_4, n_6_5, n_6_7, n_6_8, n_6_9, n_7_0, n_7_1, n_7_2, n_7_3, n_7_4, n_7_5, n_7_6, n_7_8, n_7_9, n_8_0, n_8_1, n_8_2, n_8_3, n_8_4, n_8_5, n_8_6, n_8_7, n_8_9, n_9_0, n_9_1, n_9_2, n_9_3, n_9_4, n_9_5, n_9_6, n_9_7, n_9_8, is_0 h, rf_0_5 h, ia_62 h hk, nI_clamp (show k < 2 ^ 31 by omega), sh_r h hk, sh_is h hk, k_mis_y h hc hk hm])
            · rw [if_neg hm, st (ok := by simp only [e_W_lay_0, e_W_lay_1, e_W_lay_4, e_W_lay_7, e_W_lay_8, e_W_lay_9, e_W_lay_10, e_W_lay_13, e_W_lay_16, e_W_lay_18, e_W_lay_19, e_W_lay_20, e_W_lay_21, e_W_lay_24, e_W_lay_25, e_W_lay_28, e_W_lay_29, e_W_lay_32, e_W_lay_35, e_W_lay_36, e_W_lay_37, e_W_lay_40, e_W_lay_41, e_W_lay_44, e_W_lay_47, e_W_lay_49, e_W_lay_50, e_W_lay_51, e_W_lay_52, e_W_lay_55, e_W_lay_56, e_W_lay_59, e_W_lay_60, e_W_lay_61, e_W_lay_64, e_W_lay_67, k_W_isSlot, k_W_isSheet, h1', hz', k_W_within, h2a, rb_i, t1, and_self, and_true, true_and, and_false, false_and, or_true, true_or, or_false, false_or, not_true_eq_false, not_false_eq_true, if_true, if_false, ne_eq, ite_self, reduceCtorEq, i10, Decidable.not_not, Bool.and_self, Bool.and_true, Bool.true_and, Int32.reduceAdd, Int32.reduceSub, Int32.reduceLT, Int32.reduceLE, Int32.reduceMul, n_0_1, n_0_2, n_0_3, n_0_4, n_0_5, n_0_6, n_0_7, n_0_8, n_0_9, n_1_0, n_1_2, n_1_3, n_1_4, n_1_5, n_1_6, n_1_7, n_1_8, n_1_9, n_2_0, n_2_1, n_2_3, n_2_4, n_2_5, n_2_6, n_2_7, n_2_8, n_2_9, n_3_0, n_3_1, n_3_2, n_3_4, n_3_5, n_3_6, n_3_7, n_3_8, n_3_9, n_4_0, n_4_1, n_4_2, n_4_3, n_4_5, n_4_6, n_4_7, n_4_8, n_4_9, n_5_0, n_5_1, n_5_2, n_5_3, n_5_4, n_5_6, n_5_7, n_5_8, n_5_9, n_6_0, n_6_1, n_6_2, n_6_3, n_6_4, n_6_5, n_6_7, n_6_8, n_6_9, n_7_0, n_7_1, n_7_2, n_7_3, n_7_4, n_7_5, n_7_6, n_7_8, n_7_9, n_8_0, n_8_1, n_8_2, n_8_3, n_8_4, n_8_5, n_8_6, n_8_7, n_8_9, n_9_0, n_9_1, n_9_2, n_9_3, n_9_4, n_9_5, n_9_6, n_9_7, n_9_8, is_0 h, rf_0_5 h, ia_62 h hk, nI_clamp (show k < 2 ^ 31 by omega), sh_r h hk, sh_is h hk, k_mis_n h hc hk hm])]
              have kb := k_H_becomeAs (Ls := Ls) (xs := xs) (d := d + 7) (I := va_up I (73 + 4 * w) (upd (I (73 + 4 * w)) 3 2)) (R := R) (so_si h hw) (sh_is h hk) (so_c h hw) (sc_r h hk) (so_ci h hw) (sc_is h hk) (show 65 + 2 * k ≠ 75 + 4 * w by omega) (show 66 + 2 * k ≠ 75 + 4 * w by omega) (show 76 + 4 * w ≠ 75 + 4 * w by omega)
              simp only [vu_n (show 65 + 2 * k ≠ 73 + 4 * w by omega), vu_n (show 75 + 4 * w ≠ 73 + 4 * w by omega), vu_n (show 66 + 2 * k ≠ 73 + 4 * w by omega), vu_n (show 76 + 4 * w ≠ 73 + 4 * w by omega)] at kb
              refine COp.mk (I2 := va_up (va_up (va_up I (73 + 4 * w) (upd (I (73 + 4 * w)) 3 2)) (75 + 4 * w) (upd (upd (I (75 + 4 * w)) 1 (I (65 + 2 * k) 1)) 2 (I (65 + 2 * k) 2))) (76 + 4 * w) (va_cpy (I (66 + 2 * k)) (I (76 + 4 * w)) 0 0 24)) (R2 := R) (hc.sls (fun b hb => ?_) (fun b b1 b2 b3 b4 => by rw [vu_n b4]; exact la_o b1 b2 b3) ⟨fun i hi => ?_, fun i hi => ?_⟩) h (fun b hb => ?_) (by
                simp only [e_W_lay_91, e_W_lay_92, e_W_lay_93, e_W_lay_96, e_W_lay_98, e_W_lay_101, e_W_lay_102, e_W_lay_105, e_W_lay_108, e_W_lay_109, e_W_lay_110, e_W_lay_113, e_W_lay_116, e_W_lay_117, e_W_lay_118, e_W_lay_121, e_W_lay_123, e_W_lay_126, e_W_lay_127, e_W_lay_130, e_W_lay_131, e_W_lay_132, e_W_lay_135, e_W_lay_138, e_W_lay_140, e_W_lay_141, e_W_lay_144, e_W_lay_146, and_self, and_true, true_and, and_false, false_and, or_true, true_or, or_false, false_or, not_true_eq_false, not_false_eq_true, if_true, if_false, ne_eq, ite_self, reduceCtorEq, i10, Decidable.not_not, Bool.and_self, Bool.and_true, Bool.true_and, Int32.reduceAdd, Int32.reduceSub, Int32.reduceLT, Int32.reduceLE, Int32.reduceMul, n_0_1, n_0_2, n_0_3, n_0_4, n_0_5, n_0_6, n_0_7, n_0_8, n_0_9, n_1_0, n_1_2, n_1_3, n_1_4, n_1_5, n_1_6, n_1_7, n_1_8, n_1_9, n_2_0, n_2_1, n_2_3, n_2_4, n_2_5, n_2_6, n_2_7, n_2_8, n_2_9, n_3_0, n_3_1, n_3_2, n_3_4, n_3_5, n_3_6, n_3_7, n_3_8, n_3_9, n_4_0, n_4_1, n_4_2, n_4_3, n_4_5, n_4_6, n_4_7, n_4_8, n_4_9, n_5_0, n_5_1, n_5_2, n_5_3, n_5_4, n_5_6, n_5_7, n_5_8, n_5_9, n_6_0, n_6_1, n_6_2, n_6_3, n_6_4, n_6_5, n_6_7, n_6_8, n_6_9, n_7_0, n_7_1, n_7_2, n_7_3, n_7_4, n_7_5, n_7_6, n_7_8, n_7_9, n_8_0, n_8_1, n_8_2, n_8_3, n_8_4, n_8_5, n_8_6, n_8_7, n_8_9, n_9_0, n_9_1, n_9_2, n_9_3, n_9_4, n_9_5, n_9_6, n_9_7, n_9_8, is_0 h, rf_0_5 h, ia_62 h hk, nI_clamp (show k < 2 ^ 31 by omega), sh_r h hk, so_is h hw, so_s h hw, so_si h hw, kb, rb_v])
              · rw [vu_n (by omega), vu_n (by omega), vu_n (by omega)]
              · obtain ⟨k1, k2, k3, k4, -, -⟩ := hc.sl hi
                rw [vu_n (show 112 ≠ 115 by decide), vu_n (show 113 ≠ 115 by decide), vu_n (show 114 ≠ 115 by decide), vu_s, la_112, la_113, la_114]
                by_cases e : i = w
                · subst e
                  rw [up_s, up_s, up_s, vu_n (show 73 + 4 * i ≠ 76 + 4 * i by omega), vu_n (show 73 + 4 * i ≠ 75 + 4 * i by omega), vu_s, up_s, vu_n (show 75 + 4 * i ≠ 76 + 4 * i by omega), vu_s, up_s]
                  refine ⟨rfl, fun q => absurd q (by decide), fun _ => ⟨a2, fun j hj => ?_⟩, fun q => absurd q (by decide)⟩
                  rw [vu_s]
                  unfold va_cpy blS
                  rw [if_pos (by omega), if_pos (by omega), a3 _ (by omega)]
                  congr 1
                  omega
                · rw [up_n e, up_n e, up_n e, vu_n (show 73 + 4 * i ≠ 76 + 4 * w by omega), vu_n (show 73 + 4 * i ≠ 75 + 4 * w by omega), vu_n (show 73 + 4 * i ≠ 73 + 4 * w by omega), vu_n (show 74 + 4 * i ≠ 76 + 4 * w by omega), vu_n (show 74 + 4 * i ≠ 75 + 4 * w by omega), vu_n (show 74 + 4 * i ≠ 73 + 4 * w by omega), vu_n (show 75 + 4 * i ≠ 76 + 4 * w by omega), vu_n (show 75 + 4 * i ≠ 75 + 4 * w by omega), vu_n (show 75 + 4 * i ≠ 73 + 4 * w by omega), vu_n (show 76 + 4 * i ≠ 76 + 4 * w by omega), vu_n (show 76 + 4 * i ≠ 75 + 4 * w by omega), vu_n (show 76 + 4 * i ≠ 73 + 4 * w by omega)]
                  refine ⟨k1, k2, fun q => ⟨(k3 q).1, fun j hj => ?_⟩, k4⟩
                  unfold blS
                  rw [if_neg (by omega)]
                  exact (k3 q).2 j hj
              · obtain ⟨-, -, -, -, k5, k6⟩ := hc.sl hi
                rw [vu_n (show 112 ≠ 115 by decide), vu_n (show 113 ≠ 115 by decide), la_112, la_113]
                by_cases e : i = w
                · subst e
                  rw [up_s, up_s]
                  exact ⟨Or.inr (Or.inr (Or.inl rfl)), fun _ => ⟨sz, hsz, en⟩⟩
                · rw [up_n e, up_n e]
                  exact ⟨k5, k6⟩
              · rw [vu_n (by omega), vu_n (by omega), vu_n (by omega)]
          · rw [if_neg hz]
            exact COp.same h hc (by simp only [e_W_lay_0, e_W_lay_1, e_W_lay_4, e_W_lay_7, e_W_lay_8, e_W_lay_9, e_W_lay_10, e_W_lay_13, e_W_lay_16, e_W_lay_18, e_W_lay_19, e_W_lay_20, e_W_lay_21, e_W_lay_24, e_W_lay_25, e_W_lay_28, e_W_lay_29, e_W_lay_32, e_W_lay_35, e_W_lay_36, e_W_lay_37, e_W_lay_40, e_W_lay_41, e_W_lay_44, e_W_lay_47, e_W_lay_49, k_W_isSlot, k_W_isSheet, h1', hz, k_W_within, h2a, rb_i, t1, and_self, and_true, true_and, and_false, false_and, or_true, true_or, or_false, false_or, not_true_eq_false, not_false_eq_true, if_true, if_false, ne_eq, ite_self, reduceCtorEq, i10, Decidable.not_not, Bool.and_self, Bool.and_true, Bool.true_and, Int32.reduceAdd, Int32.reduceSub, Int32.reduceLT, Int32.reduceLE, Int32.reduceMul, n_0_1, n_0_2, n_0_3, n_0_4, n_0_5, n_0_6, n_0_7, n_0_8, n_0_9, n_1_0, n_1_2, n_1_3, n_1_4, n_1_5, n_1_6, n_1_7, n_1_8, n_1_9, n_2_0, n_2_1, n_2_3, n_2_4, n_2_5, n_2_6, n_2_7, n_2_8, n_2_9, n_3_0, n_3_1, n_3_2, n_3_4, n_3_5, n_3_6, n_3_7, n_3_8, n_3_9, n_4_0, n_4_1, n_4_2, n_4_3, n_4_5, n_4_6, n_4_7, n_4_8, n_4_9, n_5_0, n_5_1, n_5_2, n_5_3, n_5_4, n_5_6, n_5_7, n_5_8, n_5_9, n_6_0, n_6_1, n_6_2, n_6_3, n_6_4, n_6_5, n_6_7, n_6_8, n_6_9, n_7_0, n_7_1, n_7_2, n_7_3, n_7_4, n_7_5, n_7_6, n_7_8, n_7_9, n_8_0, n_8_1, n_8_2, n_8_3, n_8_4, n_8_5, n_8_6, n_8_7, n_8_9, n_9_0, n_9_1, n_9_2, n_9_3, n_9_4, n_9_5, n_9_6, n_9_7, n_9_8])
        · rw [if_neg hy2, st (ok := by simp only [e_W_lay_0, e_W_lay_1, e_W_lay_4, e_W_lay_7, e_W_lay_8, e_W_lay_9, e_W_lay_10, e_W_lay_13, e_W_lay_16, e_W_lay_18, e_W_lay_19, e_W_lay_20, e_W_lay_21, e_W_lay_24, e_W_lay_25, e_W_lay_28, e_W_lay_29, e_W_lay_32, e_W_lay_35, e_W_lay_36, e_W_lay_37, e_W_lay_40, e_W_lay_41, e_W_lay_44, e_W_lay_47, e_W_lay_49, e_W_lay_50, e_W_lay_51, e_W_lay_52, e_W_lay_55, e_W_lay_56, e_W_lay_59, e_W_lay_60, e_W_lay_61, e_W_lay_64, e_W_lay_67, k_W_isSlot, h1', k_W_within, h2a, rb_i, t1, and_self, and_true, true_and, and_false, false_and, or_true, true_or, or_false, false_or, not_true_eq_false, not_false_eq_true, if_true, if_false, ne_eq, ite_self, reduceCtorEq, i10, Decidable.not_not, Bool.and_self, Bool.and_true, Bool.true_and, hy1, hy2])]
          have hy03 : y = 0 ∨ y = 3 := by
            rcases i_05 ⟨h2a.1, by have := h2a.2; rw [i_le] at *; have z3 : Int32.toInt 3 = 3 := rfl; have z5 : Int32.toInt 5 = 5 := rfl; omega⟩ with e | e | e | e | e | e
            · exact Or.inl e
            · exact absurd e hy1
            · exact absurd e hy2
            · exact Or.inr e
            · rw [e] at h2a; exact absurd h2a.2 (by decide)
            · rw [e] at h2a; exact absurd h2a.2 (by decide)
          refine COp.mk (I2 := va_up I (73 + 4 * w) (upd (upd (I (73 + 4 * w)) 3 y) 2 z)) (R2 := R) (hc.sls (fun b hb => ?_) (fun b b1 b2 b3 _ => la_o b1 b2 b3) ⟨fun i hi => ?_, fun i hi => ?_⟩) h (fun b hb => ?_) (by
            simp only [e_W_lay_91, e_W_lay_92, e_W_lay_93, e_W_lay_96, e_W_lay_98, e_W_lay_101, e_W_lay_102, e_W_lay_105, e_W_lay_108, e_W_lay_109, e_W_lay_110, e_W_lay_113, e_W_lay_116, e_W_lay_117, e_W_lay_118, e_W_lay_121, e_W_lay_123, e_W_lay_126, e_W_lay_127, e_W_lay_130, e_W_lay_131, e_W_lay_132, e_W_lay_135, e_W_lay_138, e_W_lay_140, e_W_lay_141, e_W_lay_144, e_W_lay_146, and_self, and_true, true_and, and_false, false_and, or_true, true_or, or_false, false_or, not_true_eq_false, not_false_eq_true, if_true, if_false, ne_eq, ite_self, reduceCtorEq, i10, Decidable.not_not, Bool.and_self, Bool.and_true, Bool.true_and, hy1, hy2, so_is h hw, vu_s, vu_vu])
          · rw [vu_n (by omega)]
          · obtain ⟨k1, k2, k3, k4, -, -⟩ := hc.sl hi
            rw [la_112, la_113, la_114, la_o (by decide) (by decide) (by decide)]
            by_cases e : i = w
            · subst e
              rw [up_s, up_s, up_s, vu_s, up_n (show 3 ≠ 2 by decide), up_s, up_s]
              exact ⟨rfl, fun q => absurd q hy1, fun q => absurd q hy2, fun _ => rfl⟩
            · rw [up_n e, up_n e, up_n e, vu_n (show 73 + 4 * i ≠ 73 + 4 * w by omega), vu_n (show 74 + 4 * i ≠ 73 + 4 * w by omega), vu_n (show 75 + 4 * i ≠ 73 + 4 * w by omega), vu_n (show 76 + 4 * i ≠ 73 + 4 * w by omega)]
              exact ⟨k1, k2, k3, k4⟩
          · obtain ⟨-, -, -, -, k5, k6⟩ := hc.sl hi
            rw [la_112, la_113]
            by_cases e : i = w
            · subst e
              rw [up_s, up_s]
              exact ⟨hy03.elim Or.inl (fun q => Or.inr (Or.inr (Or.inr q))), fun q => absurd q hy2⟩
            · rw [up_n e, up_n e]
              exact ⟨k5, k6⟩
          · rw [vu_n (by omega)]
    · have h2a : ¬ (0 ≤ y ∧ y ≤ 3) := fun q => h2 (isSh_iff.mpr q)
      rw [if_neg (fun q => h2 q.2)]
      exact COp.same h hc (by simp only [e_W_lay_0, e_W_lay_1, e_W_lay_4, e_W_lay_7, e_W_lay_8, e_W_lay_9, e_W_lay_10, e_W_lay_13, e_W_lay_16, e_W_lay_18, k_W_isSlot, h1', k_W_within, h2a, rb_i, t1, and_self, and_true, true_and, and_false, false_and, or_true, true_or, or_false, false_or, not_true_eq_false, not_false_eq_true, if_true, if_false, ne_eq, ite_self, reduceCtorEq, i10, Decidable.not_not, Bool.and_self, Bool.and_true, Bool.true_and])
  · rw [if_neg (fun q => h1 q.1)]
    exact COp.same h hc (by simp only [e_W_lay_0, e_W_lay_1, e_W_lay_4, e_W_lay_7, e_W_lay_8, e_W_lay_9, e_W_lay_10, e_W_lay_13, e_W_lay_16, e_W_lay_18, k_W_isSlot, h1, rb_i, t1, and_self, and_true, true_and, and_false, false_and, or_true, true_or, or_false, false_or, not_true_eq_false, not_false_eq_true, if_true, if_false, ne_eq, ite_self, reduceCtorEq, i10, Decidable.not_not, Bool.and_self, Bool.and_true, Bool.true_and])
end CRK

/-! TEXTS: the reference's signs that wait -/
def rk (s : Int32) : Nat := if s = -1 then 1 else if s = -2 then 2 else if -5 ≤ s then 3 else if -7 ≤ s then 4 else if -9 ≤ s then 5 else 6
def stl (r : Nat) : List Int32 → List Int32 → List Int32 × List Int32
  | [], C => ([], C)
  | w :: W, C => if w ≠ -11 ∧ r ≤ rk w then stl r W (C ++ [w]) else (w :: W, C)
/-- how many of a sign -/
def cnt (s : Int32) : List Int32 → Nat
  | [] => 0
  | w :: W => (if w = s then 1 else 0) + cnt s W
theorem cnt_app (s : Int32) : ∀ (D E : List Int32), cnt s (D ++ E) = cnt s D + cnt s E
  | [], E => by show cnt s E = 0 + cnt s E; omega
  | c :: D, E => by
    show (if c = s then 1 else 0) + cnt s (D ++ E) = (if c = s then 1 else 0) + cnt s D + cnt s E
    rw [cnt_app s D E]
    omega
theorem cnt_le (s : Int32) : ∀ (D : List Int32), cnt s D ≤ D.length
  | [] => Nat.le_refl _
  | c :: D => by
    have := cnt_le s D
    show (if c = s then 1 else 0) + cnt s D ≤ D.length + 1
    split <;> omega
theorem rev_c {w : Int32} {W : List Int32} : (w :: W).reverse = W.reverse ++ [w] := List.reverse_cons
theorem rv_l {w : Int32} {W : List Int32} {k : Nat} (h : k < W.length) : (w :: W).reverse.getD k 0 = W.reverse.getD k 0 := by
  rw [rev_c, ga_l (by rw [List.length_reverse]; exact h)]
theorem rv_r {w : Int32} {W : List Int32} : (w :: W).reverse.getD W.length 0 = w := by
  rw [rev_c]
  have := ga_r (D := W.reverse) (c := w)
  rw [List.length_reverse] at this
  exact this
/-- the reference's two rows -/
def CW (I : mI) (W C : List Int32) : Prop := (I 93 19 = nI C.length ∧ ∀ k, k < C.length → I 104 k = C.getD k 0) ∧ (I 93 22 = nI W.length ∧ ∀ k, k < W.length → I 105 k = W.reverse.getD k 0)
/-- only these have changed -/
def MH (I I2 : mI) : Prop := (∀ b, b ≠ 93 → b ≠ 104 → b ≠ 105 → b ≠ 106 → I2 b = I b) ∧ ∀ k, (k < 10 ∨ 22 < k) → I2 93 k = I 93 k
/-- the words and their row stay -/
def MI' (I I2 : mI) : Prop := (∀ b, b ≠ 93 → b ≠ 104 → I2 b = I b) ∧ ∀ k, k ≠ 19 → k ≠ 22 → I2 93 k = I 93 k
section MST
variable {Ls : Nat} {xs : Nat → Int32} {d : Nat} {S : mS} {I I2 I3 : mI} {R : mR} {x y z : Int32} {H : mH} {T : Nat → Int32} {n i : Nat} {W C : List Int32}
theorem MH.rfl' : MH I I := ⟨fun _ _ _ _ _ => rfl, fun _ _ => rfl⟩
theorem MH.trans' (h : MH I I2) (h2 : MH I2 I3) : MH I I3 := ⟨fun b h3 h4 h5 h6 => (h2.1 b h3 h4 h5 h6).trans (h.1 b h3 h4 h5 h6), fun k hk => (h2.2 k hk).trans (h.2 k hk)⟩
theorem MG.mh (h : MG I I2) : MH I I2 := ⟨fun b h1 _ _ _ => h.1 b h1, fun k hk => h.2 k (by omega)⟩
theorem MI'.mh (h : MI' I I2) : MH I I2 := ⟨fun b h1 h2 _ _ => h.1 b h1 h2, fun k hk => h.2 k (by omega) (by omega)⟩
theorem MI'.rfl' : MI' I I := ⟨fun _ _ _ => rfl, fun _ _ _ => rfl⟩
theorem MI'.trans' (h : MI' I I2) (h2 : MI' I2 I3) : MI' I I3 := ⟨fun b h3 h4 => (h2.1 b h3 h4).trans (h.1 b h3 h4), fun k h3 h4 => (h2.2 k h3 h4).trans (h.2 k h3 h4)⟩
theorem k_rank : rn Ls xs d 205 0 [some (.inl x)] [] H = some (some (.inl (nI (rk x))), H) := by
  unfold rk
  by_cases h1 : x = -1
  · simp only [e_M_rank_0, e_M_rank_1, e_M_rank_2, e_M_rank_5, e_M_rank_6, e_M_rank_9, e_M_rank_10, e_M_rank_12, e_M_rank_15, e_M_rank_16, e_M_rank_19, e_M_rank_20, e_M_rank_22, e_M_rank_25, e_M_rank_26, e_M_rank_29, e_M_rank_30, e_M_rank_32, e_M_rank_35, e_M_rank_36, e_M_rank_39, e_M_rank_40, e_M_rank_42, e_M_rank_45, e_M_rank_46, e_M_rank_49, e_M_rank_51, h1, and_self, and_true, true_and, and_false, false_and, or_true, true_or, or_false, false_or, not_true_eq_false, not_false_eq_true, if_true, if_false, ne_eq, ite_self, reduceCtorEq, i10, Decidable.not_not, Bool.and_self, Bool.and_true, Bool.true_and, show nI 1 = 1 from rfl]
  · by_cases h2 : x = -2
    · simp only [e_M_rank_0, e_M_rank_1, e_M_rank_2, e_M_rank_5, e_M_rank_6, e_M_rank_9, e_M_rank_10, e_M_rank_12, e_M_rank_15, e_M_rank_16, e_M_rank_19, e_M_rank_20, e_M_rank_22, e_M_rank_25, e_M_rank_26, e_M_rank_29, e_M_rank_30, e_M_rank_32, e_M_rank_35, e_M_rank_36, e_M_rank_39, e_M_rank_40, e_M_rank_42, e_M_rank_45, e_M_rank_46, e_M_rank_49, e_M_rank_51, h1, h2, and_self, and_true, true_and, and_false, false_and, or_true, true_or, or_false, false_or, not_true_eq_false, not_false_eq_true, if_true, if_false, ne_eq, ite_self, reduceCtorEq, i10, Decidable.not_not, Bool.and_self, Bool.and_true, Bool.true_and, show ¬ (-2 : Int32) = -1 by decide, show nI 2 = 2 from rfl]
    · by_cases h3 : x < -5
      · have n3 : ¬ (-5) ≤ x := i_nle.mpr h3
        by_cases h4 : x < -7
        · have n4 : ¬ (-7) ≤ x := i_nle.mpr h4
          by_cases h5 : x < -9
          · have n5 : ¬ (-9) ≤ x := i_nle.mpr h5
            simp only [e_M_rank_0, e_M_rank_1, e_M_rank_2, e_M_rank_5, e_M_rank_6, e_M_rank_9, e_M_rank_10, e_M_rank_12, e_M_rank_15, e_M_rank_16, e_M_rank_19, e_M_rank_20, e_M_rank_22, e_M_rank_25, e_M_rank_26, e_M_rank_29, e_M_rank_30, e_M_rank_32, e_M_rank_35, e_M_rank_36, e_M_rank_39, e_M_rank_40, e_M_rank_42, e_M_rank_45, e_M_rank_46, e_M_rank_49, e_M_rank_51, h1, h2, h3, h4, h5, n3, n4, n5, and_self, and_true, true_and, and_false, false_and, or_true, true_or, or_false, false_or, not_true_eq_false, not_false_eq_true, if_true, if_false, ne_eq, ite_self, reduceCtorEq, i10, Decidable.not_not, Bool.and_self, Bool.and_true, Bool.true_and, show nI 6 = 6 from rfl]
          · simp only [e_M_rank_0, e_M_rank_1, e_M_rank_2, e_M_rank_5, e_M_rank_6, e_M_rank_9, e_M_rank_10, e_M_rank_12, e_M_rank_15, e_M_rank_16, e_M_rank_19, e_M_rank_20, e_M_rank_22, e_M_rank_25, e_M_rank_26, e_M_rank_29, e_M_rank_30, e_M_rank_32, e_M_rank_35, e_M_rank_36, e_M_rank_39, e_M_rank_40, e_M_rank_42, e_M_rank_45, e_M_rank_46, e_M_rank_49, e_M_rank_51, h1, h2, h3, h4, h5, n3, n4, i_nlt.mp h5, and_self, and_true, true_and, and_false, false_and, or_true, true_or, or_false, false_or, not_true_eq_false, not_false_eq_true, if_true, if_false, ne_eq, ite_self, reduceCtorEq, i10, Decidable.not_not, Bool.and_self, Bool.and_true, Bool.true_and, show nI 5 = 5 from rfl]
        · simp only [e_M_rank_0, e_M_rank_1, e_M_rank_2, e_M_rank_5, e_M_rank_6, e_M_rank_9, e_M_rank_10, e_M_rank_12, e_M_rank_15, e_M_rank_16, e_M_rank_19, e_M_rank_20, e_M_rank_22, e_M_rank_25, e_M_rank_26, e_M_rank_29, e_M_rank_30, e_M_rank_32, e_M_rank_35, e_M_rank_36, e_M_rank_39, e_M_rank_40, e_M_rank_42, e_M_rank_45, e_M_rank_46, e_M_rank_49, e_M_rank_51, h1, h2, h3, h4, n3, i_nlt.mp h4, and_self, and_true, true_and, and_false, false_and, or_true, true_or, or_false, false_or, not_true_eq_false, not_false_eq_true, if_true, if_false, ne_eq, ite_self, reduceCtorEq, i10, Decidable.not_not, Bool.and_self, Bool.and_true, Bool.true_and, show nI 4 = 4 from rfl]
      · simp only [e_M_rank_0, e_M_rank_1, e_M_rank_2, e_M_rank_5, e_M_rank_6, e_M_rank_9, e_M_rank_10, e_M_rank_12, e_M_rank_15, e_M_rank_16, e_M_rank_19, e_M_rank_20, e_M_rank_22, e_M_rank_25, e_M_rank_26, e_M_rank_29, e_M_rank_30, e_M_rank_32, e_M_rank_35, e_M_rank_36, e_M_rank_39, e_M_rank_40, e_M_rank_42, e_M_rank_45, e_M_rank_46, e_M_rank_49, e_M_rank_51, h1, h2, h3, i_nlt.mp h3, and_self, and_true, true_and, and_false, false_and, or_true, true_or, or_false, false_or, not_true_eq_false, not_false_eq_true, if_true, if_false, ne_eq, ite_self, reduceCtorEq, i10, Decidable.not_not, Bool.and_self, Bool.and_true, Bool.true_and, show nI 3 = 3 from rfl]
theorem rk_le (s : Int32) : rk s ≤ 6 := by
  unfold rk
  repeat' split
  all_goals omega
theorem k_settle (h : WF S R) {r : Nat} (hr : r ≤ 6) : ∀ (W C : List Int32) (I : mI), CW I W C → C.length + W.length ≤ 95 → ∃ I2, CW I2 (stl r W C).1 (stl r W C).2 ∧ MI' I I2 ∧ rn Ls xs (d + 1) 203 0 [some (.inr (.inl (some 93))), some (.inl (nI r))] [] (S, I, R) = some (none, (S, I2, R)) := by
  intro W
  induction W with
  | nil =>
    intro C I hc hl
    refine ⟨I, hc, MI'.rfl', ?_⟩
    have e22 : I 93 22 = 0 := hc.2.1
    rw [e_M_settle_0]
    simp only [e_M_settle_1, e_M_settle_4, e_M_settle_7, e_M_settle_8, e_M_settle_11, e_M_settle_12, e_M_settle_15, e_M_settle_16, e_M_settle_17, e_M_settle_18, e_M_settle_20, e_M_settle_23, e_M_settle_24, e_M_settle_27, e_M_settle_28, e_M_settle_31, e_M_settle_32, e_M_settle_33, e_M_settle_34, e_M_settle_37, e_M_settle_38, e_M_settle_41, e_M_settle_42, e_M_settle_43, e_M_settle_46, e_M_settle_47, e_M_settle_48, e_M_settle_51, e_M_settle_52, e_M_settle_55, e_M_settle_56, e_M_settle_59, e_M_settle_60, e_M_settle_63, e_M_settle_64, e_M_settle_67, e_M_settle_68, e_M_settle_69, e_M_settle_70, e_M_settle_71, e_M_settle_74, e_M_settle_75, e_M_settle_76, e_M_settle_79, e_M_settle_82, is_93 h, and_self, and_true, true_and, and_false, false_and, or_true, true_or, or_false, false_or, not_true_eq_false, not_false_eq_true, if_true, if_false, ne_eq, ite_self, reduceCtorEq, i10, Decidable.not_not, Bool.and_self, Bool.and_true, Bool.true_and, e22, show (0 : Int32) ≤ 0 by decide]
  | cons w W ih =>
    intro C I hc hl
    obtain ⟨⟨c1, c2⟩, c3, c4⟩ := id hc
    have hl' : C.length + (W.length + 1) ≤ 95 := hl
    have c3' : I 93 22 = nI (W.length + 1) := c3
    have top : I 105 W.length = w := by rw [c4 _ (by show W.length < W.length + 1; omega), rv_r]
    have n0 : ¬ nI (W.length + 1) ≤ 0 := nI_nle (by omega) (by omega)
    have rl := rk_le w
    rw [e_M_settle_0]
    by_cases hw : w = -11
    · have es : stl r (w :: W) C = (w :: W, C) := by unfold stl; rw [if_neg (fun q => q.1 hw)]
      rw [es]
      refine ⟨I, hc, MI'.rfl', ?_⟩
      simp only [e_M_settle_1, e_M_settle_4, e_M_settle_7, e_M_settle_8, e_M_settle_11, e_M_settle_12, e_M_settle_15, e_M_settle_16, e_M_settle_17, e_M_settle_18, e_M_settle_20, e_M_settle_23, e_M_settle_24, e_M_settle_27, e_M_settle_28, e_M_settle_31, e_M_settle_32, e_M_settle_33, e_M_settle_34, e_M_settle_37, e_M_settle_38, e_M_settle_41, e_M_settle_42, e_M_settle_43, e_M_settle_46, e_M_settle_47, e_M_settle_48, e_M_settle_51, e_M_settle_52, e_M_settle_55, e_M_settle_56, e_M_settle_59, e_M_settle_60, e_M_settle_63, e_M_settle_64, e_M_settle_67, e_M_settle_68, e_M_settle_69, e_M_settle_70, e_M_settle_71, e_M_settle_74, e_M_settle_75, e_M_settle_76, e_M_settle_79, e_M_settle_82, is_93 h, rf_93_21 h, and_self, and_true, true_and, and_false, false_and, or_true, true_or, or_false, false_or, not_true_eq_false, not_false_eq_true, if_true, if_false, ne_eq, ite_self, reduceCtorEq, i10, Decidable.not_not, Bool.and_self, Bool.and_true, Bool.true_and, c3', n0, nI_pred, ia_105 h (show W.length < 96 by omega), nI_clamp (show W.length < 2 ^ 31 by omega), top, hw]
    · by_cases hk : r ≤ rk w
      · have es : stl r (w :: W) C = stl r W (C ++ [w]) := by
          show (if w ≠ -11 ∧ r ≤ rk w then stl r W (C ++ [w]) else (w :: W, C)) = _
          rw [if_pos ⟨hw, hk⟩]
        rw [es]
        have nlt : ¬ nI (rk w) < nI r := by rw [nI_lt' (by omega) (by omega)]; omega
        obtain ⟨J, hJ⟩ : ∃ J : mI, J = va_up (va_up I 104 (upd (I 104) C.length w)) 93 (upd (upd (I 93) 22 (nI W.length)) 19 (nI (C.length + 1))) := ⟨_, rfl⟩
        have cJ : CW J W (C ++ [w]) := by
          refine ⟨⟨by rw [hJ, vu_s, up_s, List.length_append]; rfl, fun k hk => ?_⟩, by rw [hJ, vu_s, up_n (by decide), up_s], fun k hk => ?_⟩
          · rw [List.length_append] at hk
            have hk : k < C.length + 1 := hk
            rw [hJ, vu_n (by decide), vu_s]
            by_cases ek : k = C.length
            · subst ek; rw [up_s, ga_r]
            · rw [up_n ek, ga_l (by omega)]
              exact c2 k (by omega)
          · rw [hJ, vu_n (by decide), vu_n (by decide), c4 k (by show k < W.length + 1; omega), rv_l hk]
        have fJ : MI' I J := ⟨fun b b1 b2 => by rw [hJ, vu_n b1, vu_n b2], fun k k1 k2 => by rw [hJ, vu_s, up_n k1, up_n k2]⟩
        obtain ⟨I2, g1, g2, r2⟩ := ih (C ++ [w]) J cJ (by rw [List.length_append]; show C.length + 1 + W.length ≤ 95; omega)
        refine ⟨I2, g1, fJ.trans' g2, ?_⟩
        rw [← r2, hJ]
        simp only [e_M_settle_1, e_M_settle_4, e_M_settle_7, e_M_settle_8, e_M_settle_11, e_M_settle_12, e_M_settle_15, e_M_settle_16, e_M_settle_17, e_M_settle_18, e_M_settle_20, e_M_settle_23, e_M_settle_24, e_M_settle_27, e_M_settle_28, e_M_settle_31, e_M_settle_32, e_M_settle_33, e_M_settle_34, e_M_settle_37, e_M_settle_38, e_M_settle_41, e_M_settle_42, e_M_settle_43, e_M_settle_46, e_M_settle_47, e_M_settle_48, e_M_settle_51, e_M_settle_52, e_M_settle_55, e_M_settle_56, e_M_settle_59, e_M_settle_60, e_M_settle_63, e_M_settle_64, e_M_settle_67, e_M_settle_68, e_M_settle_69, e_M_settle_70, e_M_settle_71, e_M_settle_74, e_M_settle_75, e_M_settle_76, e_M_settle_79, e_M_settle_82, is_93 h, rf_93_21 h, rf_93_18 h, and_self, and_true, true_and, and_false, false_and, or_true, true_or, or_false, false_or, not_true_eq_false, not_false_eq_true, if_true, if_false, ne_eq, ite_self, reduceCtorEq, i10, Decidable.not_not, Bool.and_self, Bool.and_true, Bool.true_and, c3', n0, nI_pred, ia_105 h (show W.length < 96 by omega), nI_clamp (show W.length < 2 ^ 31 by omega), top, hw, k_rank, rb_i, nlt, vu_s, up_s, vu_n (show 105 ≠ 93 by decide), vu_n (show 104 ≠ 93 by decide), up_n (show 19 ≠ 22 by decide), c1, ia_104 h (show C.length < 96 by omega), nI_clamp (show C.length < 2 ^ 31 by omega), vu_n (show 93 ≠ 104 by decide), nI_1]
        congr 3
        funext b
        by_cases b1 : b = 93
        · subst b1; rw [vu_s, vu_s]
        · rw [vu_n b1, vu_n b1]
          by_cases b2 : b = 104
          · subst b2; rw [vu_s, vu_s]
          · rw [vu_n b2, vu_n b2, vu_n b1]
      · have es : stl r (w :: W) C = (w :: W, C) := by unfold stl; rw [if_neg (fun q => hk q.2)]
        have lt : nI (rk w) < nI r := by rw [nI_lt' (by omega) (by omega)]; omega
        rw [es]
        refine ⟨I, hc, MI'.rfl', ?_⟩
        simp only [e_M_settle_1, e_M_settle_4, e_M_settle_7, e_M_settle_8, e_M_settle_11, e_M_settle_12, e_M_settle_15, e_M_settle_16, e_M_settle_17, e_M_settle_18, e_M_settle_20, e_M_settle_23, e_M_settle_24, e_M_settle_27, e_M_settle_28, e_M_settle_31, e_M_settle_32, e_M_settle_33, e_M_settle_34, e_M_settle_37, e_M_settle_38, e_M_settle_41, e_M_settle_42, e_M_settle_43, e_M_settle_46, e_M_settle_47, e_M_settle_48, e_M_settle_51, e_M_settle_52, e_M_settle_55, e_M_settle_56, e_M_settle_59, e_M_settle_60, e_M_settle_63, e_M_settle_64, e_M_settle_67, e_M_settle_68, e_M_settle_69, e_M_settle_70, e_M_settle_71, e_M_settle_74, e_M_settle_75, e_M_settle_76, e_M_settle_79, e_M_settle_82, is_93 h, rf_93_21 h, and_self, and_true, true_and, and_false, false_and, or_true, true_or, or_false, false_or, not_true_eq_false, not_false_eq_true, if_true, if_false, ne_eq, ite_self, reduceCtorEq, i10, Decidable.not_not, Bool.and_self, Bool.and_true, Bool.true_and, c3', n0, nI_pred, ia_105 h (show W.length < 96 by omega), nI_clamp (show W.length < 2 ^ 31 by omega), top, hw, k_rank, rb_i, lt]
theorem l_nots (h : WF S R) (hW : W.length ≤ 95) (c3 : I 93 22 = nI W.length) (c4 : ∀ k, k < W.length → I 105 k = W.reverse.getD k 0) : ∀ (j k s : Nat), k + j = W.length → rn Ls xs d 202 4 [some (.inr (.inl (some 93))), some (.inl (nI s)), some (.inl (nI k))] [] (S, I, R) = some (some (.inl (nI (s + cnt (-10) (W.reverse.drop k)))), (S, I, R)) := by
  intro j
  induction j with
  | zero =>
    intro k s hk
    have e : W.reverse.drop k = [] := List.drop_eq_nil_of_le (by rw [List.length_reverse]; omega)
    rw [e, e_M_notsOpen_4]
    simp only [e_M_notsOpen_0, e_M_notsOpen_1, e_M_notsOpen_2, e_M_notsOpen_3, e_M_notsOpen_5, e_M_notsOpen_6, e_M_notsOpen_9, e_M_notsOpen_12, e_M_notsOpen_13, e_M_notsOpen_14, e_M_notsOpen_17, e_M_notsOpen_18, e_M_notsOpen_19, e_M_notsOpen_21, e_M_notsOpen_24, e_M_notsOpen_25, e_M_notsOpen_28, e_M_notsOpen_29, e_M_notsOpen_30, e_M_notsOpen_31, e_M_notsOpen_34, e_M_notsOpen_37, e_M_notsOpen_38, is_93 h, and_self, and_true, true_and, and_false, false_and, or_true, true_or, or_false, false_or, not_true_eq_false, not_false_eq_true, if_true, if_false, ne_eq, ite_self, reduceCtorEq, i10, Decidable.not_not, Bool.and_self, Bool.and_true, Bool.true_and, c3, nI_le' (show W.length < 2 ^ 31 by omega) (show k < 2 ^ 31 by omega), show W.length ≤ k by omega, cnt, Nat.add_zero]
  | succ j ih =>
    intro k s hk
    have hk2 : k < W.reverse.length := by rw [List.length_reverse]; omega
    have e : W.reverse.drop k = W.reverse.getD k 0 :: W.reverse.drop (k + 1) := by
      rw [List.drop_eq_getElem_cons hk2, List.getD_eq_getElem?_getD, List.getElem?_eq_getElem hk2]
      rfl
    rw [e, e_M_notsOpen_4]
    rw [show cnt (-10) (W.reverse.getD k 0 :: W.reverse.drop (k + 1)) = (if W.reverse.getD k 0 = -10 then 1 else 0) + cnt (-10) (W.reverse.drop (k + 1)) from rfl]
    by_cases hq : W.reverse.getD k 0 = -10
    · rw [if_pos hq]
      rw [show s + (1 + cnt (-10) (W.reverse.drop (k + 1))) = s + 1 + cnt (-10) (W.reverse.drop (k + 1)) by omega, ← ih (k + 1) (s + 1) (by omega)]
      simp only [e_M_notsOpen_0, e_M_notsOpen_1, e_M_notsOpen_2, e_M_notsOpen_3, e_M_notsOpen_5, e_M_notsOpen_6, e_M_notsOpen_9, e_M_notsOpen_12, e_M_notsOpen_13, e_M_notsOpen_14, e_M_notsOpen_17, e_M_notsOpen_18, e_M_notsOpen_19, e_M_notsOpen_21, e_M_notsOpen_24, e_M_notsOpen_25, e_M_notsOpen_28, e_M_notsOpen_29, e_M_notsOpen_30, e_M_notsOpen_31, e_M_notsOpen_34, e_M_notsOpen_37, e_M_notsOpen_38, is_93 h, rf_93_21 h, and_self, and_true, true_and, and_false, false_and, or_true, true_or, or_false, false_or, not_true_eq_false, not_false_eq_true, if_true, if_false, ne_eq, ite_self, reduceCtorEq, i10, Decidable.not_not, Bool.and_self, Bool.and_true, Bool.true_and, c3, nI_le' (show W.length < 2 ^ 31 by omega) (show k < 2 ^ 31 by omega), show ¬ W.length ≤ k by omega, ia_105 h (show k < 96 by omega), nI_clamp (show k < 2 ^ 31 by omega), c4 k (by omega), hq, nI_1]
    · rw [if_neg hq, Nat.zero_add, ← ih (k + 1) s (by omega)]
      simp only [e_M_notsOpen_0, e_M_notsOpen_1, e_M_notsOpen_2, e_M_notsOpen_3, e_M_notsOpen_5, e_M_notsOpen_6, e_M_notsOpen_9, e_M_notsOpen_12, e_M_notsOpen_13, e_M_notsOpen_14, e_M_notsOpen_17, e_M_notsOpen_18, e_M_notsOpen_19, e_M_notsOpen_21, e_M_notsOpen_24, e_M_notsOpen_25, e_M_notsOpen_28, e_M_notsOpen_29, e_M_notsOpen_30, e_M_notsOpen_31, e_M_notsOpen_34, e_M_notsOpen_37, e_M_notsOpen_38, is_93 h, rf_93_21 h, and_self, and_true, true_and, and_false, false_and, or_true, true_or, or_false, false_or, not_true_eq_false, not_false_eq_true, if_true, if_false, ne_eq, ite_self, reduceCtorEq, i10, Decidable.not_not, Bool.and_self, Bool.and_true, Bool.true_and, c3, nI_le' (show W.length < 2 ^ 31 by omega) (show k < 2 ^ 31 by omega), show ¬ W.length ≤ k by omega, ia_105 h (show k < 96 by omega), nI_clamp (show k < 2 ^ 31 by omega), c4 k (by omega), hq, Int32.add_zero, nI_1]
theorem cnt_rev (s : Int32) : ∀ (W : List Int32), cnt s W.reverse = cnt s W
  | [] => rfl
  | w :: W => by
    rw [rev_c, cnt_app, cnt_rev s W]
    show cnt s W + ((if w = s then 1 else 0) + 0) = (if w = s then 1 else 0) + cnt s W
    omega
theorem k_nots (h : WF S R) (hW : W.length ≤ 95) (c3 : I 93 22 = nI W.length) (c4 : ∀ k, k < W.length → I 105 k = W.reverse.getD k 0) : rn Ls xs d 202 0 [some (.inr (.inl (some 93))), none, none] [] (S, I, R) = some (some (.inl (nI (cnt (-10) W))), (S, I, R)) := by
  have l : rn Ls xs d 202 4 [some (.inr (.inl (some 93))), some (.inl 0), some (.inl 0)] [] (S, I, R) = _ := l_nots (Ls := Ls) (xs := xs) (d := d) h hW c3 c4 W.length 0 0 (by omega)
  rw [Nat.zero_add, List.drop_zero, cnt_rev] at l
  simp only [e_M_notsOpen_0, e_M_notsOpen_1, e_M_notsOpen_2, e_M_notsOpen_3, l]
end MST

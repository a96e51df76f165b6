/-! THE REFERENCE: an hour -/
abbrev clS (x lo hi : Int32) : Int32 := if x < lo then lo else if hi < x then hi else x
abbrev rdS (x : Int32) : Int32 := if rem x 30 < 0 then rem x 30 + 30 else rem x 30
def sinksS (a : Nat → Int32) (w : Nat) : Nat → Int32 := if a (8 + 6 * w + 5) = 1 then (if a (8 + 6 * w + 1) = 0 then upd (upd a (8 + 6 * w + 5) 0) 5 (a 5 + 1) else upd a (8 + 6 * w + 1) (a (8 + 6 * w + 1) - 1)) else a
def meetP (a : Nat → Int32) (w o : Nat) : Prop := a (8 + 6 * w + 5) = 1 ∧ a (8 + 6 * o + 5) = 1 ∧ a (8 + 6 * w + 1) = a (8 + 6 * o + 1) ∧ a (8 + 6 * w + 2) = a (8 + 6 * o + 2)
/-- the heaps are the same but for the two scratch rows -/
def Sm (I I2 : mI) : Prop := ∀ b, b ≠ 107 → b ≠ 108 → I2 b = I b
theorem Sm.rfl' {I : mI} : Sm I I := fun _ _ _ => rfl
theorem Sm.trans' {I I2 I3 : mI} (h : Sm I I2) (h2 : Sm I2 I3) : Sm I I3 := fun b b1 b2 => (h2 b b1 b2).trans (h b b1 b2)
section MT3
variable {Ls : Nat} {xs : Nat → Int32} {d : Nat} {S : mS} {I : mI} {R : mR} {x y z : Int32} {H : mH}
theorem it_v {c : Prop} [Decidable c] {I J : mI} : (if c then some (none, (S, I, R)) else some (none, (S, J, R)) : Option mRes) = some (none, (S, (if c then I else J), R)) := by split <;> rfl
theorem k_M_sinks (h : WF S R) {w : Nat} (hw : w < 14) : rn Ls xs (d + 2) 181 0 [some (.inr (.inl (some 93))), some (.inl (nI w))] [] (S, I, R) = some (none, (S, va_up I 94 (sinksS (I 94) w), R)) := by
  by_cases h1 : I 94 (8 + 6 * w + 5) = 1
  · by_cases h2 : I 94 (8 + 6 * w + 1) = 0
    · simp only [e_M_sinks_0, e_M_sinks_1, e_M_sinks_2, e_M_sinks_5, e_M_sinks_8, e_M_sinks_9, e_M_sinks_10, e_M_sinks_11, e_M_sinks_12, e_M_sinks_15, e_M_sinks_18, e_M_sinks_19, e_M_sinks_20, e_M_sinks_21, e_M_sinks_22, e_M_sinks_25, e_M_sinks_26, e_M_sinks_29, e_M_sinks_30, e_M_sinks_31, e_M_sinks_32, e_M_sinks_33, e_M_sinks_34, e_M_sinks_35, e_M_sinks_38, e_M_sinks_39, e_M_sinks_40, e_M_sinks_41, e_M_sinks_42, e_M_sinks_43, e_M_sinks_44, e_M_sinks_47, e_M_sinks_48, e_M_sinks_49, e_M_sinks_52, is_93 h, rf_93_0 h, if_true, k_M_isUp h hw, rb_i, rb_v, h1, h2, k_M_of_1 h hw, k_M_put_5 h hw, ne_eq, not_true, if_false, show ¬ (1 : Int32) = 0 by decide, not_false_eq_true, ia94_5 h, cl_5, vu_s, vu_vu, up_n (show 5 ≠ 8 + 6 * w + 5 by omega), sinksS]
    · simp only [e_M_sinks_0, e_M_sinks_1, e_M_sinks_2, e_M_sinks_5, e_M_sinks_8, e_M_sinks_9, e_M_sinks_10, e_M_sinks_11, e_M_sinks_12, e_M_sinks_15, e_M_sinks_18, e_M_sinks_19, e_M_sinks_20, e_M_sinks_21, e_M_sinks_22, e_M_sinks_25, e_M_sinks_26, e_M_sinks_29, e_M_sinks_30, e_M_sinks_31, e_M_sinks_32, e_M_sinks_33, e_M_sinks_34, e_M_sinks_35, e_M_sinks_38, e_M_sinks_39, e_M_sinks_40, e_M_sinks_41, e_M_sinks_42, e_M_sinks_43, e_M_sinks_44, e_M_sinks_47, e_M_sinks_48, e_M_sinks_49, e_M_sinks_52, is_93 h, rf_93_0 h, if_true, k_M_isUp h hw, rb_i, rb_v, h1, h2, k_M_of_1 h hw, k_M_put_1 h hw, ne_eq, if_false, show ¬ (1 : Int32) = 0 by decide, not_false_eq_true, vu_s, vu_vu, sinksS]
  · simp only [e_M_sinks_0, e_M_sinks_1, e_M_sinks_2, e_M_sinks_5, e_M_sinks_8, e_M_sinks_9, e_M_sinks_10, e_M_sinks_11, e_M_sinks_12, e_M_sinks_15, e_M_sinks_18, e_M_sinks_19, e_M_sinks_20, e_M_sinks_21, e_M_sinks_22, e_M_sinks_25, e_M_sinks_26, e_M_sinks_29, e_M_sinks_30, e_M_sinks_31, e_M_sinks_32, e_M_sinks_33, e_M_sinks_34, e_M_sinks_35, e_M_sinks_38, e_M_sinks_39, e_M_sinks_40, e_M_sinks_41, e_M_sinks_42, e_M_sinks_43, e_M_sinks_44, e_M_sinks_47, e_M_sinks_48, e_M_sinks_49, e_M_sinks_52, is_93 h, rf_93_0 h, if_true, k_M_isUp h hw, rb_i, rb_v, h1, ne_eq, not_true, if_false, sinksS, vu_id]
theorem k_M_doMeet (h : WF S R) {w o : Nat} (hw : w < 14) (ho : o < 14) : (meetP (I 94) w o → rn Ls xs (d + 2) 179 0 [some (.inr (.inl (some 93))), some (.inl (nI w)), some (.inl (nI o))] [] (S, I, R) = some (some (.inl 1), (S, I, R))) ∧ (¬ meetP (I 94) w o → rn Ls xs (d + 2) 179 0 [some (.inr (.inl (some 93))), some (.inl (nI w)), some (.inl (nI o))] [] (S, I, R) = some (some (.inl 0), (S, I, R))) := by
  simp only [e_M_doMeet_0, e_M_doMeet_1, e_M_doMeet_2, e_M_doMeet_5, e_M_doMeet_8, e_M_doMeet_9, e_M_doMeet_10, e_M_doMeet_13, e_M_doMeet_16, e_M_doMeet_17, e_M_doMeet_18, e_M_doMeet_19, e_M_doMeet_22, e_M_doMeet_23, e_M_doMeet_24, e_M_doMeet_25, e_M_doMeet_28, e_M_doMeet_31, e_M_doMeet_32, e_M_doMeet_33, e_M_doMeet_34, e_M_doMeet_37, e_M_doMeet_38, e_M_doMeet_39, e_M_doMeet_40, e_M_doMeet_43, e_M_doMeet_46, e_M_doMeet_47, e_M_doMeet_50, e_M_doMeet_51, is_93 h, rf_93_0 h, if_true, k_M_isUp h hw, k_M_isUp h ho, rb_i, k_M_of_1 h hw, k_M_of_1 h ho, k_M_of_2 h hw, k_M_of_2 h ho, bo_0, bo_1, meetP]
  by_cases h1 : I 94 (8 + 6 * w + 5) = 1 <;> by_cases h2 : I 94 (8 + 6 * o + 5) = 1 <;> by_cases h3 : I 94 (8 + 6 * w + 1) = I 94 (8 + 6 * o + 1) <;> by_cases h4 : I 94 (8 + 6 * w + 2) = I 94 (8 + 6 * o + 2) <;> simp [h1, h2, h3, h4]
def breaksS (a : Nat → Int32) (n w : Nat) : Nat → Int32 := if a (8 + 6 * w + 4) = 1 then upd (upd a 4 (a 4 + 1)) (8 + 6 * w + 5) 0 else if n < 14 then comesS (upd (upd a 4 (a 4 + 1)) (8 + 6 * w + 4) (a (8 + 6 * w + 4) / 2)) n 2 (a (8 + 6 * w + 1)) (a (8 + 6 * w + 2)) (clS (a (8 + 6 * w + 3) + 1) (-9) 9) (a (8 + 6 * w + 4) - a (8 + 6 * w + 4) / 2) else upd (upd a 4 (a 4 + 1)) (8 + 6 * w + 4) (a (8 + 6 * w + 4) / 2)
theorem k_M_breaks (h : WF S R) {w n : Nat} (hw : w < 14) (hn : n ≤ 14) (e : I 94 1 = nI n) : rn Ls xs (d + 2) 180 0 [some (.inr (.inl (some 93))), some (.inl (nI w)), none, none] [] (S, I, R) = some (none, (S, va_up I 94 (breaksS (I 94) n w), R)) := by
  by_cases h1 : I 94 (8 + 6 * w + 4) = 1
  · simp only [e_M_breaks_0, e_M_breaks_1, e_M_breaks_4, e_M_breaks_5, e_M_breaks_6, e_M_breaks_7, e_M_breaks_8, e_M_breaks_9, e_M_breaks_10, e_M_breaks_11, e_M_breaks_12, e_M_breaks_13, e_M_breaks_16, e_M_breaks_17, e_M_breaks_18, e_M_breaks_19, e_M_breaks_22, e_M_breaks_23, e_M_breaks_24, e_M_breaks_25, e_M_breaks_26, e_M_breaks_29, e_M_breaks_30, e_M_breaks_31, e_M_breaks_32, e_M_breaks_33, e_M_breaks_34, e_M_breaks_35, e_M_breaks_36, e_M_breaks_39, e_M_breaks_40, e_M_breaks_43, e_M_breaks_44, e_M_breaks_45, e_M_breaks_47, e_M_breaks_50, e_M_breaks_51, e_M_breaks_52, e_M_breaks_53, e_M_breaks_54, e_M_breaks_55, e_M_breaks_58, e_M_breaks_59, e_M_breaks_60, e_M_breaks_61, e_M_breaks_64, e_M_breaks_65, e_M_breaks_66, e_M_breaks_67, e_M_breaks_70, e_M_breaks_71, e_M_breaks_72, e_M_breaks_74, e_M_breaks_76, e_M_breaks_79, e_M_breaks_80, e_M_breaks_81, e_M_breaks_82, e_M_breaks_83, e_M_breaks_84, e_M_breaks_87, e_M_breaks_88, is_93 h, rf_93_0 h, if_true, ia94_4 h, cl_4, k_M_of_4 h hw, k_M_put_5 h hw, rb_i, rb_v, vu_s, vu_vu, up_n (show 8 + 6 * w + 4 ≠ 4 by omega), h1, ne_eq, not_true, if_false, breaksS]
  · by_cases h2 : n < 14
    · have e2 : upd (upd (I 94) 4 (I 94 4 + 1)) (8 + 6 * w + 4) (I 94 (8 + 6 * w + 4) / 2) 1 = nI n := by rw [up_n (by omega), up_n (by omega), e]
      simp only [e_M_breaks_0, e_M_breaks_1, e_M_breaks_4, e_M_breaks_5, e_M_breaks_6, e_M_breaks_7, e_M_breaks_8, e_M_breaks_9, e_M_breaks_10, e_M_breaks_11, e_M_breaks_12, e_M_breaks_13, e_M_breaks_16, e_M_breaks_17, e_M_breaks_18, e_M_breaks_19, e_M_breaks_22, e_M_breaks_23, e_M_breaks_24, e_M_breaks_25, e_M_breaks_26, e_M_breaks_29, e_M_breaks_30, e_M_breaks_31, e_M_breaks_32, e_M_breaks_33, e_M_breaks_34, e_M_breaks_35, e_M_breaks_36, e_M_breaks_39, e_M_breaks_40, e_M_breaks_43, e_M_breaks_44, e_M_breaks_45, e_M_breaks_47, e_M_breaks_50, e_M_breaks_51, e_M_breaks_52, e_M_breaks_53, e_M_breaks_54, e_M_breaks_55, e_M_breaks_58, e_M_breaks_59, e_M_breaks_60, e_M_breaks_61, e_M_breaks_64, e_M_breaks_65, e_M_breaks_66, e_M_breaks_67, e_M_breaks_70, e_M_breaks_71, e_M_breaks_72, e_M_breaks_74, e_M_breaks_76, e_M_breaks_79, e_M_breaks_80, e_M_breaks_81, e_M_breaks_82, e_M_breaks_83, e_M_breaks_84, e_M_breaks_87, e_M_breaks_88, is_93 h, rf_93_0 h, if_true, ia94_4 h, ia94_1 h, cl_4, cl_1, k_M_of_1 h hw, k_M_of_2 h hw, k_M_of_3 h hw, k_M_of_4 h hw, k_M_put_4 h hw, rb_i, rb_v, vu_s, vu_vu, up_n (show 8 + 6 * w + 4 ≠ 4 by omega), h1, ne_eq, not_false_eq_true, if_false, show ¬ (2 : Int32) = 0 by decide, e2, k_M_within]
      rw [show (14 : Int32) = nI 14 from rfl]
      simp only [nI_le' (show 14 < 2 ^ 31 by decide) (show n < 2 ^ 31 by omega), show ¬ 14 ≤ n by omega, if_false]
      rw [k_M_comes h h2 (I := va_up I 94 (upd (upd (I 94) 4 (I 94 4 + 1)) (8 + 6 * w + 4) (I 94 (8 + 6 * w + 4) / 2))) (by rw [vu_s]; exact e2)]
      simp only [e_M_breaks_0, e_M_breaks_1, e_M_breaks_4, e_M_breaks_5, e_M_breaks_6, e_M_breaks_7, e_M_breaks_8, e_M_breaks_9, e_M_breaks_10, e_M_breaks_11, e_M_breaks_12, e_M_breaks_13, e_M_breaks_16, e_M_breaks_17, e_M_breaks_18, e_M_breaks_19, e_M_breaks_22, e_M_breaks_23, e_M_breaks_24, e_M_breaks_25, e_M_breaks_26, e_M_breaks_29, e_M_breaks_30, e_M_breaks_31, e_M_breaks_32, e_M_breaks_33, e_M_breaks_34, e_M_breaks_35, e_M_breaks_36, e_M_breaks_39, e_M_breaks_40, e_M_breaks_43, e_M_breaks_44, e_M_breaks_45, e_M_breaks_47, e_M_breaks_50, e_M_breaks_51, e_M_breaks_52, e_M_breaks_53, e_M_breaks_54, e_M_breaks_55, e_M_breaks_58, e_M_breaks_59, e_M_breaks_60, e_M_breaks_61, e_M_breaks_64, e_M_breaks_65, e_M_breaks_66, e_M_breaks_67, e_M_breaks_70, e_M_breaks_71, e_M_breaks_72, e_M_breaks_74, e_M_breaks_76, e_M_breaks_79, e_M_breaks_80, e_M_breaks_81, e_M_breaks_82, e_M_breaks_83, e_M_breaks_84, e_M_breaks_87, e_M_breaks_88, rb_i, vu_s, vu_vu, breaksS, h1, h2, if_true, if_false, clS, up_n (show 8 + 6 * w + 1 ≠ 8 + 6 * w + 4 by omega), up_n (show 8 + 6 * w + 2 ≠ 8 + 6 * w + 4 by omega), up_n (show 8 + 6 * w + 3 ≠ 8 + 6 * w + 4 by omega), up_n (show 8 + 6 * w + 1 ≠ 4 by omega), up_n (show 8 + 6 * w + 2 ≠ 4 by omega), up_n (show 8 + 6 * w + 3 ≠ 4 by omega)]
    · have e2 : upd (upd (I 94) 4 (I 94 4 + 1)) (8 + 6 * w + 4) (I 94 (8 + 6 * w + 4) / 2) 1 = nI n := by rw [up_n (by omega), up_n (by omega), e]
      simp only [e_M_breaks_0, e_M_breaks_1, e_M_breaks_4, e_M_breaks_5, e_M_breaks_6, e_M_breaks_7, e_M_breaks_8, e_M_breaks_9, e_M_breaks_10, e_M_breaks_11, e_M_breaks_12, e_M_breaks_13, e_M_breaks_16, e_M_breaks_17, e_M_breaks_18, e_M_breaks_19, e_M_breaks_22, e_M_breaks_23, e_M_breaks_24, e_M_breaks_25, e_M_breaks_26, e_M_breaks_29, e_M_breaks_30, e_M_breaks_31, e_M_breaks_32, e_M_breaks_33, e_M_breaks_34, e_M_breaks_35, e_M_breaks_36, e_M_breaks_39, e_M_breaks_40, e_M_breaks_43, e_M_breaks_44, e_M_breaks_45, e_M_breaks_47, e_M_breaks_50, e_M_breaks_51, e_M_breaks_52, e_M_breaks_53, e_M_breaks_54, e_M_breaks_55, e_M_breaks_58, e_M_breaks_59, e_M_breaks_60, e_M_breaks_61, e_M_breaks_64, e_M_breaks_65, e_M_breaks_66, e_M_breaks_67, e_M_breaks_70, e_M_breaks_71, e_M_breaks_72, e_M_breaks_74, e_M_breaks_76, e_M_breaks_79, e_M_breaks_80, e_M_breaks_81, e_M_breaks_82, e_M_breaks_83, e_M_breaks_84, e_M_breaks_87, e_M_breaks_88, is_93 h, rf_93_0 h, if_true, ia94_4 h, ia94_1 h, cl_4, cl_1, k_M_of_4 h hw, k_M_put_4 h hw, rb_i, rb_v, vu_s, vu_vu, up_n (show 8 + 6 * w + 4 ≠ 4 by omega), h1, ne_eq, not_false_eq_true, if_false, show ¬ (2 : Int32) = 0 by decide, e2]
      rw [show (14 : Int32) = nI 14 from rfl]
      simp only [nI_le' (show 14 < 2 ^ 31 by decide) (show n < 2 ^ 31 by omega), show 14 ≤ n by omega, if_true, breaksS, h1, h2, if_false]
/-- the facts of a wreck, for a text -/
def fcS (a : Nat → Int32) (w : Nat) (i : Nat) : Int32 := if i = 0 then a (8 + 6 * w + 4) else if i = 1 then a (8 + 6 * w + 1) else a (8 + 6 * w + 3)
def plainS (a : Nat → Int32) (w : Nat) : Int32 := if cntS a 0 (a 7).toNatClampNeg < 0 then a (8 + 6 * w + 4) else clS (valS a (cntS a 0 (a 7).toNatClampNeg).toNatClampNeg (fcS a w)) 0 999
def hardS (a : Nat → Int32) (w : Nat) : Int32 := if a (8 + 6 * w) = 1 then plainS a w + 10 else if a (8 + 6 * w) = 2 then (if 9 ≤ plainS a w then plainS a w - 9 else 0) else if a (8 + 6 * w) = 3 then (plainS a w + 10) / 2 else if a (8 + 6 * w) = 4 then 0 else if a (8 + 6 * w) = 5 then 2 * plainS a w else plainS a w
theorem wkS_f {f f2 c q : Nat → Int32} {n : Nat} (hok : okS c n) (hf : ∀ i, i < 3 → f i = f2 i) : ∀ k, k ≤ n → wkS f c q k = wkS f2 c q k := by
  intro k
  induction k with
  | zero => intro _; rfl
  | succ k ih =>
    intro hk
    unfold wkS
    rw [ih (by omega)]
    by_cases hs : c k < 0
    · simp only [hs, if_true]
    · simp only [hs, if_false]
      rcases (hok.2.2 k (by omega)).2 hs with h1 | ⟨i, hi, h1⟩
      · simp only [h1, if_true]
      · have h3 : c k - 10000 = nI i := by rw [h1, show (10000 : Int32) = nI 10000 from rfl, pk_sub (by omega), show 10000 + i - 10000 = i by omega]
        rw [h3, nI_clamp (by omega), hf i hi]
/-- the value that the reference works out is the row's -/
theorem val_eq {a f f2 q : Nat → Int32} {t m : Nat} (hm : rem (a (92 + 2 * t)) 1000 = nI m) (hok : okS (fun j => a (120 + 96 * t + j)) m) (hf : ∀ i, i < 3 → f i = f2 i) : wkS f (fun j => a (120 + 96 * t + j)) q m 0 = valS a t f2 := by
  unfold valS
  rw [hm, nI_clamp (by have := hok.1; omega), ← wkS_f hok hf m (Nat.le_refl _)]
  exact wkS_same hok m (Nat.le_refl _) 0 (by rw [hok.2.1]; decide)
theorem ia108_0 (h : WF S R) : h_ia S 108 0 0 = true := ia_108 h (n := 0) (by decide)
theorem ia108_1 (h : WF S R) : h_ia S 108 0 1 = true := ia_108 h (n := 1) (by decide)
theorem ia108_2 (h : WF S R) : h_ia S 108 0 2 = true := ia_108 h (n := 2) (by decide)
theorem k_M_hardOf (h : WF S R) {w : Nat} (hw : w < 14) (ht : txOK (I 94)) : ∃ I2, Sm I I2 ∧ rn Ls xs (d + 2) 106 0 [some (.inr (.inl (some 93))), some (.inl (nI w)), none, none] [] (S, I, R) = some (some (.inl (hardS (I 94) w)), (S, I2, R)) := by
  obtain ⟨n, hn, e7, htx⟩ := ht
  have hc7 : (I 94 7).toNatClampNeg = n := by rw [e7, nI_clamp (by omega)]
  have run := k_M_counts (Ls := Ls) (xs := xs) (d := d + 1) h (key := 0) hn e7
  rcases cntS_or (I 94) 0 n with e | ⟨t, htn, e⟩
  · refine ⟨va_up I 108 (upd (upd (upd (I 108) 0 (I 94 (8 + 6 * w + 4))) 1 (I 94 (8 + 6 * w + 1))) 2 (I 94 (8 + 6 * w + 3))), fun b _ b2 => vu_n b2, ?_⟩
    have hp : plainS (I 94) w = I 94 (8 + 6 * w + 4) := by unfold plainS; rw [hc7, e, if_pos (by decide)]
    simp only [e_M_hardOf_0, e_M_hardOf_1, e_M_hardOf_2, e_M_hardOf_5, e_M_hardOf_6, e_M_hardOf_7, e_M_hardOf_10, e_M_hardOf_11, e_M_hardOf_12, e_M_hardOf_13, e_M_hardOf_14, e_M_hardOf_17, e_M_hardOf_18, e_M_hardOf_19, e_M_hardOf_22, e_M_hardOf_23, e_M_hardOf_24, e_M_hardOf_25, e_M_hardOf_26, e_M_hardOf_29, e_M_hardOf_30, e_M_hardOf_31, e_M_hardOf_34, e_M_hardOf_35, e_M_hardOf_36, e_M_hardOf_37, e_M_hardOf_38, e_M_hardOf_41, e_M_hardOf_42, e_M_hardOf_43, e_M_hardOf_46, e_M_hardOf_47, e_M_hardOf_48, e_M_hardOf_49, e_M_hardOf_52, e_M_hardOf_55, e_M_hardOf_56, e_M_hardOf_57, e_M_hardOf_60, e_M_hardOf_61, e_M_hardOf_64, e_M_hardOf_67, e_M_hardOf_68, e_M_hardOf_69, e_M_hardOf_70, e_M_hardOf_71, e_M_hardOf_74, e_M_hardOf_108, e_M_hardOf_109, e_M_hardOf_111, e_M_hardOf_112, e_M_hardOf_113, e_M_hardOf_114, e_M_hardOf_116, e_M_hardOf_119, e_M_hardOf_120, e_M_hardOf_123, e_M_hardOf_124, e_M_hardOf_126, e_M_hardOf_127, e_M_hardOf_128, e_M_hardOf_129, e_M_hardOf_131, e_M_hardOf_132, e_M_hardOf_133, e_M_hardOf_134, e_M_hardOf_135, e_M_hardOf_136, e_M_hardOf_137, e_M_hardOf_138, e_M_hardOf_139, e_M_hardOf_140, e_M_hardOf_141, e_M_hardOf_142, is_93 h, rf_93_25 h, if_true, run, e, rb_i, ia108_0 h, ia108_1 h, ia108_2 h, cl_0, cl_1, cl_2, k_M_of_0 h hw, k_M_of_1 h hw, k_M_of_3 h hw, k_M_of_4 h hw, vu_s, vu_vu, vu_n (show 94 ≠ 108 by decide), show ((-1 : Int32) < 0) by decide, show ¬ (0 : Int32) ≤ -1 by decide, show ¬ (2 : Int32) = 0 by decide, if_false, hp, hardS, it_i]
  · obtain ⟨m, hm, hok, -⟩ := htx t htn
    refine ⟨va_up (va_up I 108 (upd (upd (upd (I 108) 0 (I 94 (8 + 6 * w + 4))) 1 (I 94 (8 + 6 * w + 1))) 2 (I 94 (8 + 6 * w + 3)))) 107 (wkS (upd (upd (upd (I 108) 0 (I 94 (8 + 6 * w + 4))) 1 (I 94 (8 + 6 * w + 1))) 2 (I 94 (8 + 6 * w + 3))) (fun j => I 94 (120 + 96 * t + j)) (I 107) m), fun b b1 b2 => by rw [vu_n b1, vu_n b2], ?_⟩
    have hf : ∀ i, i < 3 → upd (upd (upd (I 108) 0 (I 94 (8 + 6 * w + 4))) 1 (I 94 (8 + 6 * w + 1))) 2 (I 94 (8 + 6 * w + 3)) i = fcS (I 94) w i := by
      intro i hi
      rcases (show i = 0 ∨ i = 1 ∨ i = 2 by omega) with rfl | rfl | rfl <;> simp [upd, fcS]
    have hp : plainS (I 94) w = clS (wkS (upd (upd (upd (I 108) 0 (I 94 (8 + 6 * w + 4))) 1 (I 94 (8 + 6 * w + 1))) 2 (I 94 (8 + 6 * w + 3))) (fun j => I 94 (120 + 96 * t + j)) (I 107) m 0) 0 999 := by
      unfold plainS
      rw [hc7, e, if_neg (nI_pos (by omega)), nI_clamp (show t < 2 ^ 31 by omega), ← val_eq hm hok hf]
    have run2 := k_M_worksOut (Ls := Ls) (xs := xs) (d := d) (I := va_up I 108 (upd (upd (upd (I 108) 0 (I 94 (8 + 6 * w + 4))) 1 (I 94 (8 + 6 * w + 1))) 2 (I 94 (8 + 6 * w + 3)))) h (show t < 14 by omega) hok (by rw [vu_n (show 94 ≠ 108 by decide)]; exact hm) (fun j _ => by rw [vu_n (show 94 ≠ 108 by decide)]) (vu_s)
    rw [vu_n (show 107 ≠ 108 by decide)] at run2
    have h0 : (0 : Int32) ≤ nI t := nI_pos' (by omega)
    simp only [e_M_hardOf_0, e_M_hardOf_1, e_M_hardOf_2, e_M_hardOf_5, e_M_hardOf_6, e_M_hardOf_7, e_M_hardOf_10, e_M_hardOf_11, e_M_hardOf_12, e_M_hardOf_13, e_M_hardOf_14, e_M_hardOf_17, e_M_hardOf_18, e_M_hardOf_19, e_M_hardOf_22, e_M_hardOf_23, e_M_hardOf_24, e_M_hardOf_25, e_M_hardOf_26, e_M_hardOf_29, e_M_hardOf_30, e_M_hardOf_31, e_M_hardOf_34, e_M_hardOf_35, e_M_hardOf_36, e_M_hardOf_37, e_M_hardOf_38, e_M_hardOf_41, e_M_hardOf_42, e_M_hardOf_43, e_M_hardOf_46, e_M_hardOf_47, e_M_hardOf_48, e_M_hardOf_49, e_M_hardOf_52, e_M_hardOf_55, e_M_hardOf_56, e_M_hardOf_57, e_M_hardOf_60, e_M_hardOf_61, e_M_hardOf_64, e_M_hardOf_67, e_M_hardOf_68, e_M_hardOf_69, e_M_hardOf_70, e_M_hardOf_71, e_M_hardOf_74, e_M_hardOf_108, e_M_hardOf_109, e_M_hardOf_111, e_M_hardOf_112, e_M_hardOf_113, e_M_hardOf_114, e_M_hardOf_116, e_M_hardOf_119, e_M_hardOf_120, e_M_hardOf_123, e_M_hardOf_124, e_M_hardOf_126, e_M_hardOf_127, e_M_hardOf_128, e_M_hardOf_129, e_M_hardOf_131, e_M_hardOf_132, e_M_hardOf_133, e_M_hardOf_134, e_M_hardOf_135, e_M_hardOf_136, e_M_hardOf_137, e_M_hardOf_138, e_M_hardOf_139, e_M_hardOf_140, e_M_hardOf_141, e_M_hardOf_142, is_93 h, rf_93_25 h, if_true, run, e, rb_i, ia108_0 h, ia108_1 h, ia108_2 h, cl_0, cl_1, cl_2, k_M_of_0 h hw, k_M_of_1 h hw, k_M_of_3 h hw, k_M_of_4 h hw, vu_s, vu_vu, vu_n (show 94 ≠ 108 by decide), vu_n (show 94 ≠ 107 by decide), h0, run2, k_M_within, show ¬ (2 : Int32) = 0 by decide, if_false, hp, hardS, it_i]
/-- the row of an hour: each goes on -/
def goS1 (a : Nat → Int32) (w : Nat) : Nat → Int32 := upd a (8 + 6 * w + 2) (if a (8 + 6 * w + 5) = 1 then rdS (a (8 + 6 * w + 2) + goesS a w) else a (8 + 6 * w + 2))
def goS (a : Nat → Int32) : Nat → Nat → (Nat → Int32)
  | _, 0 => a
  | w, j + 1 => goS (goS1 a w) (w + 1) j
/-- two that meet -/
noncomputable def mtS1 (a : Nat → Int32) (w o : Nat) : Nat → Int32 := @ite _ (meetP a w o) (Classical.propDecidable _) (breaksS a (a 1).toNatClampNeg (if hardS a w < hardS a o then w else o)) a
noncomputable def mtS (a : Nat → Int32) (w : Nat) : Nat → Nat → (Nat → Int32)
  | _, 0 => a
  | o, j + 1 => mtS (mtS1 a w o) w (o + 1) j
noncomputable def mtO (n : Nat) (a : Nat → Int32) : Nat → Nat → (Nat → Int32)
  | _, 0 => a
  | w, j + 1 => mtO n (mtS a w (w + 1) (n - (w + 1))) (w + 1) j
abbrev zS (z : Int32) : Int32 := z * 1103515245 + 12345
def lotS (a : Nat → Int32) : Nat → Int32 := if a 3 ≤ rem (sh8 (zS (a 0))) 100 then upd a 0 (zS (a 0)) else if a 1 ≤ 0 then upd a 0 (zS (a 0)) else sinksS (upd (upd a 0 (zS (a 0))) 0 (zS (zS (a 0)))) (rem (sh8 (zS (zS (a 0)))) (a 1)).toNatClampNeg
noncomputable def hourS (a : Nat → Int32) : Nat → Int32 :=
  upd (lotS (mtO (a 1).toNatClampNeg (goS a 0 (a 1).toNatClampNeg) 0 (a 1).toNatClampNeg)) 2 (lotS (mtO (a 1).toNatClampNeg (goS a 0 (a 1).toNatClampNeg) 0 (a 1).toNatClampNeg) 2 + 1)
theorem l_M_hour1 (h : WF S R) {n : Nat} (hn : n ≤ 14) {l3 : Option mV} {Z : Option mRes} : ∀ (j w : Nat) (I : mI), w + j = n → 
    (rn Ls xs (d + 2) 131 58 [some (.inr (.inl (some 93))), some (.inl (nI n)), some (.inl (nI n)), l3] [] (S, va_up I 94 (goS (I 94) w j), R) = Z) → rn Ls xs (d + 2) 131 9 [some (.inr (.inl (some 93))), some (.inl (nI n)), some (.inl (nI w)), l3] [] (S, I, R) = Z := by
  intro j
  induction j with
  | zero =>
    intro w I hw hz
    have : w = n := by omega
    subst this
    rw [e_M_hour_9]
    simp only [goS, vu_id] at hz
    simp only [e_M_hour_10, e_M_hour_11, nI_le' (show w < 2 ^ 31 by omega) (show w < 2 ^ 31 by omega), Nat.le_refl, if_true]
    exact hz
  | succ j ih =>
    intro w I hw hz
    have hwn : w < 14 := by omega
    have hz2 := ih (w + 1) (va_up I 94 (goS1 (I 94) w)) (by omega) (by rw [vu_s, vu_vu]; exact hz)
    rw [e_M_hour_9]
    by_cases hu : I 94 (8 + 6 * w + 5) = 1
    · simp only [goS1, hu, if_true] at hz2
      simp only [e_M_hour_10, e_M_hour_11, e_M_hour_14, e_M_hour_15, e_M_hour_16, e_M_hour_17, e_M_hour_18, e_M_hour_19, e_M_hour_22, e_M_hour_25, e_M_hour_26, e_M_hour_27, e_M_hour_28, e_M_hour_31, e_M_hour_32, e_M_hour_33, e_M_hour_36, e_M_hour_37, e_M_hour_40, e_M_hour_43, e_M_hour_44, e_M_hour_45, e_M_hour_46, e_M_hour_49, e_M_hour_52, e_M_hour_55, nI_le' (show n < 2 ^ 31 by omega) (show w < 2 ^ 31 by omega), show ¬ n ≤ w by omega, if_false, is_93 h, if_true, k_M_isUp h hwn, rb_i, rb_v, hu, show ¬ (1 : Int32) = 0 by decide, k_M_of_2 h hwn, k_M_goesOf h hwn, k_M_round, k_M_put_2 h hwn, nI_1]
      exact hz2
    · simp only [goS1, hu, if_false] at hz2
      simp only [e_M_hour_10, e_M_hour_11, e_M_hour_14, e_M_hour_15, e_M_hour_16, e_M_hour_17, e_M_hour_18, e_M_hour_19, e_M_hour_22, e_M_hour_25, e_M_hour_26, e_M_hour_27, e_M_hour_28, e_M_hour_31, e_M_hour_32, e_M_hour_33, e_M_hour_36, e_M_hour_37, e_M_hour_40, e_M_hour_43, e_M_hour_44, e_M_hour_45, e_M_hour_46, e_M_hour_49, e_M_hour_52, e_M_hour_55, nI_le' (show n < 2 ^ 31 by omega) (show w < 2 ^ 31 by omega), show ¬ n ≤ w by omega, if_false, is_93 h, if_true, k_M_isUp h hwn, rb_i, rb_v, hu, k_M_of_2 h hwn, k_M_put_2 h hwn, nI_1]
      exact hz2
/-- what an hour's rows keep -/
def rwOK (a : Nat → Int32) : Prop := (∃ n, n ≤ 14 ∧ a 1 = nI n) ∧ txOK a
theorem txOK_same {a b : Nat → Int32} (h : txOK a) (e : b 7 = a 7) (e2 : ∀ k, 92 ≤ k → b k = a k) : txOK b := by
  obtain ⟨n, h1, h2, h3⟩ := h
  refine ⟨n, h1, by rw [e, h2], fun t ht => ?_⟩
  obtain ⟨m, g1, g2, g3⟩ := h3 t ht
  refine ⟨m, by rw [e2 _ (by omega)]; exact g1, ?_, fun h j hj => by rw [e2 _ (by omega)]; exact g3 (by rw [← e2 _ (show 92 ≤ 92 + 2 * t by omega)]; exact h) j hj⟩
  have e3 : (fun j => b (120 + 96 * t + j)) = fun j => a (120 + 96 * t + j) := funext fun j => e2 _ (by omega)
  rw [e3]; exact g2
theorem rwOK_upd {a : Nat → Int32} {k : Nat} {x : Int32} (h : rwOK a) (h1 : k ≠ 1) (h7 : k ≠ 7) (h92 : k < 92) : rwOK (upd a k x) := by
  obtain ⟨⟨n, g1, g2⟩, g3⟩ := h
  exact ⟨⟨n, g1, by rw [up_n (Ne.symm h1)]; exact g2⟩, txOK_same g3 (up_n (Ne.symm h7)) (fun j hj => up_n (by omega))⟩
theorem rwOK_comes {a : Nat → Int32} {n : Nat} {k ht p pc m : Int32} (h : rwOK a) (hn : n < 14) : rwOK (comesS a n k ht p pc m) := by
  unfold comesS
  have h0 : rwOK (upd a 1 (nI (n + 1))) := ⟨⟨n + 1, by omega, up_s⟩, txOK_same h.2 (up_n (by decide)) (fun j hj => up_n (by omega))⟩
  exact rwOK_upd (rwOK_upd (rwOK_upd (rwOK_upd (rwOK_upd (rwOK_upd h0 (by omega) (by omega) (by omega)) (by omega) (by omega) (by omega)) (by omega) (by omega) (by omega)) (by omega) (by omega) (by omega)) (by omega) (by omega) (by omega)) (by omega) (by omega) (by omega)
theorem rwOK_breaks {a : Nat → Int32} {n w : Nat} (h : rwOK a) (hw : w < 14) : rwOK (breaksS a n w) := by
  unfold breaksS
  have h4 : rwOK (upd a 4 (a 4 + 1)) := rwOK_upd h (by decide) (by decide) (by decide)
  split
  · exact rwOK_upd h4 (by omega) (by omega) (by omega)
  · split
    · exact rwOK_comes (rwOK_upd h4 (by omega) (by omega) (by omega)) (by assumption)
    · exact rwOK_upd h4 (by omega) (by omega) (by omega)
theorem rwOK_mt1 {a : Nat → Int32} {w o : Nat} (h : rwOK a) (hw : w < 14) (ho : o < 14) : rwOK (mtS1 a w o) := by
  unfold mtS1
  split
  · exact rwOK_breaks h (by split <;> assumption)
  · exact h
theorem rwOK_mt {w : Nat} (hw : w < 14) : ∀ (j o : Nat) (a : Nat → Int32), rwOK a → o + j ≤ 14 → rwOK (mtS a w o j)
  | 0, _, _, h, _ => h
  | j + 1, o, a, h, hj => rwOK_mt hw j (o + 1) _ (rwOK_mt1 h hw (by omega)) (by omega)
theorem rwOK_mtO {n : Nat} (hn : n ≤ 14) : ∀ (j w : Nat) (a : Nat → Int32), rwOK a → w + j ≤ n → rwOK (mtO n a w j)
  | 0, _, _, h, _ => h
  | j + 1, w, a, h, hj => rwOK_mtO hn j (w + 1) _ (rwOK_mt (by omega) _ _ _ h (by omega)) (by omega)
theorem rwOK_go : ∀ (j w : Nat) (a : Nat → Int32), rwOK a → w + j ≤ 14 → rwOK (goS a w j)
  | 0, _, _, h, _ => h
  | j + 1, w, a, h, hj => rwOK_go j (w + 1) _ (rwOK_upd h (by omega) (by omega) (by omega)) (by omega)
/-- a heap that is another but for scratch, with a row put in -/
theorem Sm.up {I I2 : mI} (h : Sm I I2) (f : Nat → Int32) : Sm (va_up I 94 f) (va_up I2 94 f) := by
  intro b b1 b2
  by_cases hb : b = 94
  · subst hb; rw [vu_s, vu_s]
  · rw [vu_n hb, vu_n hb]; exact h b b1 b2
theorem Sm.row {I I2 : mI} (h : Sm I I2) : I2 94 = I 94 := h 94 (by decide) (by decide)
theorem mtS1_y {a : Nat → Int32} {w o n : Nat} (h : meetP a w o) (e : a 1 = nI n) (hn : n ≤ 14) : mtS1 a w o = breaksS a n (if hardS a w < hardS a o then w else o) := by
  unfold mtS1
  rw [if_pos h, e, nI_clamp (by omega)]
theorem mtS1_n {a : Nat → Int32} {w o : Nat} (h : ¬ meetP a w o) : mtS1 a w o = a := by
  unfold mtS1
  rw [if_neg h]
theorem l_M_hour3 (h : WF S R) {n w : Nat} (hn : n ≤ 14) (hw : w < n) : ∀ (j o : Nat) (I : mI), o + j = n → rwOK (I 94) → ∃ I2, Sm (va_up I 94 (mtS (I 94) w o j)) I2 ∧
    rn Ls xs (d + 3) 131 69 [some (.inr (.inl (some 93))), some (.inl (nI n)), some (.inl (nI w)), some (.inl (nI o))] [] (S, I, R) = rn Ls xs (d + 3) 131 111 [some (.inr (.inl (some 93))), some (.inl (nI n)), some (.inl (nI w)), some (.inl (nI n))] [] (S, I2, R) := by
  intro j
  induction j with
  | zero =>
    intro o I ho hr
    have : o = n := by omega
    subst this
    refine ⟨I, by simp only [mtS, vu_id]; exact Sm.rfl', ?_⟩
    rw [e_M_hour_69]
    simp only [e_M_hour_70, e_M_hour_71, nI_le' (show o < 2 ^ 31 by omega) (show o < 2 ^ 31 by omega), Nat.le_refl, if_true]
  | succ j ih =>
    intro o I ho hr
    have hw14 : w < 14 := by omega
    have ho14 : o < 14 := by omega
    obtain ⟨⟨c, hc1, hc2⟩, htx⟩ := id hr
    by_cases hm : meetP (I 94) w o
    · obtain ⟨I2, s2, r2⟩ := k_M_hardOf (Ls := Ls) (xs := xs) (d := d) h hw14 htx
      have row2 := s2.row
      obtain ⟨I3, s3, r3⟩ := k_M_hardOf (Ls := Ls) (xs := xs) (d := d) (I := I2) h ho14 (by rw [row2]; exact htx)
      have row3 : I3 94 = I 94 := s3.row.trans row2
      rw [row2] at r3
      have hx : (if hardS (I 94) w < hardS (I 94) o then w else o) < 14 := by split <;> assumption
      have r4 := k_M_breaks (Ls := Ls) (xs := xs) (d := d) (I := I3) h hx hc1 (by rw [row3]; exact hc2)
      rw [row3, ← mtS1_y hm hc2 hc1] at r4
      obtain ⟨I5, s5, r5⟩ := ih (o + 1) (va_up I3 94 (mtS1 (I 94) w o)) (by omega) (by rw [vu_s]; exact rwOK_mt1 hr hw14 ho14)
      rw [vu_s, vu_vu] at s5
      refine ⟨I5, ((s2.trans' s3).up _).trans' s5, ?_⟩
      rw [e_M_hour_69, ← r5]
      simp only [e_M_hour_70, e_M_hour_71, e_M_hour_74, e_M_hour_75, e_M_hour_76, e_M_hour_77, e_M_hour_80, e_M_hour_83, e_M_hour_84, e_M_hour_85, e_M_hour_86, e_M_hour_89, e_M_hour_90, e_M_hour_91, nI_le' (show n < 2 ^ 31 by omega) (show o < 2 ^ 31 by omega), show ¬ n ≤ o by omega, if_false, is_93 h, if_true, (k_M_doMeet h hw14 ho14).1 hm, rb_i, show ¬ (1 : Int32) = 0 by decide, r2, r3]
      rw [e_M_hour_94]
      by_cases hl : hardS (I 94) w < hardS (I 94) o
      · simp only [hl, if_true] at r4
        rw [if_neg (i_nle.mpr hl)]
        simp only [e_M_hour_97, e_M_hour_98, e_M_hour_101, e_M_hour_102, e_M_hour_105, e_M_hour_108, is_93 h, if_true, r4, rb_v, nI_1]
      · simp only [hl, if_false] at r4
        rw [if_pos (i_nlt.mp hl)]
        simp only [e_M_hour_97, e_M_hour_98, e_M_hour_101, e_M_hour_102, e_M_hour_105, e_M_hour_108, is_93 h, if_true, r4, rb_v, nI_1]
    · obtain ⟨I5, s5, r5⟩ := ih (o + 1) I (by omega) hr
      refine ⟨I5, by unfold mtS; rw [mtS1_n hm]; exact s5, ?_⟩
      rw [e_M_hour_69, ← r5]
      simp only [e_M_hour_70, e_M_hour_71, e_M_hour_74, e_M_hour_75, e_M_hour_76, e_M_hour_77, e_M_hour_80, e_M_hour_83, e_M_hour_84, e_M_hour_85, e_M_hour_86, e_M_hour_89, e_M_hour_90, e_M_hour_91, e_M_hour_94, e_M_hour_97, e_M_hour_98, e_M_hour_101, e_M_hour_102, e_M_hour_105, e_M_hour_108, nI_le' (show n < 2 ^ 31 by omega) (show o < 2 ^ 31 by omega), show ¬ n ≤ o by omega, if_false, is_93 h, if_true, (k_M_doMeet h hw14 ho14).2 hm, rb_i, nI_1]
theorem l_M_hour2 (h : WF S R) {n : Nat} (hn : n ≤ 14) : ∀ (j w : Nat) (I : mI) (l3 : Option mV), w + j = n → rwOK (I 94) → ∃ I2 l32, Sm (va_up I 94 (mtO n (I 94) w j)) I2 ∧
    rn Ls xs (d + 3) 131 60 [some (.inr (.inl (some 93))), some (.inl (nI n)), some (.inl (nI w)), l3] [] (S, I, R) = rn Ls xs (d + 3) 131 117 [some (.inr (.inl (some 93))), some (.inl (nI n)), some (.inl (nI n)), l32] [] (S, I2, R) := by
  intro j
  induction j with
  | zero =>
    intro w I l3 hw hr
    have : w = n := by omega
    subst this
    refine ⟨I, l3, by simp only [mtO, vu_id]; exact Sm.rfl', ?_⟩
    rw [e_M_hour_60]
    simp only [e_M_hour_61, e_M_hour_62, nI_le' (show w < 2 ^ 31 by omega) (show w < 2 ^ 31 by omega), Nat.le_refl, if_true]
  | succ j ih =>
    intro w I l3 hw hr
    obtain ⟨I2, s2, r2⟩ := l_M_hour3 (Ls := Ls) (xs := xs) (d := d) h hn (show w < n by omega) (n - (w + 1)) (w + 1) I (by omega) hr
    have row2 := s2.row
    rw [vu_s] at row2
    have ok2 : rwOK (I2 94) := by rw [row2]; exact rwOK_mt (by omega) _ _ _ hr (by omega)
    obtain ⟨I3, l4, s3, r3⟩ := ih (w + 1) I2 (some (.inl (nI n))) (by omega) ok2
    refine ⟨I3, l4, ?_, ?_⟩
    · unfold mtO
      rw [row2] at s3
      have := (s2.up (mtO n (mtS (I 94) w (w + 1) (n - (w + 1))) (w + 1) j)).trans' s3
      rw [vu_vu] at this
      exact this
    · rw [e_M_hour_60, ← r3]
      simp only [e_M_hour_61, e_M_hour_62, e_M_hour_65, e_M_hour_66, e_M_hour_67, e_M_hour_68, nI_le' (show n < 2 ^ 31 by omega) (show w < 2 ^ 31 by omega), show ¬ n ≤ w by omega, if_false, nI_1, r2]
      simp only [e_M_hour_111, e_M_hour_114, nI_1]
theorem sh8_nI (x : Int32) : ∃ m, m < 2 ^ 24 ∧ sh8 x = nI m := by
  refine ⟨x.toBitVec.toNat / 2 ^ 8, ?_, ?_⟩
  · have := x.toBitVec.isLt
    omega
  · apply Int32.toBitVec_inj.mp
    apply BitVec.eq_of_toNat_eq
    rw [pk_ushr x 8 8 (by decide), pk_tn]
    have := x.toBitVec.isLt
    omega
theorem rem_nI (x : Int32) {c : Nat} (hc : 0 < c) (hc2 : c < 2 ^ 31) : ∃ m, m < c ∧ rem (sh8 x) (nI c) = nI m := by
  obtain ⟨m, hm, e⟩ := sh8_nI x
  refine ⟨m % c, Nat.mod_lt _ hc, ?_⟩
  unfold rem
  rw [e, pk_rem (by omega) hc hc2]
theorem k_M_lot (h : WF S R) {l1 l2 l3 : Option mV} (hr : rwOK (I 94)) : rn Ls xs (d + 3) 131 117 [some (.inr (.inl (some 93))), l1, l2, l3] [] (S, I, R) = some (none, (S, va_up I 94 (upd (lotS (I 94)) 2 (lotS (I 94) 2 + 1)), R)) := by
  obtain ⟨⟨n, hn, e1⟩, htx⟩ := id hr
  by_cases h1 : I 94 3 ≤ rem (sh8 (zS (I 94 0))) 100
  · have e : lotS (I 94) = upd (I 94) 0 (zS (I 94 0)) := by unfold lotS; rw [if_pos h1]
    simp only [rem, zS] at h1 e
    simp only [e_M_hour_117, e_M_hour_118, e_M_hour_121, e_M_hour_123, e_M_hour_124, e_M_hour_125, e_M_hour_128, e_M_hour_129, e_M_hour_130, e_M_hour_133, e_M_hour_134, e_M_hour_137, e_M_hour_138, e_M_hour_139, e_M_hour_142, e_M_hour_143, e_M_hour_144, e_M_hour_147, e_M_hour_148, e_M_hour_151, e_M_hour_152, e_M_hour_153, e_M_hour_154, e_M_hour_157, e_M_hour_158, e_M_hour_161, e_M_hour_162, e_M_hour_163, e_M_hour_164, e_M_hour_165, e_M_hour_166, e_M_hour_167, is_93 h, rf_93_0 h, if_true, k_M_draw h, rb_i, show ¬ (100 : Int32) = 0 by decide, if_false, ia94_3 h, cl_3, vu_s, vu_vu, up_n (show 3 ≠ 0 by decide), h1, ia94_2 h, cl_2, e]
  · by_cases h2 : n = 0
    · have h3 : I 94 1 ≤ 0 := by rw [e1, h2]; decide
      have e : lotS (I 94) = upd (I 94) 0 (zS (I 94 0)) := by unfold lotS; rw [if_neg h1, if_pos h3]
      simp only [rem, zS] at h1 e
      simp only [e_M_hour_117, e_M_hour_118, e_M_hour_121, e_M_hour_123, e_M_hour_124, e_M_hour_125, e_M_hour_128, e_M_hour_129, e_M_hour_130, e_M_hour_133, e_M_hour_134, e_M_hour_137, e_M_hour_138, e_M_hour_139, e_M_hour_142, e_M_hour_143, e_M_hour_144, e_M_hour_147, e_M_hour_148, e_M_hour_151, e_M_hour_152, e_M_hour_153, e_M_hour_154, e_M_hour_157, e_M_hour_158, e_M_hour_161, e_M_hour_162, e_M_hour_163, e_M_hour_164, e_M_hour_165, e_M_hour_166, e_M_hour_167, is_93 h, rf_93_0 h, if_true, k_M_draw h, rb_i, show ¬ (100 : Int32) = 0 by decide, if_false, ia94_3 h, cl_3, vu_s, vu_vu, up_n (show 3 ≠ 0 by decide), h1, ia94_2 h, cl_2, ia94_1 h, cl_1, up_n (show 1 ≠ 0 by decide), h3, e]
    · have h3 : ¬ I 94 1 ≤ 0 := by rw [e1]; exact nI_nle (by omega) (by omega)
      obtain ⟨w, hw, ew⟩ := rem_nI (zS (zS (I 94 0))) (c := n) (by omega) (by omega)
      have e : lotS (I 94) = sinksS (upd (upd (I 94) 0 (zS (I 94 0))) 0 (zS (zS (I 94 0)))) w := by unfold lotS; rw [if_neg h1, if_neg h3, e1, ew, nI_clamp (by omega)]
      have h4 : ¬ nI n = 0 := nI_ne0 (by omega) (by omega)
      simp only [rem, zS] at h1 e ew
      rw [e1] at h3
      simp only [e_M_hour_117, e_M_hour_118, e_M_hour_121, e_M_hour_123, e_M_hour_124, e_M_hour_125, e_M_hour_128, e_M_hour_129, e_M_hour_130, e_M_hour_133, e_M_hour_134, e_M_hour_137, e_M_hour_138, e_M_hour_139, e_M_hour_142, e_M_hour_143, e_M_hour_144, e_M_hour_147, e_M_hour_148, e_M_hour_151, e_M_hour_152, e_M_hour_153, is_93 h, rf_93_0 h, if_true, k_M_draw h, rb_i, show ¬ (100 : Int32) = 0 by decide, if_false, ia94_3 h, cl_3, vu_s, vu_vu, up_s, up_n (show 3 ≠ 0 by decide), h1, ia94_1 h, cl_1, up_n (show 1 ≠ 0 by decide), h3, e1, h4, ew]
      simp only [e_M_hour_154, e_M_hour_157, e_M_hour_158, e_M_hour_161, e_M_hour_162, e_M_hour_163, e_M_hour_164, e_M_hour_165, e_M_hour_166, e_M_hour_167, is_93 h, rf_93_0 h, if_true, k_M_sinks h (show w < 14 by omega), rb_v, vu_s, vu_vu, ia94_2 h, cl_2, e]
theorem k_M_hour (h : WF S R) (hr : rwOK (I 94)) : ∃ I2, Sm (va_up I 94 (hourS (I 94))) I2 ∧ rn Ls xs (d + 3) 131 0 [some (.inr (.inl (some 93))), none, none, none] [] (S, I, R) = some (none, (S, I2, R)) := by
  obtain ⟨⟨n, hn, e1⟩, htx⟩ := id hr
  have hcl : (I 94 1).toNatClampNeg = n := by rw [e1, nI_clamp (by omega)]
  obtain ⟨I2, l4, s2, r2⟩ := l_M_hour2 (Ls := Ls) (xs := xs) (d := d) h hn n 0 (va_up I 94 (goS (I 94) 0 n)) none (by omega) (by rw [vu_s]; exact rwOK_go _ _ _ hr (by omega))
  rw [vu_s, vu_vu] at s2
  have row2 := s2.row
  rw [vu_s] at row2
  have ok2 : rwOK (I2 94) := by rw [row2]; exact rwOK_mtO hn _ _ _ (rwOK_go _ _ _ hr (by omega)) (by omega)
  have r1 : rn Ls xs (d + 3) 131 9 [some (.inr (.inl (some 93))), some (.inl (nI n)), some (.inl 0), none] [] (S, I, R) = _ := l_M_hour1 (Ls := Ls) (xs := xs) (d := d + 1) (l3 := none) h hn n 0 I (by omega) rfl
  have r2 : rn Ls xs (d + 3) 131 60 [some (.inr (.inl (some 93))), some (.inl (nI n)), some (.inl 0), none] [] (S, va_up I 94 (goS (I 94) 0 n), R) = _ := r2
  refine ⟨va_up I2 94 (hourS (I 94)), ?_, ?_⟩
  · have := s2.up (hourS (I 94))
    rw [vu_vu] at this
    exact this
  · simp only [e_M_hour_0, e_M_hour_1, e_M_hour_4, e_M_hour_5, e_M_hour_6, e_M_hour_7, e_M_hour_8, is_93 h, rf_93_0 h, if_true, ia94_1 h, cl_1, e1, r1]
    rw [e_M_hour_58, e_M_hour_59, r2, k_M_lot h ok2, row2]
    unfold hourS
    rw [hcl]
theorem rwOK_sinks {a : Nat → Int32} {w : Nat} (h : rwOK a) (hw : w < 14) : rwOK (sinksS a w) := by
  unfold sinksS
  split
  · split
    · exact rwOK_upd (rwOK_upd h (by omega) (by omega) (by omega)) (by decide) (by decide) (by decide)
    · exact rwOK_upd h (by omega) (by omega) (by omega)
  · exact h
theorem rwOK_lot {a : Nat → Int32} (h : rwOK a) : rwOK (lotS a) := by
  obtain ⟨⟨n, hn, e1⟩, htx⟩ := id h
  unfold lotS
  split
  · exact rwOK_upd h (by decide) (by decide) (by decide)
  · split
    · exact rwOK_upd h (by decide) (by decide) (by decide)
    · rename_i h3
      have hn0 : n ≠ 0 := fun q => h3 (by rw [e1, q]; decide)
      obtain ⟨w, hw, ew⟩ := rem_nI (zS (zS (a 0))) (c := n) (by omega) (by omega)
      rw [e1, ew, nI_clamp (by omega)]
      exact rwOK_sinks (rwOK_upd (rwOK_upd h (by decide) (by decide) (by decide)) (by decide) (by decide) (by decide)) (by omega)
theorem rwOK_hour {a : Nat → Int32} (h : rwOK a) : rwOK (hourS a) := by
  obtain ⟨⟨n, hn, e1⟩, htx⟩ := id h
  have hcl : (a 1).toNatClampNeg = n := by rw [e1, nI_clamp (by omega)]
  unfold hourS
  rw [hcl]
  exact rwOK_upd (rwOK_lot (rwOK_mtO hn _ _ _ (rwOK_go _ _ _ h (by omega)) (by omega))) (by decide) (by decide) (by decide)
/-- some hours -/
noncomputable def hrsS (a : Nat → Int32) : Nat → (Nat → Int32)
  | 0 => a
  | k + 1 => hourS (hrsS a k)
theorem rwOK_hrs {a : Nat → Int32} (h : rwOK a) : ∀ k, rwOK (hrsS a k)
  | 0 => h
  | k + 1 => rwOK_hour (rwOK_hrs h k)
theorem l_M_goesOn (h : WF S R) {n : Nat} (hn : n < 2 ^ 30) {a : Nat → Int32} (hr : rwOK a) : ∀ (j k : Nat) (I : mI), k + j = n → I 94 = hrsS a k → ∃ I2, Sm (va_up I 94 (hrsS a n)) I2 ∧
    rn Ls xs (d + 4) 121 2 [some (.inr (.inl (some 93))), some (.inl (nI n)), some (.inl (nI k))] [] (S, I, R) = some (none, (S, I2, R)) := by
  intro j
  induction j with
  | zero =>
    intro k I hk ha
    have : k = n := by omega
    subst this
    refine ⟨I, by rw [← ha, vu_id]; exact Sm.rfl', ?_⟩
    rw [e_M_goesOn_2]
    simp only [e_M_goesOn_0, e_M_goesOn_1, e_M_goesOn_3, e_M_goesOn_4, e_M_goesOn_7, e_M_goesOn_8, e_M_goesOn_11, e_M_goesOn_14, e_M_goesOn_17, nI_le' (show k < 2 ^ 31 by omega) (show k < 2 ^ 31 by omega), Nat.le_refl, if_true]
  | succ j ih =>
    intro k I hk ha
    obtain ⟨I2, s2, r2⟩ := k_M_hour (Ls := Ls) (xs := xs) (d := d) (I := I) h (by rw [ha]; exact rwOK_hrs hr k)
    have row2 := s2.row
    rw [vu_s, ha] at row2
    obtain ⟨I3, s3, r3⟩ := ih (k + 1) I2 (by omega) row2
    refine ⟨I3, ?_, ?_⟩
    · have := (s2.up (hrsS a n)).trans' s3
      rw [vu_vu] at this
      exact this
    · rw [e_M_goesOn_2]
      simp only [e_M_goesOn_0, e_M_goesOn_1, e_M_goesOn_3, e_M_goesOn_4, e_M_goesOn_7, e_M_goesOn_8, e_M_goesOn_11, e_M_goesOn_14, e_M_goesOn_17, nI_le' (show n < 2 ^ 31 by omega) (show k < 2 ^ 31 by omega), show ¬ n ≤ k by omega, if_false, is_93 h, if_true, r2, rb_v, nI_1, r3]
theorem k_M_goesOn (h : WF S R) {n : Nat} (hn : n < 2 ^ 30) (hr : rwOK (I 94)) : ∃ I2, Sm (va_up I 94 (hrsS (I 94) n)) I2 ∧ rn Ls xs (d + 4) 121 0 [some (.inr (.inl (some 93))), some (.inl (nI n)), none] [] (S, I, R) = some (none, (S, I2, R)) := by
  obtain ⟨I2, s2, r2⟩ := l_M_goesOn (Ls := Ls) (xs := xs) (d := d) h hn hr n 0 I (by omega) rfl
  have r2 : rn Ls xs (d + 4) 121 2 [some (.inr (.inl (some 93))), some (.inl (nI n)), some (.inl 0)] [] (S, I, R) = _ := r2
  exact ⟨I2, s2, by simp only [e_M_goesOn_0, e_M_goesOn_1, r2]⟩
end MT3

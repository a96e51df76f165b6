/-! THE CLASS: an hour -/
theorem mtS_dn {a : Nat → Int32} {w : Nat} (h : ¬ a (8 + 6 * w + 5) = 1) : ∀ (j o : Nat), mtS a w o j = a
  | 0, _ => rfl
  | j + 1, o => by
    unfold mtS
    rw [mtS1_n (fun q => h q.1)]
    exact mtS_dn h j (o + 1)
theorem comes_upd {a : Nat → Int32} {n w : Nat} {k ht p pc m v : Int32} (hw : w < n) : comesS (upd a (8 + 6 * w + 4) v) n k ht p pc m = upd (comesS a n k ht p pc m) (8 + 6 * w + 4) v := by
  funext i
  by_cases h1 : i = 8 + 6 * w + 4
  · subst h1
    rw [up_s, comesS_o (by omega) (by omega), up_s]
  · rw [up_n h1]
    by_cases h2 : i = 1
    · subst h2; rw [comesS_1, comesS_1]
    · by_cases h3 : i < 8 + 6 * n ∨ 8 + 6 * n + 5 < i
      · rw [comesS_o h2 h3, comesS_o h2 h3, up_n h1]
      · unfold comesS
        have : i = 8 + 6 * n ∨ i = 8 + 6 * n + 1 ∨ i = 8 + 6 * n + 2 ∨ i = 8 + 6 * n + 3 ∨ i = 8 + 6 * n + 4 ∨ i = 8 + 6 * n + 5 := by omega
        rcases this with rfl | rfl | rfl | rfl | rfl | rfl <;> simp [upd]
theorem pace_eq {x : Int32} (h : okF 3 x) : miS (x + 1) 9 = clS (x + 1) (-9) 9 := by
  have h := okF3 h
  simp only [i_le] at h
  have z1 : Int32.toInt 1 = 1 := rfl
  have z9 : Int32.toInt 9 = 9 := rfl
  have z9' : Int32.toInt (-9) = -9 := rfl
  rw [z9, z9'] at h
  have e : (x + 1).toInt = x.toInt + 1 := by rw [add_I (by omega) (by omega), z1]
  unfold miS clS
  rw [if_neg (show ¬ x + 1 < -9 by rw [i_lt, e, z9']; omega)]
section CT6
variable {Ls : Nat} {xs : Nat → Int32} {d : Nat} {S : mS} {I : mI} {R : mR} {x y z : Int32} {H : mH} {p q : Nat} {a : Nat → Int32}
theorem k_S_draw (h : WF S R) (hq : isQ q) (hs : SkR S I R q a) : rn Ls xs d 175 0 [some (.inr (.inl (some q)))] [] (S, I, R) = some (some (.inl (sh8 (zS (a 0)))), (S, va_up I q (upd (I q) 10 (zS (a 0))), R)) := by
  simp only [e_S_draw_0, e_S_draw_1, e_S_draw_2, e_S_draw_5, e_S_draw_7, e_S_draw_8, e_S_draw_11, e_S_draw_12, e_S_draw_15, e_S_draw_16, e_S_draw_19, e_S_draw_21, e_S_draw_22, q_is h hq, and_self, and_true, true_and, and_false, false_and, or_true, true_or, or_false, false_or, not_true_eq_false, not_false_eq_true, if_true, if_false, ne_eq, ite_self, reduceCtorEq, i10, Decidable.not_not, Bool.and_self, Bool.and_true, Bool.true_and, hs.f10, vu_s, up_s, sh8, zS]
theorem k_S_hasWreck (h : WF S R) (hq : isQ q) (hs : SkR S I R q a) : rn Ls xs (d + 1) 100 0 [some (.inr (.inl (some q))), some (.inl x)] [] (S, I, R) = some (some (.inl (if 0 ≤ x ∧ x ≤ a 1 - 1 then 1 else 0)), (S, I, R)) := by
  simp only [e_S_hasWreck_0, e_S_hasWreck_1, e_S_hasWreck_2, e_S_hasWreck_3, e_S_hasWreck_6, e_S_hasWreck_7, e_S_hasWreck_8, e_S_hasWreck_11, q_is h hq, and_self, and_true, true_and, and_false, false_and, or_true, true_or, or_false, false_or, not_true_eq_false, not_false_eq_true, if_true, if_false, ne_eq, ite_self, reduceCtorEq, i10, Decidable.not_not, Bool.and_self, Bool.and_true, Bool.true_and, hs.f3, k_W_within, rb_i, bo_if]
theorem k_S_addWreck (h : WF S R) (hq : isQ q) (hs : SkR S I R q a) {n : Nat} (e : a 1 = nI n) (hn : n < 14) {k ht pl pc m : Int32} : ∃ I2, SkR S I2 R q (comesS a n k ht pl pc m) ∧ Fq q I I2 ∧ rn Ls xs d 96 0 [some (.inr (.inl (some q))), some (.inl k), some (.inl ht), some (.inl pl), some (.inl pc), some (.inl m), none] [] (S, I, R) = some (some (.inl 1), (S, I2, R)) := by
  have hql := hq.le
  refine ⟨_, hs.add hq e hn, ((Fq.rfl'.up (by omega) (by omega)).up (by omega) (by omega)), ?_⟩
  simp only [e_S_addWreck_0, e_S_addWreck_1, e_S_addWreck_4, e_S_addWreck_6, e_S_addWreck_9, e_S_addWreck_10, e_S_addWreck_11, e_S_addWreck_12, e_S_addWreck_15, e_S_addWreck_16, e_S_addWreck_19, e_S_addWreck_20, e_S_addWreck_22, e_S_addWreck_23, e_S_addWreck_24, e_S_addWreck_27, e_S_addWreck_28, e_S_addWreck_29, e_S_addWreck_32, e_S_addWreck_34, e_S_addWreck_35, e_S_addWreck_38, e_S_addWreck_40, e_S_addWreck_41, e_S_addWreck_44, e_S_addWreck_46, e_S_addWreck_47, e_S_addWreck_50, e_S_addWreck_52, e_S_addWreck_54, e_S_addWreck_57, e_S_addWreck_59, e_S_addWreck_61, e_S_addWreck_64, e_S_addWreck_66, e_S_addWreck_67, e_S_addWreck_70, e_S_addWreck_71, q_is h hq, and_self, and_true, true_and, and_false, false_and, or_true, true_or, or_false, false_or, not_true_eq_false, not_false_eq_true, if_true, if_false, ne_eq, ite_self, reduceCtorEq, i10, Decidable.not_not, Bool.and_self, Bool.and_true, Bool.true_and, hs.f3, e, show (14 : Int32) = nI 14 from rfl, nI_lt' (show n < 2 ^ 31 by omega) (show 14 < 2 ^ 31 by decide), hn, q_r0 h hq, q_ia1 h hq hn, nI_clamp (show n < 2 ^ 31 by omega), q_w h hq hn, q_wi h hq hn, vu_s, vu_vu, vu_n (show q + 4 + n ≠ q by omega), nI_1, bo_1]
theorem k_S_addWreck_f (h : WF S R) (hq : isQ q) (hs : SkR S I R q a) (e : a 1 = nI 14) {k ht pl pc m : Int32} : rn Ls xs d 96 0 [some (.inr (.inl (some q))), some (.inl k), some (.inl ht), some (.inl pl), some (.inl pc), some (.inl m), none] [] (S, I, R) = some (some (.inl 0), (S, I, R)) := by
  simp only [e_S_addWreck_0, e_S_addWreck_1, e_S_addWreck_4, e_S_addWreck_6, e_S_addWreck_9, e_S_addWreck_10, e_S_addWreck_11, e_S_addWreck_12, e_S_addWreck_15, e_S_addWreck_16, e_S_addWreck_19, e_S_addWreck_20, e_S_addWreck_22, e_S_addWreck_23, e_S_addWreck_24, e_S_addWreck_27, e_S_addWreck_28, e_S_addWreck_29, e_S_addWreck_32, e_S_addWreck_34, e_S_addWreck_35, e_S_addWreck_38, e_S_addWreck_40, e_S_addWreck_41, e_S_addWreck_44, e_S_addWreck_46, e_S_addWreck_47, e_S_addWreck_50, e_S_addWreck_52, e_S_addWreck_54, e_S_addWreck_57, e_S_addWreck_59, e_S_addWreck_61, e_S_addWreck_64, e_S_addWreck_66, e_S_addWreck_67, e_S_addWreck_70, e_S_addWreck_71, q_is h hq, and_self, and_true, true_and, and_false, false_and, or_true, true_or, or_false, false_or, not_true_eq_false, not_false_eq_true, if_true, if_false, ne_eq, ite_self, reduceCtorEq, i10, Decidable.not_not, Bool.and_self, Bool.and_true, Bool.true_and, hs.f3, e, show (14 : Int32) = nI 14 from rfl, nI_lt' (show 14 < 2 ^ 31 by decide) (show 14 < 2 ^ 31 by decide), Nat.lt_irrefl, bo_0]
theorem l_S_goAll (h : WF S R) (hq : isQ q) {n hr : Nat} (hn : n ≤ 14) (hh : hr < 2 ^ 30) : ∀ (j w : Nat) (I : mI) (a : Nat → Int32) (l2 : Option mV), w + j = n → SkR S I R q a → gd a → a 1 = nI n → a 2 = nI hr → ∃ I2, SkR S I2 R q (goS a w j) ∧ Fq q I I2 ∧ rn Ls xs (d + 1) 176 2 [some (.inr (.inl (some q))), some (.inl (nI w)), l2] [] (S, I, R) = some (none, (S, I2, R)) := by
  have hql := hq.le
  intro j
  induction j with
  | zero =>
    intro w I a l2 hw hs hg e1 e2
    have : w = n := by omega
    subst this
    refine ⟨I, hs, Fq.rfl', ?_⟩
    rw [e_S_goAll_2]
    simp only [e_S_goAll_0, e_S_goAll_1, e_S_goAll_3, e_S_goAll_4, e_S_goAll_7, e_S_goAll_10, e_S_goAll_11, e_S_goAll_14, e_S_goAll_15, e_S_goAll_16, e_S_goAll_17, e_S_goAll_18, e_S_goAll_21, e_S_goAll_24, e_S_goAll_25, e_S_goAll_26, e_S_goAll_29, e_S_goAll_30, e_S_goAll_31, e_S_goAll_34, e_S_goAll_37, e_S_goAll_38, e_S_goAll_40, e_S_goAll_43, e_S_goAll_46, e_S_goAll_49, e_S_goAll_52, q_is h hq, if_true, hs.f3, e1, nI_le' (show w < 2 ^ 31 by omega) (show w < 2 ^ 31 by omega), Nat.le_refl]
  | succ j ih =>
    intro w I a l2 hw hs hg e1 e2
    have cn : cW (a 1) = n := by rw [e1, cW, nI_clamp (by omega)]
    have hw14 : w < 14 := by omega
    have wi := q_wi h hq hw14
    have w0 : I (q + 4 + w) 0 = a (8 + 6 * w) := hs.2.1 w 0 (by omega) (by omega)
    have w2 : I (q + 4 + w) 2 = a (8 + 6 * w + 2) := hs.2.1 w 2 (by omega) (by omega)
    have w3 : I (q + 4 + w) 3 = a (8 + 6 * w + 3) := hs.2.1 w 3 (by omega) (by omega)
    have w5 : I (q + 4 + w) 5 = a (8 + 6 * w + 5) := hs.2.1 w 5 (by omega) (by omega)
    have hg2 : gd (goS1 a w) := gd_go1 hg (by omega)
    by_cases hu : a (8 + 6 * w + 5) = 1
    · have g1 : goS1 a w = upd a (8 + 6 * w + 2) (rdS (a (8 + 6 * w + 2) + goesS a w)) := by unfold goS1; rw [if_pos hu]
      obtain ⟨I2, s2, f2, r2⟩ := ih (w + 1) (va_up I (q + 4 + w) (upd (I (q + 4 + w)) 2 (rdS (a (8 + 6 * w + 2) + goesS a w)))) (goS1 a w) (some (.inr (.inl (some (q + 4 + w))))) (by omega) (by rw [g1]; exact hs.setW hq hw14 (by decide)) hg2 (by rw [go1_o (by decide)]; exact e1) (by rw [go1_o (by decide)]; exact e2)
      refine ⟨I2, s2, (Fq.rfl'.up (by omega) (by omega)).trans' f2, ?_⟩
      rw [e_S_goAll_2, ← r2]
      simp only [e_S_goAll_0, e_S_goAll_1, e_S_goAll_3, e_S_goAll_4, e_S_goAll_7, e_S_goAll_10, e_S_goAll_11, e_S_goAll_14, e_S_goAll_15, e_S_goAll_16, e_S_goAll_17, e_S_goAll_18, e_S_goAll_21, e_S_goAll_24, e_S_goAll_25, e_S_goAll_26, e_S_goAll_29, e_S_goAll_30, e_S_goAll_31, e_S_goAll_34, e_S_goAll_37, e_S_goAll_38, e_S_goAll_40, e_S_goAll_43, e_S_goAll_46, e_S_goAll_49, e_S_goAll_52, q_is h hq, and_self, and_true, true_and, and_false, false_and, or_true, true_or, or_false, false_or, not_true_eq_false, not_false_eq_true, if_true, if_false, ne_eq, ite_self, reduceCtorEq, i10, Decidable.not_not, Bool.and_self, Bool.and_true, Bool.true_and, hs.f3, e1, nI_le' (show n < 2 ^ 31 by omega) (show w < 2 ^ 31 by omega), show ¬ n ≤ w by omega, q_r0 h hq, q_ia1 h hq hw14, nI_clamp (show w < 2 ^ 31 by omega), q_w h hq hw14, wi, w5, hu, show ¬ (1 : Int32) = 0 by decide, w2, hs.f9, k_K_goesAt wi w0 w3 e2 hh, rb_i, k_J_floorMod, nI_1]
    · have g1 : goS1 a w = a := by unfold goS1; rw [if_neg hu, upd_id]
      have hu0 : a (8 + 6 * w + 5) = 0 := by rcases okF5 (hg.2 w 5 (by omega) (by decide)) with e | e; exact e; exact absurd e hu
      obtain ⟨I2, s2, f2, r2⟩ := ih (w + 1) I a (some (.inr (.inl (some (q + 4 + w))))) (by omega) hs hg e1 e2
      refine ⟨I2, by unfold goS; rw [g1]; exact s2, f2, ?_⟩
      rw [e_S_goAll_2, ← r2]
      simp only [e_S_goAll_0, e_S_goAll_1, e_S_goAll_3, e_S_goAll_4, e_S_goAll_7, e_S_goAll_10, e_S_goAll_11, e_S_goAll_14, e_S_goAll_15, e_S_goAll_16, e_S_goAll_17, e_S_goAll_18, e_S_goAll_21, e_S_goAll_24, e_S_goAll_25, e_S_goAll_26, e_S_goAll_29, e_S_goAll_30, e_S_goAll_31, e_S_goAll_34, e_S_goAll_37, e_S_goAll_38, e_S_goAll_40, e_S_goAll_43, e_S_goAll_46, e_S_goAll_49, e_S_goAll_52, q_is h hq, and_self, and_true, true_and, and_false, false_and, or_true, true_or, or_false, false_or, not_true_eq_false, not_false_eq_true, if_true, if_false, ne_eq, ite_self, reduceCtorEq, i10, Decidable.not_not, Bool.and_self, Bool.and_true, Bool.true_and, hs.f3, e1, nI_le' (show n < 2 ^ 31 by omega) (show w < 2 ^ 31 by omega), show ¬ n ≤ w by omega, q_r0 h hq, q_ia1 h hq hw14, nI_clamp (show w < 2 ^ 31 by omega), q_w h hq hw14, wi, w5, hu0, nI_1]
theorem k_S_goAll (h : WF S R) (hq : isQ q) {n hr : Nat} (hn : n ≤ 14) (hh : hr < 2 ^ 30) (hs : SkR S I R q a) (hg : gd a) (e1 : a 1 = nI n) (e2 : a 2 = nI hr) : ∃ I2, SkR S I2 R q (goS a 0 n) ∧ Fq q I I2 ∧ rn Ls xs (d + 1) 176 0 [some (.inr (.inl (some q))), none, none] [] (S, I, R) = some (none, (S, I2, R)) := by
  obtain ⟨I2, s2, f2, r2⟩ := l_S_goAll (Ls := Ls) (xs := xs) (d := d) h hq hn hh n 0 I a none (by omega) hs hg e1 e2
  have r2 : rn Ls xs (d + 1) 176 2 [some (.inr (.inl (some q))), some (.inl 0), none] [] (S, I, R) = _ := r2
  exact ⟨I2, s2, f2, by simp only [e_S_goAll_0, e_S_goAll_1, r2]⟩
theorem k_S_breakUp (h : WF S R) (hq : isQ q) {n w : Nat} (hn : n ≤ 14) (hw : w < n) (hs : SkR S I R q a) (hg : gd a) (e1 : a 1 = nI n) : ∃ I2, SkR S I2 R q (breaksS a n w) ∧ Fq q I I2 ∧ rn Ls xs (d + 1) 208 0 [some (.inr (.inl (some q))), some (.inr (.inl (some (q + 4 + w)))), none] [] (S, I, R) = some (none, (S, I2, R)) := by
  have hql := hq.le
  have cn : cW (a 1) = n := by rw [e1, cW, nI_clamp (by omega)]
  have hw14 : w < 14 := by omega
  have wi := q_wi h hq hw14
  have w1 : I (q + 4 + w) 1 = a (8 + 6 * w + 1) := hs.2.1 w 1 (by omega) (by omega)
  have w2 : I (q + 4 + w) 2 = a (8 + 6 * w + 2) := hs.2.1 w 2 (by omega) (by omega)
  have w3 : I (q + 4 + w) 3 = a (8 + 6 * w + 3) := hs.2.1 w 3 (by omega) (by omega)
  have w4 : I (q + 4 + w) 4 = a (8 + 6 * w + 4) := hs.2.1 w 4 (by omega) (by omega)
  have s4 := hs.set6 hq (x := a 4 + 1)
  have f4 : Fq q I (va_up I q (upd (I q) 6 (a 4 + 1))) := Fq.rfl'.up (by omega) (by omega)
  have nq : q + 4 + w ≠ q := by omega
  by_cases hm : a (8 + 6 * w + 4) = 1
  · refine ⟨_, ?_, f4.up (b := q + 4 + w) (f := upd (I (q + 4 + w)) 5 0) (by omega) (by omega), ?_⟩
    · have := s4.setW hq hw14 (show 5 < 6 by decide) (x := 0)
      rw [vu_n nq] at this
      unfold breaksS
      rw [if_pos hm]
      exact this
    · simp only [e_S_breakUp_0, e_S_breakUp_1, e_S_breakUp_2, e_S_breakUp_5, e_S_breakUp_6, e_S_breakUp_7, e_S_breakUp_10, e_S_breakUp_11, e_S_breakUp_14, e_S_breakUp_15, e_S_breakUp_18, e_S_breakUp_19, e_S_breakUp_20, e_S_breakUp_23, q_is h hq, and_self, and_true, true_and, and_false, false_and, or_true, true_or, or_false, false_or, not_true_eq_false, not_false_eq_true, if_true, if_false, ne_eq, ite_self, reduceCtorEq, i10, Decidable.not_not, Bool.and_self, Bool.and_true, Bool.true_and, hs.f6, wi, vu_n nq, w4, hm, bo_0]
  · have hc := half_ok (hg.2 w 4 (by omega) (by decide)) hm
    have pe := pace_eq (hg.2 w 3 (by omega) (by decide))
    by_cases h14 : n < 14
    · obtain ⟨I2, s2, f2, r2⟩ := k_S_addWreck (Ls := Ls) (xs := xs) (d := d) h hq s4 (by rw [up_n (by decide)]; exact e1) h14 (k := 2) (ht := a (8 + 6 * w + 1)) (pl := a (8 + 6 * w + 2)) (pc := clS (a (8 + 6 * w + 3) + 1) (-9) 9) (m := a (8 + 6 * w + 4) - a (8 + 6 * w + 4) / 2)
      refine ⟨_, ?_, (f4.trans' f2).up (b := q + 4 + w) (f := upd (I2 (q + 4 + w)) 4 (a (8 + 6 * w + 4) / 2)) (by omega) (by omega), ?_⟩
      · have := s2.setW hq hw14 (show 4 < 6 by decide) (x := a (8 + 6 * w + 4) / 2)
        unfold breaksS
        rw [if_neg hm, if_pos h14, comes_upd hw]
        exact this
      · simp only [e_S_breakUp_0, e_S_breakUp_1, e_S_breakUp_2, e_S_breakUp_5, e_S_breakUp_6, e_S_breakUp_7, e_S_breakUp_10, e_S_breakUp_11, e_S_breakUp_14, e_S_breakUp_15, e_S_breakUp_18, e_S_breakUp_19, e_S_breakUp_20, e_S_breakUp_23, e_S_breakUp_24, e_S_breakUp_25, e_S_breakUp_28, e_S_breakUp_29, e_S_breakUp_30, e_S_breakUp_31, e_S_breakUp_32, e_S_breakUp_33, e_S_breakUp_34, e_S_breakUp_37, e_S_breakUp_38, e_S_breakUp_41, e_S_breakUp_42, e_S_breakUp_45, e_S_breakUp_46, e_S_breakUp_47, e_S_breakUp_49, e_S_breakUp_52, e_S_breakUp_53, e_S_breakUp_56, e_S_breakUp_57, e_S_breakUp_58, e_S_breakUp_61, e_S_breakUp_62, e_S_breakUp_63, e_S_breakUp_64, e_S_breakUp_67, q_is h hq, and_self, and_true, true_and, and_false, false_and, or_true, true_or, or_false, false_or, not_true_eq_false, not_false_eq_true, if_true, if_false, ne_eq, ite_self, reduceCtorEq, i10, Decidable.not_not, Bool.and_self, Bool.and_true, Bool.true_and, hs.f6, wi, vu_n nq, w4, hm, show ¬ (2 : Int32) = 0 by decide, w1, w2, w3, k_J_min, pe, rb_i, r2]
    · have : n = 14 := by omega
      subst this
      have r2 := k_S_addWreck_f (Ls := Ls) (xs := xs) (d := d) h hq s4 (by rw [up_n (by decide)]; exact e1) (k := 2) (ht := a (8 + 6 * w + 1)) (pl := a (8 + 6 * w + 2)) (pc := clS (a (8 + 6 * w + 3) + 1) (-9) 9) (m := a (8 + 6 * w + 4) - a (8 + 6 * w + 4) / 2)
      refine ⟨_, ?_, f4.up (b := q + 4 + w) (f := upd (I (q + 4 + w)) 4 (a (8 + 6 * w + 4) / 2)) (by omega) (by omega), ?_⟩
      · have := s4.setW hq hw14 (show 4 < 6 by decide) (x := a (8 + 6 * w + 4) / 2)
        rw [vu_n nq] at this
        unfold breaksS
        rw [if_neg hm, if_neg h14]
        exact this
      · simp only [e_S_breakUp_0, e_S_breakUp_1, e_S_breakUp_2, e_S_breakUp_5, e_S_breakUp_6, e_S_breakUp_7, e_S_breakUp_10, e_S_breakUp_11, e_S_breakUp_14, e_S_breakUp_15, e_S_breakUp_18, e_S_breakUp_19, e_S_breakUp_20, e_S_breakUp_23, e_S_breakUp_24, e_S_breakUp_25, e_S_breakUp_28, e_S_breakUp_29, e_S_breakUp_30, e_S_breakUp_31, e_S_breakUp_32, e_S_breakUp_33, e_S_breakUp_34, e_S_breakUp_37, e_S_breakUp_38, e_S_breakUp_41, e_S_breakUp_42, e_S_breakUp_45, e_S_breakUp_46, e_S_breakUp_47, e_S_breakUp_49, e_S_breakUp_52, e_S_breakUp_53, e_S_breakUp_56, e_S_breakUp_57, e_S_breakUp_58, e_S_breakUp_61, e_S_breakUp_62, e_S_breakUp_63, e_S_breakUp_64, e_S_breakUp_67, q_is h hq, and_self, and_true, true_and, and_false, false_and, or_true, true_or, or_false, false_or, not_true_eq_false, not_false_eq_true, if_true, if_false, ne_eq, ite_self, reduceCtorEq, i10, Decidable.not_not, Bool.and_self, Bool.and_true, Bool.true_and, hs.f6, wi, vu_n nq, w4, hm, show ¬ (2 : Int32) = 0 by decide, w1, w2, w3, k_J_min, pe, rb_i, r2]
end CT6

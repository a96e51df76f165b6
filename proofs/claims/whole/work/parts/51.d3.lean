/-! THE CLASS: sheets, seen, the told numbers, counts of bits -/
theorem in_iff {k n : Nat} (hk : k < 2 ^ 31) (hn : n < 2 ^ 31) : (0 ≤ nI k ∧ nI k ≤ nI n - 1) = (k < n) := by
  apply propext
  have z0 : Int32.toInt 0 = 0 := rfl
  rw [i_le, i_le, z0, show nI n - 1 = nI n - nI 1 from rfl, sub_toInt hn (by decide), nI_toInt hk]
  omega
section CTE
variable {Ls : Nat} {xs : Nat → Int32} {d : Nat} {S : mS} {I I2 I3 : mI} {R R2 R3 : mR} {x y z : Int32} {H : mH} {p q r : Nat} {a : Nat → Int32}
theorem k_H_isMissing (hp : h_is S p 2 3 = true) : rn Ls xs d 144 0 [some (.inr (.inl (some p)))] [] (S, I, R) = some (some (.inl (if I p 1 = -1 then 1 else 0)), (S, I, R)) := by
  by_cases h0 : I p 1 = -1
  · simp only [e_H_isMissing_0, e_H_isMissing_1, e_H_isMissing_4, e_H_isMissing_5, e_H_isMissing_8, e_H_isMissing_9, e_H_isMissing_12, e_H_isMissing_13, hp, and_self, and_true, true_and, and_false, false_and, or_true, true_or, or_false, false_or, not_true_eq_false, not_false_eq_true, if_true, if_false, ne_eq, ite_self, reduceCtorEq, i10, Decidable.not_not, Bool.and_self, Bool.and_true, Bool.true_and, h0, bo_1]
  · simp only [e_H_isMissing_0, e_H_isMissing_1, e_H_isMissing_4, e_H_isMissing_5, e_H_isMissing_8, e_H_isMissing_9, e_H_isMissing_12, e_H_isMissing_13, hp, and_self, and_true, true_and, and_false, false_and, or_true, true_or, or_false, false_or, not_true_eq_false, not_false_eq_true, if_true, if_false, ne_eq, ite_self, reduceCtorEq, i10, Decidable.not_not, Bool.and_self, Bool.and_true, Bool.true_and, h0, bo_0]
theorem k_H_hasPlace (hp : h_is S p 2 3 = true) : rn Ls xs (d + 1) 161 0 [some (.inr (.inl (some p))), some (.inl x)] [] (S, I, R) = some (some (.inl (if 0 ≤ x ∧ x ≤ I p 2 - 1 then 1 else 0)), (S, I, R)) := by
  simp only [e_H_hasPlace_0, e_H_hasPlace_1, e_H_hasPlace_2, e_H_hasPlace_3, e_H_hasPlace_6, e_H_hasPlace_7, e_H_hasPlace_8, e_H_hasPlace_11, hp, and_self, and_true, true_and, and_false, false_and, or_true, true_or, or_false, false_or, not_true_eq_false, not_false_eq_true, if_true, if_false, ne_eq, ite_self, reduceCtorEq, i10, Decidable.not_not, Bool.and_self, Bool.and_true, Bool.true_and, k_W_within, rb_i, bo_if]
theorem k_H_hasNumber (hp : h_is S p 2 3 = true) (hr : R p 0 = .inl (some r)) (ia : ∀ k, k < 24 → h_ia S r 0 (nI k) = true) {n k : Nat} (hn : n ≤ 24) (e : I p 2 = nI n) (hk : k < 2 ^ 31) : rn Ls xs (d + 2) 162 0 [some (.inr (.inl (some p))), some (.inl (nI k))] [] (S, I, R) = some (some (.inl (if k < n ∧ I r k ≠ NN then 1 else 0)), (S, I, R)) := by
  by_cases h1 : k < n
  · by_cases h2 : I r k = NN
    · simp only [e_H_hasNumber_0, e_H_hasNumber_1, e_H_hasNumber_2, e_H_hasNumber_5, e_H_hasNumber_8, e_H_hasNumber_9, e_H_hasNumber_12, e_H_hasNumber_13, e_H_hasNumber_14, e_H_hasNumber_16, e_H_hasNumber_19, e_H_hasNumber_20, e_H_hasNumber_23, e_H_hasNumber_24, hp, hr, and_self, and_true, true_and, and_false, false_and, or_true, true_or, or_false, false_or, not_true_eq_false, not_false_eq_true, if_true, if_false, ne_eq, ite_self, reduceCtorEq, i10, Decidable.not_not, Bool.and_self, Bool.and_true, Bool.true_and, k_H_hasPlace hp, rb_i, e, in_iff hk (show n < 2 ^ 31 by omega), h1, show ¬ (1 : Int32) = 0 by decide, ia k (by omega), nI_clamp hk, h2, bo_0]
    · simp only [e_H_hasNumber_0, e_H_hasNumber_1, e_H_hasNumber_2, e_H_hasNumber_5, e_H_hasNumber_8, e_H_hasNumber_9, e_H_hasNumber_12, e_H_hasNumber_13, e_H_hasNumber_14, e_H_hasNumber_16, e_H_hasNumber_19, e_H_hasNumber_20, e_H_hasNumber_23, e_H_hasNumber_24, hp, hr, and_self, and_true, true_and, and_false, false_and, or_true, true_or, or_false, false_or, not_true_eq_false, not_false_eq_true, if_true, if_false, ne_eq, ite_self, reduceCtorEq, i10, Decidable.not_not, Bool.and_self, Bool.and_true, Bool.true_and, k_H_hasPlace hp, rb_i, e, in_iff hk (show n < 2 ^ 31 by omega), h1, show ¬ (1 : Int32) = 0 by decide, ia k (by omega), nI_clamp hk, h2, bo_1]
  · simp only [e_H_hasNumber_0, e_H_hasNumber_1, e_H_hasNumber_2, e_H_hasNumber_5, e_H_hasNumber_8, e_H_hasNumber_9, e_H_hasNumber_12, e_H_hasNumber_13, e_H_hasNumber_14, e_H_hasNumber_16, e_H_hasNumber_19, e_H_hasNumber_20, e_H_hasNumber_23, e_H_hasNumber_24, hp, hr, and_self, and_true, true_and, and_false, false_and, or_true, true_or, or_false, false_or, not_true_eq_false, not_false_eq_true, if_true, if_false, ne_eq, ite_self, reduceCtorEq, i10, Decidable.not_not, Bool.and_self, Bool.and_true, Bool.true_and, k_H_hasPlace hp, rb_i, e, in_iff hk (show n < 2 ^ 31 by omega), h1, bo_0]
theorem l_F_seen1 (h : WF S R) (hq : isP q) {b : Nat → Int32} (hg : gd b) {n m k : Nat} (hn : n ≤ 14) (hnb : n ≤ cW (b 1)) {v : Int32} (hp : h_is S p 2 3 = true) (hr : R p 0 = .inl (some r)) (r1 : r < 37 ∨ 58 ≤ r) (p1 : p < 37 ∨ 58 ≤ p) (ia : ∀ k, k < 24 → h_ia S r 0 (nI k) = true) (hm : m ≤ 24) (hk : k < m) (hv : v ≠ NN) : ∀ (j w : Nat) (I : mI), w + j = n → I q 3 = nI n → I p 2 = nI m → I r k = v → SkR S I R 38 b → rn Ls xs (d + 3) 145 41 [some (.inr (.inl (some 37))), some (.inr (.inl (some q))), some (.inr (.inl (some p))), some (.inl (nI k)), some (.inl (nI w))] [] (S, I, R) = rn Ls xs (d + 3) 145 101 [some (.inr (.inl (some 37))), some (.inr (.inl (some q))), some (.inr (.inl (some p))), some (.inl (nI k)), some (.inl (nI n))] [] (S, va_up I 57 (fun i => if w ≤ i ∧ i < n then I 57 i + apS (rdS v) (b (8 + 6 * i + 2)) else I 57 i), R) := by
  have hql : q < 37 := by rcases hq with rfl | rfl <;> omega
  obtain ⟨bn, hbn, -, cbn⟩ := hg.n
  intro j
  induction j with
  | zero =>
    intro w I hw e3 em ev hs
    have : w = n := by omega
    subst this
    have e : (fun i => if w ≤ i ∧ i < w then I 57 i + apS (rdS v) (b (8 + 6 * i + 2)) else I 57 i) = I 57 := by funext i; rw [if_neg (by omega)]
    rw [e_F_chooseSeen_41, e, vu_id]
    simp only [e_F_chooseSeen_43, e_F_chooseSeen_44, e_F_chooseSeen_47, q_is h hq.q, e3, nI_le' (show w < 2 ^ 31 by omega) (show w < 2 ^ 31 by omega), Nat.le_refl, if_true]
  | succ j ih =>
    intro w I hw e3 em ev hs
    have hw14 : w < 14 := by omega
    have w2 : I (38 + 4 + w) 2 = b (8 + 6 * w + 2) := hs.2.1 w 2 (by omega) (by omega)
    have ap : wyS (b (8 + 6 * w + 2)) (rdS v) = apS (rdS v) (b (8 + 6 * w + 2)) := ap_sy (hg.2 w 2 (by omega) (by decide)) (rdS_in v)
    have hnm := k_H_hasNumber (Ls := Ls) (xs := xs) (d := d) hp hr ia hm em (show k < 2 ^ 31 by omega)
    rw [ev, if_pos ⟨hk, hv⟩] at hnm
    have ih1 := ih (w + 1) (va_up I 57 (upd (I 57) w (I 57 w + apS (rdS v) (b (8 + 6 * w + 2))))) (by omega) (by rw [vu_n (by omega)]; exact e3) (by rw [vu_n (by omega)]; exact em) (by rw [vu_n (by omega)]; exact ev) (hs.o38 (by omega) (Or.inr (Or.inr rfl)))
    have e : (fun i => if w + 1 ≤ i ∧ i < n then va_up I 57 (upd (I 57) w (I 57 w + apS (rdS v) (b (8 + 6 * w + 2)))) 57 i + apS (rdS v) (b (8 + 6 * i + 2)) else va_up I 57 (upd (I 57) w (I 57 w + apS (rdS v) (b (8 + 6 * w + 2)))) 57 i) = fun i => if w ≤ i ∧ i < n then I 57 i + apS (rdS v) (b (8 + 6 * i + 2)) else I 57 i := by
      funext i
      rw [vu_s]
      by_cases h1 : i = w
      · subst h1
        rw [if_neg (by omega), up_s, if_pos (by omega)]
      · rw [up_n h1]
        by_cases h2 : w + 1 ≤ i ∧ i < n
        · rw [if_pos h2, if_pos (by omega)]
        · rw [if_neg h2, if_neg (by omega)]
    rw [e, vu_vu] at ih1
    rw [e_F_chooseSeen_41, ← ih1]
    simp only [e_F_chooseSeen_43, e_F_chooseSeen_44, e_F_chooseSeen_47, e_F_chooseSeen_50, e_F_chooseSeen_51, e_F_chooseSeen_52, e_F_chooseSeen_55, e_F_chooseSeen_58, e_F_chooseSeen_59, e_F_chooseSeen_62, e_F_chooseSeen_64, e_F_chooseSeen_65, e_F_chooseSeen_66, e_F_chooseSeen_67, e_F_chooseSeen_70, e_F_chooseSeen_73, e_F_chooseSeen_75, e_F_chooseSeen_76, e_F_chooseSeen_79, e_F_chooseSeen_80, e_F_chooseSeen_83, e_F_chooseSeen_84, e_F_chooseSeen_85, e_F_chooseSeen_87, e_F_chooseSeen_90, e_F_chooseSeen_93, e_F_chooseSeen_94, e_F_chooseSeen_95, e_F_chooseSeen_98, q_is h hq.q, e3, nI_le' (show n < 2 ^ 31 by omega) (show w < 2 ^ 31 by omega), show ¬ n ≤ w by omega, and_self, and_true, true_and, and_false, false_and, or_true, true_or, or_false, false_or, not_true_eq_false, not_false_eq_true, if_true, if_false, ne_eq, ite_self, reduceCtorEq, i10, Decidable.not_not, Bool.and_self, Bool.and_true, Bool.true_and, hp, hr, hnm, rb_i, show ¬ (1 : Int32) = 0 by decide, is_37 h, rf_37_2 h, rf_37_0 h, is_38 h, ia_57 h (show w < 30 by omega), nI_clamp (show w < 2 ^ 31 by omega), nI_clamp (show k < 2 ^ 31 by omega), q_r0 h q38, q_ia1 h q38 hw14, q_w h q38 hw14, q_wi h q38 hw14, w2, ia k (show k < 24 by omega), ev, k_J_floorMod, k_W_wayRound, ap, nI_1]
theorem l_F_seen2 (h : WF S R) (hq : isP q) (hg : gd a) {t n m bb : Nat} {c : Nat → Int32} (ht : t < 2 ^ 29) (e2 : a 2 = nI t) (hn : n ≤ 14) (e1 : a 1 = nI n) (hp : h_is S p 2 3 = true) (hr : R p 0 = .inl (some r)) (r1 : r < 37 ∨ 58 ≤ r) (p1 : p < 37 ∨ 58 ≤ p) (ia : ∀ k, k < 24 → h_ia S r 0 (nI k) = true) (hm : m ≤ 24) : ∀ (j k : Nat) (I : mI) (l4 : Option mV), k + j = m → I q 3 = nI n → I p 2 = nI m → (∀ k, k < 24 → I r k = c (24 * bb + k)) → SkR S I R 38 (hrsS a (k - 1)) → (∀ w, w < n → I 57 w = dfS a c bb k w) → ∃ I2 l42, Ff I I2 R R ∧ (∀ w, w < n → I2 57 w = dfS a c bb m w) ∧ rn Ls xs (d + 5) 145 18 [some (.inr (.inl (some 37))), some (.inr (.inl (some q))), some (.inr (.inl (some p))), some (.inl (nI k)), l4] [] (S, I, R) = rn Ls xs (d + 5) 145 107 [some (.inr (.inl (some 37))), some (.inr (.inl (some q))), some (.inr (.inl (some p))), some (.inl (nI m)), l42] [] (S, I2, R) := by
  have hql : q < 37 := by rcases hq with rfl | rfl <;> omega
  intro j
  induction j with
  | zero =>
    intro k I l4 hk e3 em ec hs hd
    have : k = m := by omega
    subst this
    refine ⟨I, l4, Ff.rfl', hd, ?_⟩
    rw [e_F_chooseSeen_18]
    simp only [e_F_chooseSeen_19, e_F_chooseSeen_20, e_F_chooseSeen_23, hp, em, nI_le' (show k < 2 ^ 31 by omega) (show k < 2 ^ 31 by omega), Nat.le_refl, if_true]
  | succ j ih =>
    intro k I l4 hk e3 em ec hs hd
    have st : ∃ I3, Ff I I3 R R ∧ SkR S I3 R 38 (hrsS a k) ∧ I3 57 = I 57 ∧ rn Ls xs (d + 5) 145 18 [some (.inr (.inl (some 37))), some (.inr (.inl (some q))), some (.inr (.inl (some p))), some (.inl (nI k)), l4] [] (S, I, R) = rn Ls xs (d + 5) 145 41 [some (.inr (.inl (some 37))), some (.inr (.inl (some q))), some (.inr (.inl (some p))), some (.inl (nI k)), some (.inl 0)] [] (S, I3, R) := by
      by_cases h0 : k = 0
      · subst h0
        refine ⟨I, Ff.rfl', hs, rfl, ?_⟩
        rw [e_F_chooseSeen_18]
        simp only [e_F_chooseSeen_19, e_F_chooseSeen_20, e_F_chooseSeen_23, e_F_chooseSeen_26, e_F_chooseSeen_27, e_F_chooseSeen_30, e_F_chooseSeen_31, e_F_chooseSeen_34, e_F_chooseSeen_35, e_F_chooseSeen_38, e_F_chooseSeen_39, hp, em, nI_le' (show m < 2 ^ 31 by omega) (show 0 < 2 ^ 31 by omega), show ¬ m ≤ 0 by omega, and_self, and_true, true_and, and_false, false_and, or_true, true_or, or_false, false_or, not_true_eq_false, not_false_eq_true, if_true, if_false, ne_eq, ite_self, reduceCtorEq, i10, Decidable.not_not, Bool.and_self, Bool.and_true, Bool.true_and, show nI 0 ≤ 0 from (by decide)]
      · obtain ⟨I3, s3, f3, r3⟩ := k_S_passHours (Ls := Ls) (xs := xs) (d := d) (n := 1) h q38 (show t + (k - 1) + 1 < 2 ^ 30 by omega) hs (gd_hrs hg _) (hrs_2 hg e2 (k - 1))
        have s3 : SkR S I3 R 38 (hrsS a (k - 1 + 1)) := s3
        rw [show k - 1 + 1 = k by omega] at s3
        have r3 : rn Ls xs (d + 4) 119 0 [some (.inr (.inl (some 38))), some (.inl 1), none] [] (S, I, R) = _ := r3
        refine ⟨I3, f3.ff, s3, f3 57 (by omega), ?_⟩
        rw [e_F_chooseSeen_18]
        simp only [e_F_chooseSeen_19, e_F_chooseSeen_20, e_F_chooseSeen_23, e_F_chooseSeen_26, e_F_chooseSeen_27, e_F_chooseSeen_30, e_F_chooseSeen_31, e_F_chooseSeen_34, e_F_chooseSeen_35, e_F_chooseSeen_38, e_F_chooseSeen_39, hp, em, nI_le' (show m < 2 ^ 31 by omega) (show k < 2 ^ 31 by omega), show ¬ m ≤ k by omega, and_self, and_true, true_and, and_false, false_and, or_true, true_or, or_false, false_or, not_true_eq_false, not_false_eq_true, if_true, if_false, ne_eq, ite_self, reduceCtorEq, i10, Decidable.not_not, Bool.and_self, Bool.and_true, Bool.true_and, nI_nle (show 0 < k by omega) (show k < 2 ^ 31 by omega), is_37 h, rf_37_0 h, is_38 h, r3, rb_v]
    obtain ⟨I3, f3, s3, e57, r3⟩ := st
    obtain ⟨cc, c1, c2, c3⟩ := hrs_1 hg e1 hn k
    have ccW : cW (hrsS a k 1) = cc := by rw [c3, cW, nI_clamp (by omega)]
    have e3' : I3 q 3 = nI n := by rw [f3.1 q (by omega)]; exact e3
    have em' : I3 p 2 = nI m := by rw [f3.1 p p1]; exact em
    have ec' : ∀ k, k < 24 → I3 r k = c (24 * bb + k) := fun k hk => by rw [f3.1 r r1]; exact ec k hk
    have st2 : ∃ I4 l4', Ff I3 I4 R R ∧ SkR S I4 R 38 (hrsS a k) ∧ (∀ w, w < n → I4 57 w = dfS a c bb (k + 1) w) ∧ rn Ls xs (d + 5) 145 41 [some (.inr (.inl (some 37))), some (.inr (.inl (some q))), some (.inr (.inl (some p))), some (.inl (nI k)), some (.inl 0)] [] (S, I3, R) = rn Ls xs (d + 5) 145 101 [some (.inr (.inl (some 37))), some (.inr (.inl (some q))), some (.inr (.inl (some p))), some (.inl (nI k)), l4'] [] (S, I4, R) := by
      by_cases hv : c (24 * bb + k) = NN
      · refine ⟨I3, some (.inl 0), Ff.rfl', s3, fun w hw => ?_, ?_⟩
        · rw [e57, hd w hw, dfS, if_pos hv, Int32.add_zero]
        · have hnm := k_H_hasNumber (Ls := Ls) (xs := xs) (d := d + 2) hp hr ia hm em' (show k < 2 ^ 31 by omega)
          rw [ec' k (by omega), if_neg (fun q => q.2 hv)] at hnm
          rw [e_F_chooseSeen_41]
          by_cases h0 : n = 0
          · simp only [e_F_chooseSeen_43, e_F_chooseSeen_44, e_F_chooseSeen_47, q_is h hq.q, e3', h0, show nI 0 ≤ 0 from (by decide), if_true]
          · simp only [e_F_chooseSeen_43, e_F_chooseSeen_44, e_F_chooseSeen_47, e_F_chooseSeen_50, e_F_chooseSeen_51, e_F_chooseSeen_52, e_F_chooseSeen_55, q_is h hq.q, e3', nI_nle (show 0 < n by omega) (show n < 2 ^ 31 by omega), and_self, and_true, true_and, and_false, false_and, or_true, true_or, or_false, false_or, not_true_eq_false, not_false_eq_true, if_true, if_false, ne_eq, ite_self, reduceCtorEq, i10, Decidable.not_not, Bool.and_self, Bool.and_true, Bool.true_and, hp, hnm, rb_i]
      · have l := l_F_seen1 (Ls := Ls) (xs := xs) (d := d + 2) h hq (gd_hrs hg k) (n := n) (m := m) (k := k) hn (by omega) hp hr r1 p1 ia hm (by omega) hv n 0 I3 (by omega) e3' em' (ec' k (by omega)) s3
        have l : rn Ls xs (d + 5) 145 41 [some (.inr (.inl (some 37))), some (.inr (.inl (some q))), some (.inr (.inl (some p))), some (.inl (nI k)), some (.inl 0)] [] (S, I3, R) = _ := l
        refine ⟨_, _, Ff.rfl'.up (by decide) (by decide), s3.o38 (by omega) (Or.inr (Or.inr rfl)), fun w hw => ?_, l⟩
        rw [vu_s]
        show (if 0 ≤ w ∧ w < n then _ else _) = _
        rw [if_pos ⟨by omega, hw⟩, e57, hd w hw, dfS, if_neg hv]
    obtain ⟨I4, l4', f4, s4, d4, r4⟩ := st2
    have f34 := f3.trans' f4
    obtain ⟨I6, l42, f6, d6, r6⟩ := ih (k + 1) I4 l4' (by omega) (by rw [f34.1 q (by omega)]; exact e3) (by rw [f34.1 p p1]; exact em) (fun k hk => by rw [f34.1 r r1]; exact ec k hk) s4 d4
    refine ⟨I6, l42, f34.trans' f6, d6, ?_⟩
    rw [r3, r4, ← r6]
    simp only [e_F_chooseSeen_101, e_F_chooseSeen_104, nI_1]
def lsS (f : Nat → Int32) : Nat → Nat → Option (Nat × Int32) → Option (Nat × Int32)
  | _, 0, o => o
  | i, j + 1, o => lsS f (i + 1) j (chS i (f i) o)
theorem ls_mn (f : Nat → Int32) : ∀ (j p b : Nat), lsS f p j (some (b, f b)) = some (mnS f b p j, f (mnS f b p j))
  | 0, _, _ => rfl
  | j + 1, p, b => by
    show lsS f (p + 1) j (chS p (f p) (some (b, f b))) = _
    unfold mnS
    by_cases h : f p < f b
    · simp only [chS, h, if_true]; exact ls_mn f j (p + 1) p
    · simp only [chS, h, if_false]; exact ls_mn f j (p + 1) b
theorem l_F_seen3 (h : WF S R) (hq : isP q) {f : Nat → Int32} {n : Nat} (hn : n ≤ 14) {l2 l4 : Option mV} : ∀ (j w : Nat) (I : mI) (o : Option (Nat × Int32)), w + j = n → I q 3 = nI n → (∀ w, w < n → I 57 w = f w) → chR nI I o → ∃ I2, (∀ c, c ≠ 37 → I2 c = I c) ∧ chR nI I2 (lsS f w j o) ∧ rn Ls xs (d + 1) 145 113 [some (.inr (.inl (some 37))), some (.inr (.inl (some q))), l2, some (.inl (nI w)), l4] [] (S, I, R) = some (none, (S, I2, R)) := by
  have hql : q < 37 := by rcases hq with rfl | rfl <;> omega
  intro j
  induction j with
  | zero =>
    intro w I o hw e3 hf hc
    have : w = n := by omega
    subst this
    refine ⟨I, fun _ _ => rfl, hc, ?_⟩
    rw [e_F_chooseSeen_113]
    simp only [e_F_chooseSeen_114, e_F_chooseSeen_115, e_F_chooseSeen_118, e_F_chooseSeen_138, q_is h hq.q, e3, nI_le' (show w < 2 ^ 31 by omega) (show w < 2 ^ 31 by omega), Nat.le_refl, if_true]
  | succ j ih =>
    intro w I o hw e3 hf hc
    obtain ⟨I2, f2, c2, r2⟩ := k_F_chooseIfLess (Ls := Ls) (xs := xs) (d := d) (x := f w) h hc (w := w) (nI_NN (by omega))
    obtain ⟨I3, f3, c3, r3⟩ := ih (w + 1) I2 _ (by omega) (by rw [f2 q (by omega)]; exact e3) (fun w hw => by rw [f2 57 (by decide)]; exact hf w hw) c2
    refine ⟨I3, fun c hc => (f3 c hc).trans (f2 c hc), c3, ?_⟩
    rw [e_F_chooseSeen_113, ← r3]
    simp only [e_F_chooseSeen_114, e_F_chooseSeen_115, e_F_chooseSeen_118, e_F_chooseSeen_121, e_F_chooseSeen_122, e_F_chooseSeen_123, e_F_chooseSeen_124, e_F_chooseSeen_127, e_F_chooseSeen_128, e_F_chooseSeen_129, e_F_chooseSeen_132, e_F_chooseSeen_135, q_is h hq.q, e3, nI_le' (show n < 2 ^ 31 by omega) (show w < 2 ^ 31 by omega), show ¬ n ≤ w by omega, and_self, and_true, true_and, and_false, false_and, or_true, true_or, or_false, false_or, not_true_eq_false, not_false_eq_true, if_true, if_false, ne_eq, ite_self, reduceCtorEq, i10, Decidable.not_not, Bool.and_self, Bool.and_true, Bool.true_and, is_37 h, rf_37_2 h, ia_57 h (show w < 30 by omega), nI_clamp (show w < 2 ^ 31 by omega), hf w (by omega), r2, rb_v, nI_1]
theorem k_F_chooseSeen (h : WF S R) (hq : isP q) (hs : SkR S I R q a) (hg : gd a) {t n m bb : Nat} {c : Nat → Int32} (ht : t < 2 ^ 29) (e2 : a 2 = nI t) (hn : n ≤ 14) (e1 : a 1 = nI n) (hp : h_is S p 2 3 = true) (hr : R p 0 = .inl (some r)) (r1 : 58 ≤ r) (p1 : 58 ≤ p) (ia : ∀ k, k < 24 → h_ia S r 0 (nI k) = true) (hm : m ≤ 24) (em : I p 2 = nI m) (ec : ∀ k, k < 24 → I r k = c (24 * bb + k)) : ∃ I2 R2, Ff I I2 R R2 ∧ chR nI I2 (lsS (dfS a c bb m) 0 n none) ∧ rn Ls xs (d + 5) 145 0 [some (.inr (.inl (some 37))), some (.inr (.inl (some q))), some (.inr (.inl (some p))), none, none] [] (S, I, R) = some (none, (S, I2, R2)) := by
  have hql : q < 37 := by rcases hq with rfl | rfl <;> omega
  have cn : cW (a 1) = n := by rw [e1, cW, nI_clamp (by omega)]
  obtain ⟨I2, R2, s2, f2, g2, w2, r2⟩ := k_S_becomeAs (Ls := Ls) (xs := xs) (d := d + 3) h q38 hq.q hq.ne hs hg
  have r3 := k_J_fill (Ls := Ls) (xs := xs) (d := d + 4) (x := 0) (I := I2) (R := R2) (is_57 h) (by decide)
  have f3 : Ff I (va_up I2 57 (fun i => if i < 30 then 0 else I2 57 i)) R R2 := (f2.ffr g2).up (by decide) (by decide)
  have e3 : I q 3 = nI n := by rw [hs.f3, e1]
  obtain ⟨I4, l4, f4, d4, r4⟩ := l_F_seen2 (Ls := Ls) (xs := xs) (d := d) (c := c) (bb := bb) w2 hq hg ht e2 hn e1 hp (by rw [g2 p (by omega)]; exact hr) (Or.inr r1) (Or.inr p1) ia hm m 0 _ none (by omega) (by rw [f3.1 q (by omega)]; exact e3) (by rw [f3.1 p (by omega)]; exact em) (fun k hk => by rw [f3.1 r (by omega)]; exact ec k hk) (s2.o38 (by omega) (Or.inr (Or.inr rfl))) (by
    intro w hw
    rw [vu_s]
    show (if w < 30 then _ else _) = _
    rw [if_pos (by omega)]
    rfl)
  have r4 : rn Ls xs (d + 5) 145 18 [some (.inr (.inl (some 37))), some (.inr (.inl (some q))), some (.inr (.inl (some p))), some (.inl 0), none] [] _ = _ := r4
  have f34 := f3.trans' f4
  obtain ⟨I5, f5, c5, r5⟩ := k_F_chooseNone (Ls := Ls) (xs := xs) (d := d + 4) (I := I4) (g := nI) w2
  obtain ⟨I6, f6, c6, r6⟩ := l_F_seen3 (Ls := Ls) (xs := xs) (d := d + 4) (f := dfS a c bb m) (l2 := some (.inr (.inl (some p)))) (l4 := l4) w2 hq hn n 0 I5 none (by omega) (by rw [f5 q (by omega), f34.1 q (by omega)]; exact e3) (fun w hw => by rw [f5 57 (by decide)]; exact d4 w hw) c5
  have r6 : rn Ls xs (d + 5) 145 113 [some (.inr (.inl (some 37))), some (.inr (.inl (some q))), some (.inr (.inl (some p))), some (.inl 0), l4] [] (S, I5, R2) = _ := r6
  refine ⟨I6, R2, (f34.trans' (F37 f5)).trans' (F37 f6), c6, ?_⟩
  simp only [e_F_chooseSeen_0, e_F_chooseSeen_1, e_F_chooseSeen_4, e_F_chooseSeen_5, e_F_chooseSeen_8, e_F_chooseSeen_9, e_F_chooseSeen_12, e_F_chooseSeen_13, e_F_chooseSeen_16, e_F_chooseSeen_17, is_37 h, is_38 h, rf_37_0 h, rf_37_2 w2, and_self, and_true, true_and, and_false, false_and, or_true, true_or, or_false, false_or, not_true_eq_false, not_false_eq_true, if_true, if_false, ne_eq, ite_self, reduceCtorEq, i10, Decidable.not_not, Bool.and_self, Bool.and_true, Bool.true_and, r2, rb_v, r3, r4]
  simp only [e_F_chooseSeen_107, e_F_chooseSeen_108, e_F_chooseSeen_111, e_F_chooseSeen_112, is_37 h, and_self, and_true, true_and, and_false, false_and, or_true, true_or, or_false, false_or, not_true_eq_false, not_false_eq_true, if_true, if_false, ne_eq, ite_self, reduceCtorEq, i10, Decidable.not_not, Bool.and_self, Bool.and_true, Bool.true_and, r5, rb_v, r6]
end CTE

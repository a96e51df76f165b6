/-! THE CLASS: feed -/
section CRF
variable {Ls : Nat} {xs : Nat → Int32} {d : Nat} {S : mS} {I I2 I3 A : mI} {R R2 R3 : mR} {x y z u v : Int32}
theorem by_s {k : Nat} (hk : k < 4) : nI (24 - 8 * k) + (-8) = nI (24 - 8 * (k + 1)) ∨ k = 3 := by
  rcases (show k = 0 ∨ k = 1 ∨ k = 2 ∨ k = 3 by omega) with rfl | rfl | rfl | rfl
  · exact Or.inl rfl
  · exact Or.inl rfl
  · exact Or.inl rfl
  · exact Or.inr rfl
def shI (k : Nat) : Int32 := if k = 4 then -8 else nI (24 - 8 * k)
theorem shI_s {k : Nat} (hk : k < 4) : shI k = nI (24 - 8 * k) ∧ ¬ shI k < 0 ∧ shI k + (-8) = shI (k + 1) := by
  rcases (show k = 0 ∨ k = 1 ∨ k = 2 ∨ k = 3 by omega) with rfl | rfl | rfl | rfl
  · exact ⟨rfl, by decide, rfl⟩
  · exact ⟨rfl, by decide, rfl⟩
  · exact ⟨rfl, by decide, rfl⟩
  · exact ⟨rfl, by decide, rfl⟩
theorem l_T_addBytes (h : WF S R) {n : Nat} (hn : n + 4 ≤ 96) : ∀ (j k : Nat) (I : mI), k + j = 4 → I 58 1 = nI (n + k) → ∃ I2, I2 58 1 = nI (n + 4) ∧ I2 59 = (fun i => if n + k ≤ i ∧ i < n + 4 then us x (nI (24 - 8 * (i - n))) &&& 255 else I 59 i) ∧ (∀ b, b ≠ 58 → b ≠ 59 → I2 b = I b) ∧ rn Ls xs d 154 3 [some (.inr (.inl (some 58))), some (.inl x), some (.inl (shI k))] [] (S, I, R) = some (none, (S, I2, R)) := by
  intro j
  induction j with
  | zero =>
    intro k I hk e
    have : k = 4 := by omega
    subst this
    refine ⟨I, e, ?_, fun _ _ _ => rfl, ?_⟩
    · funext i
      rw [if_neg (by omega)]
    · rw [e_T_addBytes_3]
      simp only [e_T_addBytes_0, e_T_addBytes_2, e_T_addBytes_4, e_T_addBytes_7, e_T_addBytes_8, e_T_addBytes_11, e_T_addBytes_13, e_T_addBytes_16, e_T_addBytes_17, e_T_addBytes_20, e_T_addBytes_21, e_T_addBytes_24, e_T_addBytes_25, e_T_addBytes_26, e_T_addBytes_27, e_T_addBytes_30, e_T_addBytes_31, e_T_addBytes_32, e_T_addBytes_33, e_T_addBytes_34, e_T_addBytes_37, e_T_addBytes_38, e_T_addBytes_39, e_T_addBytes_42, e_T_addBytes_45, e_T_addBytes_48, show shI 4 < 0 from (by decide), if_true]
  | succ j ih =>
    intro k I hk e
    obtain ⟨s1, s2, s3⟩ := shI_s (k := k) (by omega)
    have l96 : ¬ (96 : Int32) ≤ nI (n + k) := by rw [show (96 : Int32) = nI 96 from rfl, nI_le' (by decide) (by omega)]; omega
    obtain ⟨I2, i1, i2, i3, r2⟩ := ih (k + 1) (va_up (va_up I 59 (upd (I 59) (n + k) (us x (nI (24 - 8 * k)) &&& 255))) 58 (upd (I 58) 1 (nI (n + k + 1)))) (by omega) (by rw [vu_s, up_s]; rfl)
    refine ⟨I2, i1, ?_, fun b b1 b2 => by rw [i3 b b1 b2, vu_n b1, vu_n b2], ?_⟩
    · rw [i2]
      funext i
      rw [vu_n (show 59 ≠ 58 by decide), vu_s]
      by_cases h1 : i = n + k
      · subst h1
        rw [if_neg (by omega), up_s, if_pos (by omega), show n + k - n = k by omega]
      · rw [up_n h1]
        by_cases h2 : n + (k + 1) ≤ i ∧ i < n + 4
        · rw [if_pos h2, if_pos (by omega)]
        · rw [if_neg h2, if_neg (by omega)]
    · rw [e_T_addBytes_3, ← r2, ← s3]
      rw [s1] at s2
      simp only [e_T_addBytes_0, e_T_addBytes_2, e_T_addBytes_4, e_T_addBytes_7, e_T_addBytes_8, e_T_addBytes_11, e_T_addBytes_13, e_T_addBytes_16, e_T_addBytes_17, e_T_addBytes_20, e_T_addBytes_21, e_T_addBytes_24, e_T_addBytes_25, e_T_addBytes_26, e_T_addBytes_27, e_T_addBytes_30, e_T_addBytes_31, e_T_addBytes_32, e_T_addBytes_33, e_T_addBytes_34, e_T_addBytes_37, e_T_addBytes_38, e_T_addBytes_39, e_T_addBytes_42, e_T_addBytes_45, e_T_addBytes_48, s1, s2, and_self, and_true, true_and, and_false, false_and, or_true, true_or, or_false, false_or, not_true_eq_false, not_false_eq_true, if_true, if_false, ne_eq, ite_self, reduceCtorEq, i10, Decidable.not_not, Bool.and_self, Bool.and_true, Bool.true_and, is_58 h, rf_58_0 h, e, l96, ia_59 h (show n + k < 96 by omega), nI_clamp (show n + k < 2 ^ 31 by omega), vu_n (show 58 ≠ 59 by decide), nI_1, us]
theorem k_T_addBytes (h : WF S R) {n : Nat} (hn : n + 4 ≤ 96) (e : I 58 1 = nI n) : ∃ I2, I2 58 1 = nI (n + 4) ∧ I2 59 = (fun i => if n ≤ i ∧ i < n + 4 then us x (nI (24 - 8 * (i - n))) &&& 255 else I 59 i) ∧ (∀ b, b ≠ 58 → b ≠ 59 → I2 b = I b) ∧ rn Ls xs d 154 0 [some (.inr (.inl (some 58))), some (.inl x), none] [] (S, I, R) = some (none, (S, I2, R)) := by
  obtain ⟨I2, i1, i2, i3, r⟩ := l_T_addBytes (Ls := Ls) (xs := xs) (d := d) (x := x) h hn 4 0 I (by omega) e
  have r : rn Ls xs d 154 3 [some (.inr (.inl (some 58))), some (.inl x), some (.inl 24)] [] (S, I, R) = _ := r
  exact ⟨I2, i1, i2, i3, by simp only [e_T_addBytes_0, e_T_addBytes_2, r]⟩
theorem fb_4 {k : Nat} (hk : k < 12) : fbS x y z k = us (if k < 4 then x else if k < 8 then y else z) (nI (24 - 8 * (k % 4))) &&& 255 := by
  unfold fbS
  have e1 : nI k - nI k / 4 * 4 = nI (k % 4) := pk_rem (a := k) (d := 4) (by omega) (by decide) (by decide)
  have e2 : (24 : Int32) - 8 * nI (k % 4) = nI (24 - 8 * (k % 4)) := by
    rw [show (8 : Int32) * nI (k % 4) = nI (8 * (k % 4)) from pk_mul 8 _]
    exact pk_sub (a := 24) (by omega)
  rw [e1, e2, sar_eq _ (by omega)]
theorem cw_feed (h : WF S R) (hc : CR S I R A) : COp S I R (sp_feed A x y z) (rn Ls xs (d + 9) 49 0 [some (.inr (.inl (some 0))), some (.inl x), some (.inl y), some (.inl z)] [] (S, I, R)) := by
  obtain ⟨h1, h2, h3, ⟨e1, ⟨n, hn, e9⟩, hT⟩, h5, h6⟩ := id hc
  have cn : cW (A 93 9) = n := by rw [e9, cW, nI_clamp (by omega)]
  have e12 : nI n + 12 = nI (n + 12) := nI_add n 12
  unfold sp_feed
  rw [e9] at e1 ⊢
  rw [e12]
  by_cases h96 : n + 12 ≤ 96
  · have le : nI (n + 12) ≤ 96 := nI_le (b := 96) h96 (by decide)
    have nlt : ¬ (96 : Int32) < nI (n + 12) := i_nlt.mpr le
    rw [if_pos le, show cW (nI n) = n from nI_clamp (by omega)]
    obtain ⟨I2, i1, i2, i3, r2⟩ := k_T_addBytes (Ls := Ls) (xs := xs) (d := d + 8) (x := x) h (show n + 4 ≤ 96 by omega) e1
    obtain ⟨I3, j1, j2, j3, r3⟩ := k_T_addBytes (Ls := Ls) (xs := xs) (d := d + 8) (x := y) (I := I2) h (show n + 4 + 4 ≤ 96 by omega) i1
    obtain ⟨I4, k1, k2, k3, r4⟩ := k_T_addBytes (Ls := Ls) (xs := xs) (d := d + 8) (x := z) (I := I3) h (show n + 4 + 4 + 4 ≤ 96 by omega) j1
    have fr : ∀ b, b ≠ 58 → b ≠ 59 → I4 b = I b := fun b b1 b2 => by rw [k3 b b1 b2, j3 b b1 b2, i3 b b1 b2]
    have e59 : ∀ i, n ≤ i → i < n + 12 → I4 59 i = fbS x y z (i - n) := by
      intro i hi1 hi2
      rw [fb_4 (by omega), k2]
      show (if n + 4 + 4 ≤ i ∧ i < n + 4 + 4 + 4 then _ else I3 59 i) = _
      by_cases c1 : n + 8 ≤ i
      · rw [if_pos (by omega), if_neg (by omega), if_neg (by omega), show (i - n) % 4 = i - (n + 4 + 4) by omega]
      · rw [if_neg (by omega), j2]
        show (if n + 4 ≤ i ∧ i < n + 4 + 4 then _ else I2 59 i) = _
        by_cases c2 : n + 4 ≤ i
        · rw [if_pos (by omega), if_neg (by omega), if_pos (by omega), show (i - n) % 4 = i - (n + 4) by omega]
        · rw [if_neg (by omega), i2]
          show (if n ≤ i ∧ i < n + 4 then _ else I 59 i) = _
          rw [if_pos (by omega), if_pos (by omega), show (i - n) % 4 = i - n by omega]
    have e59' : ∀ i, i < n → I4 59 i = I 59 i := by
      intro i hi
      rw [k2]
      show (if n + 4 + 4 ≤ i ∧ i < n + 4 + 4 + 4 then _ else I3 59 i) = _
      rw [if_neg (by omega), j2]
      show (if n + 4 ≤ i ∧ i < n + 4 + 4 then _ else I2 59 i) = _
      rw [if_neg (by omega), i2]
      show (if n ≤ i ∧ i < n + 4 then _ else I 59 i) = _
      rw [if_neg (by omega)]
    refine COp.mk (I2 := I4) (R2 := R) ⟨h1.cg (fun b hb => fr b (by omega) (by omega)) (by rw [vu_n (by decide), vu_n (by decide)]), h2.cg (by rw [fr 0 (by decide) (by decide)]) (fun b hb => fr b (by omega) (by omega)) (by rw [vu_s, up_n (by decide)]) (by rw [vu_n (by decide), vu_n (by decide)]), h3.cg (by rw [fr 0 (by decide) (by decide)]) (by rw [fr 64 (by decide) (by decide)]) (by rw [vu_s, up_n (by decide)]) (by rw [vu_n (by decide), vu_n (by decide)]), ?_, shR.cg h5 (fun b b1 b2 => fr b (by omega) (by omega)) (by rw [vu_n (by decide), vu_n (by decide)]) (by rw [vu_n (by decide), vu_n (by decide)]) (by rw [vu_n (by decide), vu_n (by decide)]), slR.cg h6 (fun b b1 b2 => fr b (by omega) (by omega)) (by rw [vu_n (by decide), vu_n (by decide)]) (by rw [vu_n (by decide), vu_n (by decide)]) (by rw [vu_n (by decide), vu_n (by decide)]) (by rw [vu_n (by decide), vu_n (by decide)])⟩ h (fun b hb => fr b (by omega) (by omega)) ?_
    · refine ⟨by rw [k1, vu_s, up_s], ⟨n + 12, h96, by rw [vu_s, up_s]⟩, fun k hk => ?_⟩
      rw [vu_s, up_s, cW, nI_clamp (by omega)] at hk
      rw [vu_n (show 101 ≠ 93 by decide), vu_s]
      unfold blS
      by_cases ck : k < n
      · rw [if_neg (by omega), e59' k ck]
        exact hT k (by omega)
      · rw [if_pos (by omega), e59 k (by omega) (by omega)]
        refine ⟨rfl, ?_⟩
        rw [fb_4 (by omega)]
        exact pk_andE _ 8 rfl
    · simp only [e_W_feed_0, e_W_feed_1, e_W_feed_4, e_W_feed_6, e_W_feed_9, e_W_feed_12, e_W_feed_14, e_W_feed_15, e_W_feed_16, e_W_feed_19, e_W_feed_20, e_W_feed_23, e_W_feed_24, e_W_feed_27, e_W_feed_28, e_W_feed_31, e_W_feed_32, e_W_feed_35, e_W_feed_36, e_W_feed_39, e_W_feed_40, e_W_feed_43, e_W_feed_46, e_T_hasRoomFor_0, e_T_hasRoomFor_1, e_T_hasRoomFor_4, e_T_hasRoomFor_5, e_T_hasRoomFor_6, e_T_hasRoomFor_8, e_T_hasRoomFor_11, e_T_hasRoomFor_12, e_T_hasRoomFor_15, e_T_hasRoomFor_16, is_0 h, rf_0_3 h, is_58 h, and_self, and_true, true_and, and_false, false_and, or_true, true_or, or_false, false_or, not_true_eq_false, not_false_eq_true, if_true, if_false, ne_eq, ite_self, reduceCtorEq, i10, Decidable.not_not, Bool.and_self, Bool.and_true, Bool.true_and, e1, e12, nlt, bo_1, rb_i, t1, r2, r3, r4, rb_v, k1]
  · have gt : ¬ nI (n + 12) ≤ 96 := by rw [show (96 : Int32) = nI 96 from rfl, nI_le' (by omega) (by decide)]; exact h96
    rw [if_neg gt]
    exact COp.same h hc (by simp only [e_W_feed_0, e_W_feed_1, e_W_feed_4, e_W_feed_6, e_W_feed_9, e_W_feed_12, e_W_feed_14, e_W_feed_15, e_W_feed_16, e_W_feed_19, e_W_feed_20, e_W_feed_23, e_W_feed_24, e_W_feed_27, e_W_feed_28, e_W_feed_31, e_W_feed_32, e_W_feed_35, e_W_feed_36, e_W_feed_39, e_W_feed_40, e_W_feed_43, e_W_feed_46, e_T_hasRoomFor_0, e_T_hasRoomFor_1, e_T_hasRoomFor_4, e_T_hasRoomFor_5, e_T_hasRoomFor_6, e_T_hasRoomFor_8, e_T_hasRoomFor_11, e_T_hasRoomFor_12, e_T_hasRoomFor_15, e_T_hasRoomFor_16, is_0 h, rf_0_3 h, is_58 h, and_self, and_true, true_and, and_false, false_and, or_true, true_or, or_false, false_or, not_true_eq_false, not_false_eq_true, if_true, if_false, ne_eq, ite_self, reduceCtorEq, i10, Decidable.not_not, Bool.and_self, Bool.and_true, Bool.true_and, e1, e12, i_nle.mp gt, bo_0, rb_i])
end CRF

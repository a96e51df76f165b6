/-! THE CLASS: holes -/
section CTB
variable {Ls : Nat} {xs : Nat → Int32} {d : Nat} {S : mS} {I I2 I3 : mI} {R R2 R3 : mR} {x y z : Int32} {H : mH} {p q : Nat} {a : Nat → Int32}
/-- the blocked places behind an hour's wrecks -/
def bkA (a : Nat → Int32) (t w j : Nat) (g : Nat → Int32) : Nat → Int32 := fun k => if k ≤ t ∧ k ≤ 60 then ovS a (t - k) w j (g k) else g k
theorem l_F_blockAt (h : WF S R) {t n : Nat} (ht : t < 68) (hn : n ≤ 14) (hg : gd a) (e1 : a 1 = nI n) : ∀ (j w : Nat) (I : mI) (l3 l4 : Option mV), w + j = n → SkR S I R 38 a → rn Ls xs (d + 1) 183 2 [some (.inr (.inl (some 37))), some (.inl (nI t)), some (.inl (nI w)), l3, l4] [] (S, I, R) = some (none, (S, va_up I 56 (bkA a t w j (I 56)), R)) := by
  have cn : cW (a 1) = n := by rw [e1, cW, nI_clamp (by omega)]
  intro j
  induction j with
  | zero =>
    intro w I l3 l4 hw hs
    have : w = n := by omega
    subst this
    have e : bkA a t w 0 (I 56) = I 56 := by funext k; unfold bkA; split <;> rfl
    rw [e_F_blockAt_2, e, vu_id]
    simp only [e_F_blockAt_0, e_F_blockAt_1, e_F_blockAt_3, e_F_blockAt_4, e_F_blockAt_7, e_F_blockAt_10, e_F_blockAt_13, e_F_blockAt_14, e_F_blockAt_17, e_F_blockAt_20, e_F_blockAt_21, e_F_blockAt_22, e_F_blockAt_23, e_F_blockAt_24, e_F_blockAt_25, e_F_blockAt_28, e_F_blockAt_29, e_F_blockAt_31, e_F_blockAt_32, e_F_blockAt_35, e_F_blockAt_38, e_F_blockAt_40, e_F_blockAt_41, e_F_blockAt_43, e_F_blockAt_46, e_F_blockAt_49, e_F_blockAt_50, e_F_blockAt_53, e_F_blockAt_55, e_F_blockAt_56, e_F_blockAt_57, e_F_blockAt_58, e_F_blockAt_59, e_F_blockAt_62, e_F_blockAt_63, e_F_blockAt_64, e_F_blockAt_65, e_F_blockAt_68, e_F_blockAt_71, is_37 h, rf_37_0 h, is_38 h, hs.f3, e1, nI_le' (show w < 2 ^ 31 by omega) (show w < 2 ^ 31 by omega), Nat.le_refl, if_true]
  | succ j ih =>
    intro w I l3 l4 hw hs
    have hw14 : w < 14 := by omega
    have wi := q_wi h q38 hw14
    have w1 : I (38 + 4 + w) 1 = a (8 + 6 * w + 1) := hs.2.1 w 1 (by omega) (by omega)
    have w2 : I (38 + 4 + w) 2 = a (8 + 6 * w + 2) := hs.2.1 w 2 (by omega) (by omega)
    have w5 : I (38 + 4 + w) 5 = a (8 + 6 * w + 5) := hs.2.1 w 5 (by omega) (by omega)
    obtain ⟨i, -, hi, ei⟩ := inN (a := 0) (b := 7) (by decide) (okF1 (hg.2 w 1 (by omega) (by decide))) rfl rfl
    have eIn : (0 ≤ nI t - nI i ∧ nI t - nI i ≤ 60) ↔ (i ≤ t ∧ t - i ≤ 60) := by
      have z0 : Int32.toInt 0 = 0 := rfl
      have z60 : Int32.toInt 60 = 60 := rfl
      rw [i_le, i_le, sub_toInt (by omega) (by omega), z0, z60]
      omega
    have st : ∀ (s : Int32) (k : Nat), ovS a (t - k) w (j + 1) s = ovS a (t - k) (w + 1) j (s ||| (if a (8 + 6 * w + 5) = 1 ∧ a (8 + 6 * w + 1) = nI (t - k) then (1 : Int32) <<< (a (8 + 6 * w + 2) &&& 31) else 0)) := fun s k => rfl
    rcases okF5 (hg.2 w 5 (by omega) (by decide)) with e | e
    · have eb : bkA a t w (j + 1) (I 56) = bkA a t (w + 1) j (I 56) := by
        funext k
        unfold bkA
        by_cases hk : k ≤ t ∧ k ≤ 60
        · rw [if_pos hk, if_pos hk, st, if_neg (by rw [e]; exact fun q => absurd q.1 (by decide)), or_z]
        · rw [if_neg hk, if_neg hk]
      rw [eb, ← ih (w + 1) I (some (.inr (.inl (some (38 + 4 + w))))) (some (.inl (nI t - nI i))) (by omega) hs, e_F_blockAt_2]
      simp only [e_F_blockAt_0, e_F_blockAt_1, e_F_blockAt_3, e_F_blockAt_4, e_F_blockAt_7, e_F_blockAt_10, e_F_blockAt_13, e_F_blockAt_14, e_F_blockAt_17, e_F_blockAt_20, e_F_blockAt_21, e_F_blockAt_22, e_F_blockAt_23, e_F_blockAt_24, e_F_blockAt_25, e_F_blockAt_28, e_F_blockAt_29, e_F_blockAt_31, e_F_blockAt_32, e_F_blockAt_35, e_F_blockAt_38, e_F_blockAt_40, e_F_blockAt_41, e_F_blockAt_43, e_F_blockAt_46, e_F_blockAt_49, e_F_blockAt_50, e_F_blockAt_53, e_F_blockAt_55, e_F_blockAt_56, e_F_blockAt_57, e_F_blockAt_58, e_F_blockAt_59, e_F_blockAt_62, e_F_blockAt_63, e_F_blockAt_64, e_F_blockAt_65, e_F_blockAt_68, e_F_blockAt_71, is_37 h, rf_37_0 h, is_38 h, hs.f3, e1, nI_le' (show n < 2 ^ 31 by omega) (show w < 2 ^ 31 by omega), show ¬ n ≤ w by omega, and_self, and_true, true_and, and_false, false_and, or_true, true_or, or_false, false_or, not_true_eq_false, not_false_eq_true, if_true, if_false, ne_eq, ite_self, reduceCtorEq, i10, Decidable.not_not, Bool.and_self, Bool.and_true, Bool.true_and, q_r0 h q38, q_ia1 h q38 hw14, nI_clamp (show w < 2 ^ 31 by omega), q_w h q38 hw14, wi, w1, w5, ei, e, nI_1]
    · by_cases hk0 : i ≤ t ∧ t - i ≤ 60
      · have eb : bkA a t w (j + 1) (I 56) = bkA a t (w + 1) j (upd (I 56) (t - i) (I 56 (t - i) ||| (1 : Int32) <<< (a (8 + 6 * w + 2) &&& 31))) := by
          funext k
          unfold bkA
          by_cases hk : k ≤ t ∧ k ≤ 60
          · rw [if_pos hk, if_pos hk, st]
            by_cases ek : k = t - i
            · subst ek
              rw [up_s, if_pos ⟨e, by rw [ei, show t - (t - i) = i by omega]⟩]
            · rw [up_n ek, if_neg (fun q => ek (by have := q.2; rw [ei, nI_eq' (by omega) (by omega)] at this; omega)), or_z]
          · rw [if_neg hk, if_neg hk, up_n (by omega)]
        have ih1 := ih (w + 1) (va_up I 56 (upd (I 56) (t - i) (I 56 (t - i) ||| (1 : Int32) <<< (a (8 + 6 * w + 2) &&& 31)))) (some (.inr (.inl (some (38 + 4 + w))))) (some (.inl (nI (t - i)))) (by omega) (hs.o38 (by omega) (Or.inr (Or.inl rfl)))
        rw [vu_s, vu_vu] at ih1
        rw [eb, ← ih1, e_F_blockAt_2]
        have es : nI t - nI i = nI (t - i) := pk_sub hk0.1
        rw [es] at eIn
        simp only [e_F_blockAt_0, e_F_blockAt_1, e_F_blockAt_3, e_F_blockAt_4, e_F_blockAt_7, e_F_blockAt_10, e_F_blockAt_13, e_F_blockAt_14, e_F_blockAt_17, e_F_blockAt_20, e_F_blockAt_21, e_F_blockAt_22, e_F_blockAt_23, e_F_blockAt_24, e_F_blockAt_25, e_F_blockAt_28, e_F_blockAt_29, e_F_blockAt_31, e_F_blockAt_32, e_F_blockAt_35, e_F_blockAt_38, e_F_blockAt_40, e_F_blockAt_41, e_F_blockAt_43, e_F_blockAt_46, e_F_blockAt_49, e_F_blockAt_50, e_F_blockAt_53, e_F_blockAt_55, e_F_blockAt_56, e_F_blockAt_57, e_F_blockAt_58, e_F_blockAt_59, e_F_blockAt_62, e_F_blockAt_63, e_F_blockAt_64, e_F_blockAt_65, e_F_blockAt_68, e_F_blockAt_71, is_37 h, rf_37_0 h, rf_37_1 h, is_38 h, hs.f3, e1, nI_le' (show n < 2 ^ 31 by omega) (show w < 2 ^ 31 by omega), show ¬ n ≤ w by omega, and_self, and_true, true_and, and_false, false_and, or_true, true_or, or_false, false_or, not_true_eq_false, not_false_eq_true, if_true, if_false, ne_eq, ite_self, reduceCtorEq, i10, Decidable.not_not, Bool.and_self, Bool.and_true, Bool.true_and, q_r0 h q38, q_ia1 h q38 hw14, nI_clamp (show w < 2 ^ 31 by omega), nI_clamp (show t - i < 2 ^ 31 by omega), q_w h q38 hw14, wi, w1, w2, w5, ei, e, es, show ¬ (1 : Int32) = 0 by decide, k_W_within, eIn.mpr hk0, rb_i, ia_56 h (show t - i < 61 by omega), nI_1]
      · have eb : bkA a t w (j + 1) (I 56) = bkA a t (w + 1) j (I 56) := by
          funext k
          unfold bkA
          by_cases hk : k ≤ t ∧ k ≤ 60
          · rw [if_pos hk, if_pos hk, st, if_neg (fun q => hk0 (by have := q.2; rw [ei, nI_eq' (by omega) (by omega)] at this; omega)), or_z]
          · rw [if_neg hk, if_neg hk]
        have nin : ¬ (0 ≤ nI t - nI i ∧ nI t - nI i ≤ 60) := fun q => hk0 (eIn.mp q)
        rw [eb, ← ih (w + 1) I (some (.inr (.inl (some (38 + 4 + w))))) (some (.inl (nI t - nI i))) (by omega) hs, e_F_blockAt_2]
        simp only [e_F_blockAt_0, e_F_blockAt_1, e_F_blockAt_3, e_F_blockAt_4, e_F_blockAt_7, e_F_blockAt_10, e_F_blockAt_13, e_F_blockAt_14, e_F_blockAt_17, e_F_blockAt_20, e_F_blockAt_21, e_F_blockAt_22, e_F_blockAt_23, e_F_blockAt_24, e_F_blockAt_25, e_F_blockAt_28, e_F_blockAt_29, e_F_blockAt_31, e_F_blockAt_32, e_F_blockAt_35, e_F_blockAt_38, e_F_blockAt_40, e_F_blockAt_41, e_F_blockAt_43, e_F_blockAt_46, e_F_blockAt_49, e_F_blockAt_50, e_F_blockAt_53, e_F_blockAt_55, e_F_blockAt_56, e_F_blockAt_57, e_F_blockAt_58, e_F_blockAt_59, e_F_blockAt_62, e_F_blockAt_63, e_F_blockAt_64, e_F_blockAt_65, e_F_blockAt_68, e_F_blockAt_71, is_37 h, rf_37_0 h, is_38 h, hs.f3, e1, nI_le' (show n < 2 ^ 31 by omega) (show w < 2 ^ 31 by omega), show ¬ n ≤ w by omega, and_self, and_true, true_and, and_false, false_and, or_true, true_or, or_false, false_or, not_true_eq_false, not_false_eq_true, if_true, if_false, ne_eq, ite_self, reduceCtorEq, i10, Decidable.not_not, Bool.and_self, Bool.and_true, Bool.true_and, q_r0 h q38, q_ia1 h q38 hw14, nI_clamp (show w < 2 ^ 31 by omega), q_w h q38 hw14, wi, w1, w5, ei, e, show ¬ (1 : Int32) = 0 by decide, k_W_within, nin, rb_i, nI_1]
theorem k_F_blockAt (h : WF S R) {t : Nat} (ht : t < 68) (hg : gd a) (hs : SkR S I R 38 a) : rn Ls xs (d + 1) 183 0 [some (.inr (.inl (some 37))), some (.inl (nI t)), none, none, none] [] (S, I, R) = some (none, (S, va_up I 56 (bkA a t 0 (cW (a 1)) (I 56)), R)) := by
  obtain ⟨n, hn, e1, cn⟩ := hg.n
  have l : rn Ls xs (d + 1) 183 2 [some (.inr (.inl (some 37))), some (.inl (nI t)), some (.inl 0), none, none] [] (S, I, R) = _ := l_F_blockAt (Ls := Ls) (xs := xs) (d := d) h ht hn hg e1 n 0 I none none (by omega) hs
  rw [cn]
  simp only [e_F_blockAt_0, e_F_blockAt_1, l]
/-- the blocked places by hours before T -/
theorem bk_step {V : Nat → Nat → Int32} {T : Nat} {f : Nat → Int32} (hf : ∀ k, k ≤ 60 → f k = metS V k 0 (T - k) 0) {b : Nat → Int32} {n : Nat} (hV : ∀ k, k ≤ T → V (T - k) T = ovS b (T - k) 0 n 0) : ∀ k, k ≤ 60 → bkA b T 0 n f k = metS V k 0 (T + 1 - k) 0 := by
  intro k hk
  unfold bkA
  by_cases h : k ≤ T
  · rw [if_pos ⟨h, hk⟩, hf k hk, ovS_or, show T + 1 - k = (T - k) + 1 by omega, metS_sn, Nat.zero_add, show k + (T - k) = T by omega, hV k h]
  · rw [if_neg (fun q => h q.1), hf k hk, show T - k = 0 by omega, show T + 1 - k = 0 by omega]
theorem l_F_findHoles (h : WF S R) (hg : gd a) {t : Nat} (ht : t < 2 ^ 29) (e2 : a 2 = nI t) {l1 : Option mV} : ∀ (j T : Nat) (I : mI), T + j = 68 → SkR S I R 38 (hrsS a (T - 1)) → (∀ k, k ≤ 60 → I 56 k = metS (ovV a) k 0 (T - k) 0) → ∃ I2, Ff I I2 R R ∧ (∀ k, k ≤ 60 → I2 56 k = metS (ovV a) k 0 (68 - k) 0) ∧ rn Ls xs (d + 5) 132 18 [some (.inr (.inl (some 37))), l1, some (.inl (nI T))] [] (S, I, R) = some (none, (S, I2, R)) := by
  intro j
  induction j with
  | zero =>
    intro T I hT hs hb
    have : T = 68 := by omega
    subst this
    refine ⟨I, Ff.rfl', hb, ?_⟩
    rw [e_F_findHoles_18]
    simp only [e_F_findHoles_0, e_F_findHoles_1, e_F_findHoles_4, e_F_findHoles_5, e_F_findHoles_8, e_F_findHoles_9, e_F_findHoles_12, e_F_findHoles_13, e_F_findHoles_16, e_F_findHoles_17, e_F_findHoles_19, e_F_findHoles_21, e_F_findHoles_24, e_F_findHoles_25, e_F_findHoles_28, e_F_findHoles_29, e_F_findHoles_32, e_F_findHoles_33, e_F_findHoles_36, e_F_findHoles_37, e_F_findHoles_38, e_F_findHoles_41, e_F_findHoles_44, e_F_findHoles_47, show (68 : Int32) ≤ nI 68 from (by decide), if_true]
  | succ j ih =>
    intro T I hT hs hb
    have l68 : ¬ (68 : Int32) ≤ nI T := by rw [show (68 : Int32) = nI 68 from rfl, nI_le' (by decide) (by omega)]; omega
    have st : ∃ I3, Ff I I3 R R ∧ SkR S I3 R 38 (hrsS a T) ∧ I3 56 = I 56 ∧ rn Ls xs (d + 5) 132 18 [some (.inr (.inl (some 37))), l1, some (.inl (nI T))] [] (S, I, R) = rn Ls xs (d + 5) 132 36 [some (.inr (.inl (some 37))), l1, some (.inl (nI T))] [] (S, I3, R) := by
      by_cases h0 : T = 0
      · subst h0
        refine ⟨I, Ff.rfl', hs, rfl, ?_⟩
        rw [e_F_findHoles_18]
        simp only [e_F_findHoles_19, e_F_findHoles_21, e_F_findHoles_24, e_F_findHoles_25, l68, and_self, and_true, true_and, and_false, false_and, or_true, true_or, or_false, false_or, not_true_eq_false, not_false_eq_true, if_true, if_false, ne_eq, ite_self, reduceCtorEq, i10, Decidable.not_not, Bool.and_self, Bool.and_true, Bool.true_and, show nI 0 ≤ 0 from (by decide)]
      · obtain ⟨I3, s3, f3, r3⟩ := k_S_passHours (Ls := Ls) (xs := xs) (d := d) (n := 1) h q38 (show t + (T - 1) + 1 < 2 ^ 30 by omega) hs (gd_hrs hg _) (hrs_2 hg e2 (T - 1))
        have s3 : SkR S I3 R 38 (hrsS a (T - 1 + 1)) := s3
        rw [show T - 1 + 1 = T by omega] at s3
        have r3 : rn Ls xs (d + 4) 119 0 [some (.inr (.inl (some 38))), some (.inl 1), none] [] (S, I, R) = _ := r3
        refine ⟨I3, f3.ff, s3, f3 56 (by omega), ?_⟩
        rw [e_F_findHoles_18]
        simp only [e_F_findHoles_19, e_F_findHoles_21, e_F_findHoles_24, e_F_findHoles_25, e_F_findHoles_28, e_F_findHoles_29, e_F_findHoles_32, e_F_findHoles_33, l68, and_self, and_true, true_and, and_false, false_and, or_true, true_or, or_false, false_or, not_true_eq_false, not_false_eq_true, if_true, if_false, ne_eq, ite_self, reduceCtorEq, i10, Decidable.not_not, Bool.and_self, Bool.and_true, Bool.true_and, nI_nle (show 0 < T by omega) (show T < 2 ^ 31 by omega), is_37 h, rf_37_0 h, is_38 h, r3, rb_v]
    obtain ⟨I3, f3, s3, e3, r3⟩ := st
    obtain ⟨m, hm, em, cm⟩ := (gd_hrs hg T).n
    have r4 := k_F_blockAt (Ls := Ls) (xs := xs) (d := d + 3) h (show T < 68 by omega) (gd_hrs hg T) s3
    obtain ⟨I5, f5, b5, r5⟩ := ih (T + 1) (va_up I3 56 (bkA (hrsS a T) T 0 (cW (hrsS a T 1)) (I3 56))) (by omega) (s3.o38 (by omega) (Or.inr (Or.inl rfl))) (by
      rw [vu_s, e3]
      exact bk_step hb (fun k hk => rfl))
    refine ⟨I5, (f3.up (by decide) (by decide)).trans' f5, b5, ?_⟩
    rw [r3, ← r5]
    simp only [e_F_findHoles_36, e_F_findHoles_37, e_F_findHoles_38, e_F_findHoles_41, e_F_findHoles_44, is_37 h, and_self, and_true, true_and, and_false, false_and, or_true, true_or, or_false, false_or, not_true_eq_false, not_false_eq_true, if_true, if_false, ne_eq, ite_self, reduceCtorEq, i10, Decidable.not_not, Bool.and_self, Bool.and_true, Bool.true_and, r4, rb_v, nI_1]
theorem k_F_findHoles (h : WF S R) (hq : isP q) (hs : SkR S I R q a) (hg : gd a) {t : Nat} (ht : t < 2 ^ 29) (e2 : a 2 = nI t) : ∃ I2 R2, Ff I I2 R R2 ∧ (∀ k, k ≤ 60 → I2 56 k = metS (ovV a) k 0 8 0) ∧ rn Ls xs (d + 5) 132 0 [some (.inr (.inl (some 37))), some (.inr (.inl (some q))), none] [] (S, I, R) = some (none, (S, I2, R2)) := by
  obtain ⟨n, hn, e1, cn⟩ := hg.n
  obtain ⟨I2, R2, s2, f2, g2, w2, r2⟩ := k_S_becomeAs (Ls := Ls) (xs := xs) (d := d + 3) h q38 hq.q hq.ne hs hg
  have r3 := k_J_fill (Ls := Ls) (xs := xs) (d := d + 4) (x := 0) (I := I2) (R := R2) (is_56 h) (by decide)
  obtain ⟨I4, f4, b4, r4⟩ := l_F_findHoles (Ls := Ls) (xs := xs) (d := d) (l1 := some (.inr (.inl (some q)))) w2 hg ht e2 68 0 (va_up I2 56 (fun i => if i < 61 then 0 else I2 56 i)) (by omega) (s2.o38 (by omega) (Or.inr (Or.inl rfl))) (by
    intro k hk
    rw [vu_s, if_pos (by omega), Nat.zero_sub]
    rfl)
  have r4 : rn Ls xs (d + 5) 132 18 [some (.inr (.inl (some 37))), some (.inr (.inl (some q))), some (.inl 0)] [] _ = _ := r4
  refine ⟨I4, R2, ((f2.ffr g2).up (by decide) (by decide)).trans' f4, ?_, ?_⟩
  · intro k hk
    rw [b4 k hk, show 68 - k = 8 + (60 - k) by omega]
    refine metS_8 (fun h h8 h31 => ?_) _ (by omega)
    obtain ⟨m, hm, em, cm⟩ := (gd_hrs hg (k + h)).n
    show ovS _ h 0 _ 0 = 0
    exact ovS_hi (n := m) h8 h31 (fun w hw => (gd_hrs hg (k + h)).2 w 1 (by omega) (by decide)) _ 0 0 (by omega)
  · simp only [e_F_findHoles_0, e_F_findHoles_1, e_F_findHoles_4, e_F_findHoles_5, e_F_findHoles_8, e_F_findHoles_9, e_F_findHoles_12, e_F_findHoles_13, e_F_findHoles_16, e_F_findHoles_17, is_37 h, is_38 h, rf_37_0 h, rf_37_1 w2, and_self, and_true, true_and, and_false, false_and, or_true, true_or, or_false, false_or, not_true_eq_false, not_false_eq_true, if_true, if_false, ne_eq, ite_self, reduceCtorEq, i10, Decidable.not_not, Bool.and_self, Bool.and_true, Bool.true_and, r2, rb_v, r3, r4]
theorem l_F_holeOver (h : WF S R) {V : Nat → Nat → Int32} (hb : ∀ k, k ≤ 60 → I 56 k = metS V k 0 8 0) : ∀ (j k : Nat), k + j = 61 → rn Ls xs d 133 2 [some (.inr (.inl (some 37))), some (.inl x), some (.inl (nI k))] [] (S, I, R) = some (some (.inl (hlS V x k j)), (S, I, R)) := by
  intro j
  induction j with
  | zero =>
    intro k hk
    have : k = 61 := by omega
    subst this
    rw [e_F_holeOver_2]
    simp only [e_F_holeOver_0, e_F_holeOver_1, e_F_holeOver_3, e_F_holeOver_5, e_F_holeOver_8, e_F_holeOver_9, e_F_holeOver_12, e_F_holeOver_13, e_F_holeOver_14, e_F_holeOver_15, e_F_holeOver_16, e_F_holeOver_17, e_F_holeOver_18, e_F_holeOver_21, e_F_holeOver_22, e_F_holeOver_23, e_F_holeOver_26, e_F_holeOver_29, e_F_holeOver_31, show (60 : Int32) < nI 61 from (by decide), if_true, hlS]
  | succ j ih =>
    intro k hk
    have l60 : ¬ (60 : Int32) < nI k := by rw [show (60 : Int32) = nI 60 from rfl, nI_lt' (by decide) (by omega)]; omega
    rw [e_F_holeOver_2]
    by_cases h0 : (metS V k 0 8 0 >>> (x &&& 31)) &&& 1 = 0
    · simp only [e_F_holeOver_0, e_F_holeOver_1, e_F_holeOver_3, e_F_holeOver_5, e_F_holeOver_8, e_F_holeOver_9, e_F_holeOver_12, e_F_holeOver_13, e_F_holeOver_14, e_F_holeOver_15, e_F_holeOver_16, e_F_holeOver_17, e_F_holeOver_18, e_F_holeOver_21, e_F_holeOver_22, e_F_holeOver_23, e_F_holeOver_26, e_F_holeOver_29, e_F_holeOver_31, l60, and_self, and_true, true_and, and_false, false_and, or_true, true_or, or_false, false_or, not_true_eq_false, not_false_eq_true, if_true, if_false, ne_eq, ite_self, reduceCtorEq, i10, Decidable.not_not, Bool.and_self, Bool.and_true, Bool.true_and, is_37 h, rf_37_1 h, ia_56 h (show k < 61 by omega), nI_clamp (show k < 2 ^ 31 by omega), hb k (by omega), h0, hlS]
    · simp only [e_F_holeOver_0, e_F_holeOver_1, e_F_holeOver_3, e_F_holeOver_5, e_F_holeOver_8, e_F_holeOver_9, e_F_holeOver_12, e_F_holeOver_13, e_F_holeOver_14, e_F_holeOver_15, e_F_holeOver_16, e_F_holeOver_17, e_F_holeOver_18, e_F_holeOver_21, e_F_holeOver_22, e_F_holeOver_23, e_F_holeOver_26, e_F_holeOver_29, e_F_holeOver_31, l60, and_self, and_true, true_and, and_false, false_and, or_true, true_or, or_false, false_or, not_true_eq_false, not_false_eq_true, if_true, if_false, ne_eq, ite_self, reduceCtorEq, i10, Decidable.not_not, Bool.and_self, Bool.and_true, Bool.true_and, is_37 h, rf_37_1 h, ia_56 h (show k < 61 by omega), nI_clamp (show k < 2 ^ 31 by omega), hb k (by omega), h0, hlS, nI_1, ih (k + 1) (by omega)]
theorem k_F_holeOver (h : WF S R) {V : Nat → Nat → Int32} (hb : ∀ k, k ≤ 60 → I 56 k = metS V k 0 8 0) : rn Ls xs d 133 0 [some (.inr (.inl (some 37))), some (.inl x), none] [] (S, I, R) = some (some (.inl (hlS V x 0 61)), (S, I, R)) := by
  have l : rn Ls xs d 133 2 [some (.inr (.inl (some 37))), some (.inl x), some (.inl 0)] [] (S, I, R) = _ := l_F_holeOver (Ls := Ls) (xs := xs) (d := d) (x := x) h hb 61 0 (by omega)
  simp only [e_F_holeOver_0, e_F_holeOver_1, l]
end CTB

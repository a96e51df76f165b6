/-! TEXTS: the class reads the tape -/
def kyS (T : Nat → Int32) (n : Nat) : Nat := if isWd T n 0 12 = true then 1 else if isWd T n 0 14 = true then 2 else if isWd T n 0 16 = true then 0 else 3
/-- what the tape gives: where its fault is, or key and row -/
def rtx (T : Nat → Int32) (n : Nat) : rR := if kyS T n = 3 then .inl (tA T n 0) else (match rd (tk T n (kyS T n)) 70 0 0 0 1 with | .inl j => .inl (tA T n j) | .inr (j, D) => if tC T n j = 3 then .inr (kyS T n, D) else .inl (tA T n j))
def FR (R R2 : mR) : Prop := ∀ b k, (b ≠ 60 ∨ k ≠ 4) → R2 b k = R b k
def setN (R : mR) (u : mr) : mR := va_up R 60 (va_up (R 60) 4 u)
theorem rt_60 : ∀ e ∈ rt_, e.1.1 ≠ 60 ∨ e.1.2 ≠ 4 := by decide
section RTP
variable {Ls : Nat} {xs : Nat → Int32} {S : mS} {I I2 I3 : mI} {R R2 : mR} {T : Nat → Int32} {n key e : Nat} {u v : mr}
theorem FR.wf (h : WF S R) (hf : FR R R2) : WF S R2 := ⟨h.1, h.2.1, fun q hq => by rw [hf _ _ (rt_60 q hq)]; exact h.2.2 q hq⟩
theorem setN_f : FR R (setN R u) := by
  intro b k hb
  unfold setN
  by_cases e : b = 60
  · subst e
    rw [va_up_s, va_up_n _ _ (by rcases hb with q | q; exact absurd rfl q; exact q)]
  · rw [va_up_n _ _ e]
theorem setN_v : setN R u 60 4 = u := by unfold setN; rw [va_up_s, va_up_s]
theorem setN_n : setN (setN R u) v = setN R v := by
  funext b
  unfold setN
  by_cases e : b = 60
  · subst e
    rw [va_up_s, va_up_s, va_up_s]
    funext k
    by_cases ek : k = 4
    · subst ek; rw [va_up_s, va_up_s]
    · rw [va_up_n _ _ ek, va_up_n _ _ ek, va_up_n _ _ ek]
  · rw [va_up_n _ _ e, va_up_n _ _ e, va_up_n _ _ e]
theorem k_readKey (h : WF S R) (he : 6 ≤ e) (hs : RS I T n 0 []) : (kyS T n < 3 → ∃ I2, RS I2 T n 1 [] ∧ Fr6 I I2 ∧ rn Ls xs e 194 0 [some (.inr (.inl (some 60))), none] [] (S, I, R) = some (some (.inl (nI (kyS T n))), (S, I2, setN R (.inr (11 + 2 * kyS T n))))) ∧ (kyS T n = 3 → ∃ I2, RF I2 T n 0 ∧ Fr6 I I2 ∧ rn Ls xs e 194 0 [some (.inr (.inl (some 60))), none] [] (S, I, R) = some (some (.inl 0), (S, I2, setN R (.inr 11)))) := by
  obtain ⟨d, rfl⟩ : ∃ d, e = d + 6 := ⟨e - 6, by omega⟩
  have w11 : WF S (setN R (.inr 11)) := (setN_f).wf h
  have k12 := k_R_isWord (Ls := Ls) (xs := xs) (d := d) (s := 12) (I := I) (R := setN R (.inr 11)) w11 hs.1 hs.2.1 (by decide) (by decide)
  have k14 := k_R_isWord (Ls := Ls) (xs := xs) (d := d) (s := 14) (I := I) (R := setN R (.inr 11)) w11 hs.1 hs.2.1 (by decide) (by decide)
  have k16 := k_R_isWord (Ls := Ls) (xs := xs) (d := d) (s := 16) (I := I) (R := setN R (.inr 11)) w11 hs.1 hs.2.1 (by decide) (by decide)
  have st : rn Ls xs (d + 6) 194 0 [some (.inr (.inl (some 60))), none] [] (S, I, R) = rn Ls xs (d + 6) 194 8 [some (.inr (.inl (some 60))), some (.inl 0)] [] (S, I, setN R (.inr 11)) := by
    simp only [e_R_readKey_0, e_R_readKey_1, e_R_readKey_2, e_R_readKey_3, e_R_readKey_5, is_60 h, and_self, and_true, true_and, and_false, false_and, or_true, true_or, or_false, false_or, not_true_eq_false, not_false_eq_true, if_true, if_false, ne_eq, ite_self, reduceCtorEq, i10, Decidable.not_not, Bool.and_self, Bool.and_true, Bool.true_and]
    rfl
  rw [st]
  unfold kyS
  by_cases c1 : isWd T n 0 12 = true
  · rw [if_pos c1] at k12 ⊢
    refine ⟨fun _ => ?_, fun q => by cases q⟩
    have w13 : WF S (setN R (.inr 13)) := (setN_f).wf h
    obtain ⟨I2, g1, g2, r2⟩ := s_step (Ls := Ls) (xs := xs) (e := d + 5) w13 (by omega) hs
    have en : va_up (setN R (.inr 11)) 60 (va_up (setN R (.inr 11) 60) 4 (.inr 13)) = setN R (.inr 13) := setN_n
    exact ⟨I2, g1, g2, by simp only [e_R_readKey_8, e_R_readKey_9, e_R_readKey_11, e_R_readKey_14, e_R_readKey_17, e_R_readKey_18, e_R_readKey_19, e_R_readKey_20, e_R_readKey_22, e_R_readKey_25, e_R_readKey_28, e_R_readKey_29, e_R_readKey_31, e_R_readKey_34, e_R_readKey_37, e_R_readKey_38, e_R_readKey_39, e_R_readKey_40, e_R_readKey_42, e_R_readKey_45, e_R_readKey_48, e_R_readKey_49, e_R_readKey_51, e_R_readKey_54, e_R_readKey_57, e_R_readKey_58, e_R_readKey_61, e_R_readKey_62, e_R_readKey_65, e_R_readKey_66, is_60 h, and_self, and_true, true_and, and_false, false_and, or_true, true_or, or_false, false_or, not_true_eq_false, not_false_eq_true, if_true, if_false, ne_eq, ite_self, reduceCtorEq, i10, Decidable.not_not, Bool.and_self, Bool.and_true, Bool.true_and, k12, rb_i, t1, en, r2, rb_v]; rfl⟩
  · rw [if_neg c1] at k12 ⊢
    by_cases c2 : isWd T n 0 14 = true
    · rw [if_pos c2] at k14 ⊢
      refine ⟨fun _ => ?_, fun q => by cases q⟩
      have w15 : WF S (setN R (.inr 15)) := (setN_f).wf h
      obtain ⟨I2, g1, g2, r2⟩ := s_step (Ls := Ls) (xs := xs) (e := d + 5) w15 (by omega) hs
      have en : va_up (setN R (.inr 11)) 60 (va_up (setN R (.inr 11) 60) 4 (.inr 15)) = setN R (.inr 15) := setN_n
      exact ⟨I2, g1, g2, by simp only [e_R_readKey_8, e_R_readKey_9, e_R_readKey_11, e_R_readKey_14, e_R_readKey_17, e_R_readKey_18, e_R_readKey_19, e_R_readKey_20, e_R_readKey_22, e_R_readKey_25, e_R_readKey_28, e_R_readKey_29, e_R_readKey_31, e_R_readKey_34, e_R_readKey_37, e_R_readKey_38, e_R_readKey_39, e_R_readKey_40, e_R_readKey_42, e_R_readKey_45, e_R_readKey_48, e_R_readKey_49, e_R_readKey_51, e_R_readKey_54, e_R_readKey_57, e_R_readKey_58, e_R_readKey_61, e_R_readKey_62, e_R_readKey_65, e_R_readKey_66, is_60 h, and_self, and_true, true_and, and_false, false_and, or_true, true_or, or_false, false_or, not_true_eq_false, not_false_eq_true, if_true, if_false, ne_eq, ite_self, reduceCtorEq, i10, Decidable.not_not, Bool.and_self, Bool.and_true, Bool.true_and, k12, k14, rb_i, t1, en, r2, rb_v]; rfl⟩
    · rw [if_neg c2] at k14 ⊢
      by_cases c3 : isWd T n 0 16 = true
      · rw [if_pos c3] at k16 ⊢
        refine ⟨fun _ => ?_, fun q => by cases q⟩
        obtain ⟨I2, g1, g2, r2⟩ := s_step (Ls := Ls) (xs := xs) (e := d + 5) w11 (by omega) hs
        exact ⟨I2, g1, g2, by simp only [e_R_readKey_8, e_R_readKey_9, e_R_readKey_11, e_R_readKey_14, e_R_readKey_17, e_R_readKey_18, e_R_readKey_19, e_R_readKey_20, e_R_readKey_22, e_R_readKey_25, e_R_readKey_28, e_R_readKey_29, e_R_readKey_31, e_R_readKey_34, e_R_readKey_37, e_R_readKey_38, e_R_readKey_39, e_R_readKey_40, e_R_readKey_42, e_R_readKey_45, e_R_readKey_48, e_R_readKey_49, e_R_readKey_51, e_R_readKey_54, e_R_readKey_57, e_R_readKey_58, e_R_readKey_61, e_R_readKey_62, e_R_readKey_65, e_R_readKey_66, is_60 h, and_self, and_true, true_and, and_false, false_and, or_true, true_or, or_false, false_or, not_true_eq_false, not_false_eq_true, if_true, if_false, ne_eq, ite_self, reduceCtorEq, i10, Decidable.not_not, Bool.and_self, Bool.and_true, Bool.true_and, k12, k14, k16, rb_i, t1, r2, rb_v]; rfl⟩
      · rw [if_neg c3] at k16 ⊢
        refine ⟨fun q => absurd q (by decide), fun _ => ?_⟩
        obtain ⟨I2, g1, g2, r2⟩ := s_fail (Ls := Ls) (xs := xs) (e := d + 5) w11 hs (by decide)
        have fs := f_step (Ls := Ls) (xs := xs) (e := d + 5) w11 g1
        exact ⟨I2, g1, g2, by simp only [e_R_readKey_8, e_R_readKey_9, e_R_readKey_11, e_R_readKey_14, e_R_readKey_17, e_R_readKey_18, e_R_readKey_19, e_R_readKey_20, e_R_readKey_22, e_R_readKey_25, e_R_readKey_28, e_R_readKey_29, e_R_readKey_31, e_R_readKey_34, e_R_readKey_37, e_R_readKey_38, e_R_readKey_39, e_R_readKey_40, e_R_readKey_42, e_R_readKey_45, e_R_readKey_48, e_R_readKey_49, e_R_readKey_51, e_R_readKey_54, e_R_readKey_57, e_R_readKey_58, e_R_readKey_61, e_R_readKey_62, e_R_readKey_65, e_R_readKey_66, is_60 h, and_self, and_true, true_and, and_false, false_and, or_true, true_or, or_false, false_or, not_true_eq_false, not_false_eq_true, if_true, if_false, ne_eq, ite_self, reduceCtorEq, i10, Decidable.not_not, Bool.and_self, Bool.and_true, Bool.true_and, k12, k14, k16, rb_i, t1, r2, rb_v, fs]⟩
/-- the reader is through: at a fault, or with key and row -/
def RU (I : mI) : rR → Prop
  | .inl p => 0 ≤ I 60 9 ∧ I 60 9 = nI p
  | .inr (_, D) => I 60 9 = -1 ∧ I 60 2 = nI D.length ∧ I 60 3 = nI (atm D) ∧ D.length ≤ 95 ∧ ∀ k, k < D.length → I 61 k = cvS (D.getD k 0)
theorem k_readTape1 (h : WF S R) (he : 152 ≤ e) (hT : TPR I T n) : ∃ I2 l1, RU I2 (rtx T n) ∧ Fr6 I I2 ∧ (∀ k D, rtx T n = .inr (k, D) → l1 = nI k) ∧ ∃ u, rn Ls xs e 155 0 [some (.inr (.inl (some 60))), none] [] (S, I, R) = rn Ls xs e 155 60 [some (.inr (.inl (some 60))), some (.inl l1)] [] (S, I2, setN R u) := by
  obtain ⟨d, rfl⟩ : ∃ d, e = d + 152 := ⟨e - 152, by omega⟩
  have hn := hT.2.1
  obtain ⟨I1, hI1, r1⟩ : ∃ I1, I1 = va_up I 60 (upd (upd (upd (upd (upd (I 60) 2 0) 3 0) 5 0) 7 0) 9 (-1)) ∧ rn Ls xs (d + 152) 155 0 [some (.inr (.inl (some 60))), none] [] (S, I, R) = rn Ls xs (d + 152) 155 25 [some (.inr (.inl (some 60))), none] [] (S, I1, R) := by
    refine ⟨_, rfl, ?_⟩
    simp only [e_R_readTape_0, e_R_readTape_1, e_R_readTape_2, e_R_readTape_5, e_R_readTape_6, e_R_readTape_7, e_R_readTape_10, e_R_readTape_11, e_R_readTape_12, e_R_readTape_15, e_R_readTape_16, e_R_readTape_17, e_R_readTape_20, e_R_readTape_21, e_R_readTape_22, is_60 h, and_self, and_true, true_and, and_false, false_and, or_true, true_or, or_false, false_or, not_true_eq_false, not_false_eq_true, if_true, if_false, ne_eq, ite_self, reduceCtorEq, i10, Decidable.not_not, Bool.and_self, Bool.and_true, Bool.true_and, vu_s, vu_vu]
  have T1 : TPR I1 T n := by rw [hI1]; exact hT.up _ (by decide) (by decide)
  have f1 : Fr6 I I1 := fun b b1 _ => by rw [hI1, vu_n b1]
  obtain ⟨I2, g1, ⟨g2, g3, g4⟩, g5, r2⟩ := k_R_step (Ls := Ls) (xs := xs) (d := d + 149) (i := 0) h T1 (by rw [hI1, vu_s, up_n (by decide), up_s]; rfl) (by rw [hI1, vu_s, up_n (by decide), up_n (by decide), up_s]; rfl) (by rw [hI1, vu_s, up_s]; exact m1_lt)
  have f2 : Fr6 I1 I2 := fun b b1 _ => g5 b b1
  have s2 : RS I2 T n 0 [] := ⟨T1.fr f2, g1, by rw [g4, hI1, vu_s, up_s], by rw [g2, hI1, vu_s, up_n (by decide), up_n (by decide), up_n (by decide), up_n (by decide), up_s]; rfl, by rw [g3, hI1, vu_s, up_n (by decide), up_n (by decide), up_n (by decide), up_s]; rfl, fun k hk => absurd hk (Nat.not_lt_zero _)⟩
  obtain ⟨y1, y2⟩ := k_readKey (Ls := Ls) (xs := xs) (e := d + 151) h (by omega) s2
  have r2 : rn Ls xs (d + 151) 193 0 [some (.inr (.inl (some 60))), none, none] [] (S, I1, R) = _ := r2
  have bA : ∀ i, tA T n i ≤ 96 := fun i => by have := tA_b (T := T) (n := n) i; omega
  have fin : ∀ {j : Nat} {I3 : mI} {l1 : Int32} {u : mr}, RF I3 T n j → Fr6 I I3 → rtx T n = .inl (tA T n j) → rn Ls xs (d + 152) 155 0 [some (.inr (.inl (some 60))), none] [] (S, I, R) = rn Ls xs (d + 152) 155 48 [some (.inr (.inl (some 60))), some (.inl l1)] [] (S, I3, setN R u) → ∃ I2 l1, RU I2 (rtx T n) ∧ Fr6 I I2 ∧ (∀ k D, rtx T n = .inr (k, D) → l1 = nI k) ∧ ∃ u, rn Ls xs (d + 152) 155 0 [some (.inr (.inl (some 60))), none] [] (S, I, R) = rn Ls xs (d + 152) 155 60 [some (.inr (.inl (some 60))), some (.inl l1)] [] (S, I2, setN R u) := by
    intro j I3 l1 u q1 q2 q3 r
    refine ⟨I3, l1, by rw [q3]; exact ⟨q1.p0, q1.2.2.1⟩, q2, (fun k D q => by rw [q3] at q; cases q), u, ?_⟩
    have wu : WF S (setN R u) := (setN_f).wf h
    have ff := f_fail (Ls := Ls) (xs := xs) (e := d + 151) wu q1
    rw [r]
    by_cases c3 : I3 60 5 = 3
    · simp only [e_R_readTape_48, e_R_readTape_49, e_R_readTape_52, e_R_readTape_53, is_60 h, and_self, and_true, true_and, and_false, false_and, or_true, true_or, or_false, false_or, not_true_eq_false, not_false_eq_true, if_true, if_false, ne_eq, ite_self, reduceCtorEq, i10, Decidable.not_not, Bool.and_self, Bool.and_true, Bool.true_and, c3]
    · simp only [e_R_readTape_48, e_R_readTape_49, e_R_readTape_52, e_R_readTape_53, e_R_readTape_56, e_R_readTape_57, is_60 h, and_self, and_true, true_and, and_false, false_and, or_true, true_or, or_false, false_or, not_true_eq_false, not_false_eq_true, if_true, if_false, ne_eq, ite_self, reduceCtorEq, i10, Decidable.not_not, Bool.and_self, Bool.and_true, Bool.true_and, c3, ff, rb_v]
  by_cases k3 : kyS T n = 3
  · obtain ⟨I3, q1, q2, r3⟩ := y2 k3
    refine fin (u := .inr 11) (l1 := 0) q1 ((f1.trans' f2).trans' q2) (by unfold rtx; rw [if_pos k3]) ?_
    rw [r1]
    simp only [e_R_readTape_25, e_R_readTape_26, e_R_readTape_29, e_R_readTape_30, e_R_readTape_33, e_R_readTape_34, e_R_readTape_35, e_R_readTape_38, is_60 h, and_self, and_true, true_and, and_false, false_and, or_true, true_or, or_false, false_or, not_true_eq_false, not_false_eq_true, if_true, if_false, ne_eq, ite_self, reduceCtorEq, i10, Decidable.not_not, Bool.and_self, Bool.and_true, Bool.true_and, r2, rb_v, r3, rb_i, q1.p0]
  · have k3' : kyS T n < 3 := by
      have : kyS T n ≤ 3 := by
        unfold kyS
        split
        · omega
        · split
          · omega
          · split <;> omega
      omega
    obtain ⟨I3, q1, q2, r3⟩ := y1 k3'
    have wk : WF S (setN R (.inr (11 + 2 * kyS T n))) := (setN_f).wf h
    have cr := (c_rd (Ls := Ls) (xs := xs) (T := T) (key := kyS T n) wk hn k3' setN_v 70).2 0 0 0 1 (d + 151) I3 [] (by decide) (by decide) (by decide) (by decide) (by omega) q1 (by decide) (by decide)
    rw [show nI 0 = 0 from rfl] at cr
    have e9 : I3 60 9 = -1 := q1.2.2.1
    have er : rtx T n = (match rd (tk T n (kyS T n)) 70 0 0 0 1 with | .inl j => .inl (tA T n j) | .inr (j, D) => if tC T n j = 3 then .inr (kyS T n, D) else .inl (tA T n j)) := by unfold rtx; rw [if_neg k3]
    cases hx : rd (tk T n (kyS T n)) 70 0 0 0 1 with
    | inl j =>
      rw [hx] at cr er
      obtain ⟨I4, u1, u2, r4⟩ := cr
      refine fin (u := .inr (11 + 2 * kyS T n)) (l1 := nI (kyS T n)) u1 (((f1.trans' f2).trans' q2).trans' u2) er ?_
      rw [r1]
      simp only [e_R_readTape_25, e_R_readTape_26, e_R_readTape_29, e_R_readTape_30, e_R_readTape_33, e_R_readTape_34, e_R_readTape_35, e_R_readTape_38, e_R_readTape_41, e_R_readTape_42, e_R_readTape_43, e_R_readTape_44, e_R_readTape_45, is_60 h, and_self, and_true, true_and, and_false, false_and, or_true, true_or, or_false, false_or, not_true_eq_false, not_false_eq_true, if_true, if_false, ne_eq, ite_self, reduceCtorEq, i10, Decidable.not_not, Bool.and_self, Bool.and_true, Bool.true_and, r2, rb_v, r3, rb_i, e9, show ¬ (0 : Int32) ≤ -1 by decide, r4]
    | inr vv =>
      obtain ⟨j, D⟩ := vv
      rw [hx] at cr er
      obtain ⟨I4, u1, u2, r4⟩ := cr
      rw [List.nil_append] at u1
      obtain ⟨b1, b2, b3⟩ := rd_b 70 _ _ _ _ _ _ hx
      have b95 := tk_i hn b3
      have st : rn Ls xs (d + 152) 155 0 [some (.inr (.inl (some 60))), none] [] (S, I, R) = rn Ls xs (d + 152) 155 48 [some (.inr (.inl (some 60))), some (.inl (nI (kyS T n)))] [] (S, I4, setN R (.inr (11 + 2 * kyS T n))) := by
        rw [r1]
        simp only [e_R_readTape_25, e_R_readTape_26, e_R_readTape_29, e_R_readTape_30, e_R_readTape_33, e_R_readTape_34, e_R_readTape_35, e_R_readTape_38, e_R_readTape_41, e_R_readTape_42, e_R_readTape_43, e_R_readTape_44, e_R_readTape_45, is_60 h, and_self, and_true, true_and, and_false, false_and, or_true, true_or, or_false, false_or, not_true_eq_false, not_false_eq_true, if_true, if_false, ne_eq, ite_self, reduceCtorEq, i10, Decidable.not_not, Bool.and_self, Bool.and_true, Bool.true_and, r2, rb_v, r3, rb_i, e9, show ¬ (0 : Int32) ≤ -1 by decide, r4]
      have e5 : I4 60 5 = nI (tC T n j) := u1.2.1.1
      have bC := tC_le (T := T) (n := n) j
      by_cases c3 : tC T n j = 3
      · simp only [c3, if_true] at er
        refine ⟨I4, nI (kyS T n), ?_, ((f1.trans' f2).trans' q2).trans' u2, (fun k D q => by rw [er] at q; cases q; rfl), .inr (11 + 2 * kyS T n), ?_⟩
        · rw [er]
          exact ⟨u1.2.2.1, u1.2.2.2.1, u1.2.2.2.2.1, by omega, u1.2.2.2.2.2⟩
        · rw [st]
          simp only [e_R_readTape_48, e_R_readTape_49, e_R_readTape_52, e_R_readTape_53, is_60 h, and_self, and_true, true_and, and_false, false_and, or_true, true_or, or_false, false_or, not_true_eq_false, not_false_eq_true, if_true, if_false, ne_eq, ite_self, reduceCtorEq, i10, Decidable.not_not, Bool.and_self, Bool.and_true, Bool.true_and, e5, c3, show nI 3 = 3 from rfl]
      · simp only [c3, if_false] at er
        obtain ⟨I5, v1, v2, r5⟩ := s_fail (Ls := Ls) (xs := xs) (e := d + 151) wk u1 (by omega)
        have n3 : ¬ nI (tC T n j) = 3 := by rw [show (3 : Int32) = nI 3 from rfl, nI_eq' (by omega) (by decide)]; exact c3
        refine ⟨I5, nI (kyS T n), by rw [er]; exact ⟨v1.p0, v1.2.2.1⟩, (((f1.trans' f2).trans' q2).trans' u2).trans' v2, (fun k D q => by rw [er] at q; cases q), .inr (11 + 2 * kyS T n), ?_⟩
        rw [st]
        simp only [e_R_readTape_48, e_R_readTape_49, e_R_readTape_52, e_R_readTape_53, e_R_readTape_56, e_R_readTape_57, is_60 h, and_self, and_true, true_and, and_false, false_and, or_true, true_or, or_false, false_or, not_true_eq_false, not_false_eq_true, if_true, if_false, ne_eq, ite_self, reduceCtorEq, i10, Decidable.not_not, Bool.and_self, Bool.and_true, Bool.true_and, e5, n3, r5, rb_v]
end RTP

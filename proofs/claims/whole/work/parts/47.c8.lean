/-! THE CLASS: foresight -/
def Ff (I I2 : mI) (R R2 : mR) : Prop := (∀ b, b < 37 ∨ 58 ≤ b → I2 b = I b) ∧ ∀ b, b ≠ 40 → R2 b = R b
def isP (q : Nat) : Prop := q = 1 ∨ q = 19
theorem isP.q {q : Nat} (h : isP q) : isQ q := by rcases h with rfl | rfl; exact Or.inl rfl; exact Or.inr (Or.inl rfl)
theorem isP.ne {q : Nat} (h : isP q) : q ≠ 38 := by rcases h with rfl | rfl <;> decide
theorem q38 : isQ 38 := Or.inr (Or.inr rfl)
section CT9
variable {Ls : Nat} {xs : Nat → Int32} {d : Nat} {S : mS} {I I2 I3 : mI} {R R2 R3 : mR} {x y z : Int32} {H : mH} {p q : Nat} {a : Nat → Int32}
theorem Ff.rfl' : Ff I I R R := ⟨fun _ _ => rfl, fun _ _ => rfl⟩
theorem Ff.trans' (h : Ff I I2 R R2) (h2 : Ff I2 I3 R2 R3) : Ff I I3 R R3 := ⟨fun b hb => (h2.1 b hb).trans (h.1 b hb), fun b hb => (h2.2 b hb).trans (h.2 b hb)⟩
theorem Fq.ff (h : Fq 38 I I2) : Ff I I2 R R := ⟨fun b hb => h b (by omega), fun _ _ => rfl⟩
theorem Fq.ffr (h : Fq 38 I I2) (hr : ∀ b, b ≠ 38 + 2 → R2 b = R b) : Ff I I2 R R2 := ⟨fun b hb => h b (by omega), hr⟩
theorem Ff.up {b : Nat} {f : Nat → Int32} (h : Ff I I2 R R2) (h1 : 37 ≤ b) (h2 : b < 58) : Ff I (va_up I2 b f) R R2 := ⟨fun c hc => by rw [vu_n (by omega)]; exact h.1 c hc, h.2⟩
theorem SkR.ff (hs : SkR S I R q a) (hq : isP q) (hn : cW (a 1) ≤ 14) (hf : Ff I I2 R R2) : SkR S I2 R2 q a := by
  refine ⟨by rw [hf.1 q (by rcases hq with rfl | rfl <;> omega)]; exact hs.1, fun w k hw hk => ?_, fun t ht => ?_⟩
  · rw [hf.1 (q + 4 + w) (by rcases hq with rfl | rfl <;> omega)]
    exact hs.2.1 w k hw hk
  · rw [hf.2 (q + 2) (by rcases hq with rfl | rfl <;> omega)]
    exact (hs.2.2 t ht).re (fun c hc => hf.1 c (by omega)) (fun c hc => hf.2 c (by omega))
theorem WF.ff (h : WF S R) (hf : Ff I I2 R R2) : WF S R2 := h.re q38 hf.2
/-- a cell of 37, 56 or 57 changes: the sky of 38 keeps -/
theorem SkR.o38 (hs : SkR S I R 38 a) (hn : cW (a 1) ≤ 14) {b : Nat} {f : Nat → Int32} (hb : b = 37 ∨ b = 56 ∨ b = 57) : SkR S (va_up I b f) R 38 a :=
  hs.fr (vu_n (by omega)) (fun w hw => vu_n (by omega)) (fun c hc => vu_n (by omega)) hn
theorem l_J_fill {r m : Nat} (hr : h_is S r 100 m = true) (hm : m < 2 ^ 30) : ∀ (j k : Nat) (I : mI), k + j = m → rn Ls xs d 182 5 [some (.inr (.inl (some r))), some (.inl x), some (.inl (nI k)), some (.inl (nI m))] [] (S, I, R) = some (none, (S, va_up I r (fun i => if k ≤ i ∧ i < m then x else I r i), R)) := by
  have hr2 := h_is_iff.mp hr
  intro j
  induction j with
  | zero =>
    intro k I hk
    have : k = m := by omega
    subst this
    have e : (fun i => if k ≤ i ∧ i < k then x else I r i) = I r := by funext i; rw [if_neg (by omega)]
    rw [e_JArrays_fill_5, e, vu_id]
    simp only [e_JArrays_fill_0, e_JArrays_fill_1, e_JArrays_fill_2, e_JArrays_fill_3, e_JArrays_fill_4, e_JArrays_fill_6, e_JArrays_fill_7, e_JArrays_fill_10, e_JArrays_fill_11, e_JArrays_fill_12, e_JArrays_fill_13, e_JArrays_fill_14, e_JArrays_fill_17, e_JArrays_fill_20, nI_le' (show k < 2 ^ 31 by omega) (show k < 2 ^ 31 by omega), Nat.le_refl, if_true]
  | succ j ih =>
    intro k I hk
    have ia : h_ia S r 0 (nI k) = true := h_ia_iff.mpr ⟨hr2.1, by rw [hr2.2], by rw [nI_toInt (by omega)]; omega, by rw [nI_toInt (by omega), hr2.2]; show (k : Int) < m; omega⟩
    have ih1 := ih (k + 1) (va_up I r (upd (I r) k x)) (by omega)
    have e : (fun i => if k + 1 ≤ i ∧ i < m then x else va_up I r (upd (I r) k x) r i) = fun i => if k ≤ i ∧ i < m then x else I r i := by
      funext i
      rw [vu_s]
      by_cases h1 : i = k
      · subst h1
        rw [if_neg (by omega), up_s, if_pos (by omega)]
      · rw [up_n h1]
        by_cases h2 : k + 1 ≤ i ∧ i < m
        · rw [if_pos h2, if_pos (by omega)]
        · rw [if_neg h2, if_neg (by omega)]
    rw [e, vu_vu] at ih1
    rw [e_JArrays_fill_5, ← ih1]
    simp only [e_JArrays_fill_0, e_JArrays_fill_1, e_JArrays_fill_2, e_JArrays_fill_3, e_JArrays_fill_4, e_JArrays_fill_6, e_JArrays_fill_7, e_JArrays_fill_10, e_JArrays_fill_11, e_JArrays_fill_12, e_JArrays_fill_13, e_JArrays_fill_14, e_JArrays_fill_17, e_JArrays_fill_20, nI_le' (show m < 2 ^ 31 by omega) (show k < 2 ^ 31 by omega), show ¬ m ≤ k by omega, and_self, and_true, true_and, and_false, false_and, or_true, true_or, or_false, false_or, not_true_eq_false, not_false_eq_true, if_true, if_false, ne_eq, ite_self, reduceCtorEq, i10, Decidable.not_not, Bool.and_self, Bool.and_true, Bool.true_and, ia, nI_clamp (show k < 2 ^ 31 by omega), nI_1]
theorem k_J_fill {r m : Nat} (hr : h_is S r 100 m = true) (hm : m < 2 ^ 30) : rn Ls xs d 182 0 [some (.inr (.inl (some r))), some (.inl x), none, none] [] (S, I, R) = some (none, (S, va_up I r (fun i => if i < m then x else I r i), R)) := by
  have l := l_J_fill (Ls := Ls) (xs := xs) (d := d) (x := x) (R := R) hr hm m 0 I (by omega)
  have e : (fun i => if 0 ≤ i ∧ i < m then x else I r i) = fun i => if i < m then x else I r i := by
    funext i
    by_cases h : i < m
    · rw [if_pos ⟨by omega, h⟩, if_pos h]
    · rw [if_neg (by omega), if_neg h]
  rw [e] at l
  have l : rn Ls xs d 182 5 [some (.inr (.inl (some r))), some (.inl x), some (.inl 0), some (.inl (nI m))] [] (S, I, R) = _ := l
  have em : (S.1 r).2 = m := by rw [(h_is_iff.mp hr).2]
  have al : h_is S r (100 + 0) m = true := hr
  simp only [e_JArrays_fill_0, e_JArrays_fill_1, e_JArrays_fill_2, e_JArrays_fill_3, e_JArrays_fill_4, em, al, if_true, ofn, l]
theorem k_F_behindHours (h : WF S R) (hq : isP q) {n t : Nat} (hn : t + n < 2 ^ 30) (hs : SkR S I R q a) (hg : gd a) (e2 : a 2 = nI t) : ∃ I2 R2, SkR S I2 R2 38 (hrsS a n) ∧ Ff I I2 R R2 ∧ rn Ls xs (d + 5) 126 0 [some (.inr (.inl (some 37))), some (.inr (.inl (some q))), some (.inl (nI n))] [] (S, I, R) = some (some (.inr (.inl (some 38))), (S, I2, R2)) := by
  obtain ⟨I2, R2, s2, f2, g2, w2, r2⟩ := k_S_becomeAs (Ls := Ls) (xs := xs) (d := d + 3) h q38 hq.q hq.ne hs hg
  obtain ⟨I3, s3, f3, r3⟩ := k_S_passHours (Ls := Ls) (xs := xs) (d := d) w2 q38 hn s2 hg e2
  refine ⟨I3, R2, s3, (f2.ffr g2).trans' f3.ff, ?_⟩
  simp only [e_F_behindHours_0, e_F_behindHours_1, e_F_behindHours_4, e_F_behindHours_5, e_F_behindHours_8, e_F_behindHours_9, e_F_behindHours_12, e_F_behindHours_13, e_F_behindHours_16, e_F_behindHours_17, e_F_behindHours_20, is_37 h, is_38 h, rf_37_0 h, rf_37_0 w2, and_self, and_true, true_and, and_false, false_and, or_true, true_or, or_false, false_or, not_true_eq_false, not_false_eq_true, if_true, if_false, ne_eq, ite_self, reduceCtorEq, i10, Decidable.not_not, Bool.and_self, Bool.and_true, Bool.true_and, r2, r3, rb_v]
theorem l_F_firstBreak (h : WF S R) (hq : isP q) (hg : gd a) {t b : Nat} (ht : t < 2 ^ 29) (hb : b < 2 ^ 29) (e2 : a 2 = nI t) (e4 : a 4 = nI b) : ∀ (j k : Nat) (I : mI), k + j = 200 → SkR S I R 38 (hrsS a k) → SkR S I R q a → ∃ I2, Fq 38 I I2 ∧ rn Ls xs (d + 5) 130 10 [some (.inr (.inl (some 37))), some (.inr (.inl (some q))), some (.inl (nI (k + 1)))] [] (S, I, R) = some (some (.inl (if fsS a j (k + 1) ≤ 200 then nI (fsS a j (k + 1)) else -1000000005)), (S, I2, R)) := by
  have hql : q < 38 := by rcases hq with rfl | rfl <;> omega
  intro j
  induction j with
  | zero =>
    intro k I hk hs hs2
    have : k = 200 := by omega
    subst this
    refine ⟨I, Fq.rfl', ?_⟩
    rw [e_F_firstBreak_10]
    simp only [e_F_firstBreak_0, e_F_firstBreak_1, e_F_firstBreak_4, e_F_firstBreak_5, e_F_firstBreak_8, e_F_firstBreak_9, e_F_firstBreak_11, e_F_firstBreak_14, e_F_firstBreak_17, e_F_firstBreak_18, e_F_firstBreak_21, e_F_firstBreak_22, e_F_firstBreak_25, e_F_firstBreak_26, e_F_firstBreak_29, e_F_firstBreak_32, e_F_firstBreak_33, e_F_firstBreak_36, e_F_firstBreak_39, e_F_firstBreak_40, e_F_firstBreak_41, e_F_firstBreak_44, e_F_firstBreak_47, e_F_firstBreak_49, show (200 : Int32) < nI (200 + 1) from (by decide), if_true, fsS, show ¬ (200 + 1 ≤ 200) by decide, if_false]
  | succ j ih =>
    intro k I hk hs hs2
    have hgk := gd_hrs hg k
    obtain ⟨n, hn, e1, cn⟩ := hg.n
    obtain ⟨I3, s3, f3, r3⟩ := k_S_passHours (Ls := Ls) (xs := xs) (d := d) (n := 1) h q38 (show t + k + 1 < 2 ^ 30 by omega) hs hgk (hrs_2 hg e2 k)
    have s3 : SkR S I3 R 38 (hrsS a (k + 1)) := s3
    have r3 : rn Ls xs (d + 4) 119 0 [some (.inr (.inl (some 38))), some (.inl 1), none] [] (S, I, R) = _ := r3
    have s4 : SkR S I3 R q a := hs2.ot q38 hq.q hq.ne (by omega) f3 (fun _ _ => rfl)
    have lt : ¬ (200 : Int32) < nI (k + 1) := by rw [show (200 : Int32) = nI 200 from rfl, nI_lt' (by decide) (by omega)]; omega
    obtain ⟨i, hi, e5⟩ := hrs_4 hg e4 (k + 1)
    by_cases h0 : i = 0
    · have eq : hrsS a (k + 1) 4 = a 4 := by rw [e5, e4, h0]; rfl
      obtain ⟨I5, f5, r5⟩ := ih (k + 1) I3 (by omega) s3 s4
      refine ⟨I5, f3.trans' f5, ?_⟩
      rw [e_F_firstBreak_10, show fsS a (j + 1) (k + 1) = fsS a j (k + 1 + 1) by rw [fsS, if_pos eq], ← r5]
      simp only [e_F_firstBreak_0, e_F_firstBreak_1, e_F_firstBreak_4, e_F_firstBreak_5, e_F_firstBreak_8, e_F_firstBreak_9, e_F_firstBreak_11, e_F_firstBreak_14, e_F_firstBreak_17, e_F_firstBreak_18, e_F_firstBreak_21, e_F_firstBreak_22, e_F_firstBreak_25, e_F_firstBreak_26, e_F_firstBreak_29, e_F_firstBreak_32, e_F_firstBreak_33, e_F_firstBreak_36, e_F_firstBreak_39, e_F_firstBreak_40, e_F_firstBreak_41, e_F_firstBreak_44, e_F_firstBreak_47, e_F_firstBreak_49, lt, and_self, and_true, true_and, and_false, false_and, or_true, true_or, or_false, false_or, not_true_eq_false, not_false_eq_true, if_true, if_false, ne_eq, ite_self, reduceCtorEq, i10, Decidable.not_not, Bool.and_self, Bool.and_true, Bool.true_and, is_37 h, rf_37_0 h, is_38 h, r3, rb_v, s3.f6, q_is h hq.q, s4.f6, eq, show a 4 ≤ a 4 from i_nlt.mp (by rw [i_lt]; omega), nI_1]
    · have ne : ¬ hrsS a (k + 1) 4 = a 4 := by rw [e5, e4, nI_eq' (by omega) (by omega)]; omega
      have nle : ¬ hrsS a (k + 1) 4 ≤ a 4 := by rw [e5, e4, nI_le' (by omega) (by omega)]; omega
      have fe : fsS a (j + 1) (k + 1) = k + 1 := by rw [fsS, if_neg ne]
      refine ⟨I3, f3, ?_⟩
      rw [e_F_firstBreak_10, fe, if_pos (by omega)]
      simp only [e_F_firstBreak_0, e_F_firstBreak_1, e_F_firstBreak_4, e_F_firstBreak_5, e_F_firstBreak_8, e_F_firstBreak_9, e_F_firstBreak_11, e_F_firstBreak_14, e_F_firstBreak_17, e_F_firstBreak_18, e_F_firstBreak_21, e_F_firstBreak_22, e_F_firstBreak_25, e_F_firstBreak_26, e_F_firstBreak_29, e_F_firstBreak_32, e_F_firstBreak_33, e_F_firstBreak_36, e_F_firstBreak_39, e_F_firstBreak_40, e_F_firstBreak_41, e_F_firstBreak_44, e_F_firstBreak_47, e_F_firstBreak_49, lt, and_self, and_true, true_and, and_false, false_and, or_true, true_or, or_false, false_or, not_true_eq_false, not_false_eq_true, if_true, if_false, ne_eq, ite_self, reduceCtorEq, i10, Decidable.not_not, Bool.and_self, Bool.and_true, Bool.true_and, is_37 h, rf_37_0 h, is_38 h, r3, rb_v, s3.f6, q_is h hq.q, s4.f6, nle]
theorem k_F_firstBreak (h : WF S R) (hq : isP q) (hs : SkR S I R q a) (hg : gd a) {t b : Nat} (ht : t < 2 ^ 29) (hb : b < 2 ^ 29) (e2 : a 2 = nI t) (e4 : a 4 = nI b) : ∃ I2 R2, Ff I I2 R R2 ∧ rn Ls xs (d + 5) 130 0 [some (.inr (.inl (some 37))), some (.inr (.inl (some q))), none] [] (S, I, R) = some (some (.inl (if fsS a 201 0 ≤ 200 then nI (fsS a 201 0) else -1000000005)), (S, I2, R2)) := by
  obtain ⟨n, hn, e1, cn⟩ := hg.n
  obtain ⟨I2, R2, s2, f2, g2, w2, r2⟩ := k_S_becomeAs (Ls := Ls) (xs := xs) (d := d + 3) h q38 hq.q hq.ne hs hg
  have s3 := hs.ff hq (by omega) (f2.ffr g2)
  obtain ⟨I3, f3, r3⟩ := l_F_firstBreak (Ls := Ls) (xs := xs) (d := d) w2 hq hg ht hb e2 e4 200 0 I2 (by omega) s2 s3
  have r3 : rn Ls xs (d + 5) 130 10 [some (.inr (.inl (some 37))), some (.inr (.inl (some q))), some (.inl 1)] [] (S, I2, R2) = _ := r3
  have fe : fsS a 201 0 = fsS a 200 1 := by
    show (if hrsS a 0 4 = a 4 then fsS a 200 1 else 0) = _
    exact if_pos rfl
  refine ⟨I3, R2, (f2.ffr g2).trans' f3.ff, ?_⟩
  rw [fe]
  simp only [e_F_firstBreak_0, e_F_firstBreak_1, e_F_firstBreak_4, e_F_firstBreak_5, e_F_firstBreak_8, e_F_firstBreak_9, is_37 h, is_38 h, rf_37_0 h, and_self, and_true, true_and, and_false, false_and, or_true, true_or, or_false, false_or, not_true_eq_false, not_false_eq_true, if_true, if_false, ne_eq, ite_self, reduceCtorEq, i10, Decidable.not_not, Bool.and_self, Bool.and_true, Bool.true_and, r2, rb_v, r3]
/-- a choice -/
def chR (g : Nat → Int32) (I : mI) : Option (Nat × Int32) → Prop
  | none => I 37 3 = NN ∧ I 37 4 = NN
  | some (b, f) => I 37 3 = g b ∧ I 37 4 = f ∧ g b ≠ NN
theorem chR.fr {g : Nat → Int32} {o : Option (Nat × Int32)} (h : chR g I o) (e : I2 37 = I 37) : chR g I2 o := by
  cases o with
  | none => unfold chR at *; rw [e]; exact h
  | some v => obtain ⟨b, f⟩ := v; unfold chR at *; rw [e]; exact h
theorem k_F_chooseNone (h : WF S R) {g : Nat → Int32} : ∃ I2, (∀ b, b ≠ 37 → I2 b = I b) ∧ chR g I2 none ∧ rn Ls xs d 184 0 [some (.inr (.inl (some 37)))] [] (S, I, R) = some (none, (S, I2, R)) := by
  refine ⟨va_up I 37 (upd (upd (I 37) 3 NN) 4 NN), fun b hb => vu_n hb, ?_, ?_⟩
  · unfold chR
    rw [vu_s]
    simp [upd]
  · simp only [e_F_chooseNone_0, e_F_chooseNone_1, e_F_chooseNone_3, e_F_chooseNone_6, e_F_chooseNone_7, e_F_chooseNone_9, e_F_chooseNone_12, is_37 h, and_self, and_true, true_and, and_false, false_and, or_true, true_or, or_false, false_or, not_true_eq_false, not_false_eq_true, if_true, if_false, ne_eq, ite_self, reduceCtorEq, i10, Decidable.not_not, Bool.and_self, Bool.and_true, Bool.true_and, vu_s, vu_vu]
theorem k_F_chooseIfLess (h : WF S R) {g : Nat → Int32} {o : Option (Nat × Int32)} {w : Nat} (hc : chR g I o) (hw : g w ≠ NN) : ∃ I2, (∀ b, b ≠ 37 → I2 b = I b) ∧ chR g I2 (chS w x o) ∧ rn Ls xs d 185 0 [some (.inr (.inl (some 37))), some (.inl (g w)), some (.inl x)] [] (S, I, R) = some (none, (S, I2, R)) := by
  have new : chR g (va_up I 37 (upd (upd (I 37) 3 (g w)) 4 x)) (some (w, x)) := by
    unfold chR
    rw [vu_s]
    exact ⟨by rw [up_n (by decide), up_s], by rw [up_s], hw⟩
  cases o with
  | none =>
    refine ⟨_, fun b hb => vu_n hb, new, ?_⟩
    simp only [e_F_chooseIfLess_0, e_F_chooseIfLess_1, e_F_chooseIfLess_4, e_F_chooseIfLess_6, e_F_chooseIfLess_9, e_F_chooseIfLess_10, e_F_chooseIfLess_11, e_F_chooseIfLess_14, e_F_chooseIfLess_17, e_F_chooseIfLess_18, e_F_chooseIfLess_19, e_F_chooseIfLess_22, e_F_chooseIfLess_23, e_F_chooseIfLess_24, e_F_chooseIfLess_27, is_37 h, and_self, and_true, true_and, and_false, false_and, or_true, true_or, or_false, false_or, not_true_eq_false, not_false_eq_true, if_true, if_false, ne_eq, ite_self, reduceCtorEq, i10, Decidable.not_not, Bool.and_self, Bool.and_true, Bool.true_and, hc.1, vu_s, vu_vu]
  | some v =>
    obtain ⟨b, f⟩ := v
    obtain ⟨c1, c2, c3⟩ := hc
    by_cases hl : x < f
    · refine ⟨_, fun b hb => vu_n hb, by simp only [chS, hl, if_true]; exact new, ?_⟩
      simp only [e_F_chooseIfLess_0, e_F_chooseIfLess_1, e_F_chooseIfLess_4, e_F_chooseIfLess_6, e_F_chooseIfLess_9, e_F_chooseIfLess_10, e_F_chooseIfLess_11, e_F_chooseIfLess_14, e_F_chooseIfLess_17, e_F_chooseIfLess_18, e_F_chooseIfLess_19, e_F_chooseIfLess_22, e_F_chooseIfLess_23, e_F_chooseIfLess_24, e_F_chooseIfLess_27, is_37 h, and_self, and_true, true_and, and_false, false_and, or_true, true_or, or_false, false_or, not_true_eq_false, not_false_eq_true, if_true, if_false, ne_eq, ite_self, reduceCtorEq, i10, Decidable.not_not, Bool.and_self, Bool.and_true, Bool.true_and, c1, c2, c3, i_nle.mpr hl, vu_s, vu_vu]
    · refine ⟨I, fun _ _ => rfl, by simp only [chS, hl, if_false]; exact ⟨c1, c2, c3⟩, ?_⟩
      simp only [e_F_chooseIfLess_0, e_F_chooseIfLess_1, e_F_chooseIfLess_4, e_F_chooseIfLess_6, e_F_chooseIfLess_9, e_F_chooseIfLess_10, e_F_chooseIfLess_11, e_F_chooseIfLess_14, e_F_chooseIfLess_17, e_F_chooseIfLess_18, e_F_chooseIfLess_19, e_F_chooseIfLess_22, e_F_chooseIfLess_23, e_F_chooseIfLess_24, e_F_chooseIfLess_27, is_37 h, and_self, and_true, true_and, and_false, false_and, or_true, true_or, or_false, false_or, not_true_eq_false, not_false_eq_true, if_true, if_false, ne_eq, ite_self, reduceCtorEq, i10, Decidable.not_not, Bool.and_self, Bool.and_true, Bool.true_and, c1, c2, c3, i_nlt.mp hl]
theorem k_F_toldOf (h : WF S R) : rn Ls xs d 137 0 [some (.inr (.inl (some 37))), some (.inl y)] [] (S, I, R) = some (some (.inl (if y = 0 then I 37 3 else I 37 4)), (S, I, R)) := by
  by_cases h0 : y = 0
  · simp only [e_F_toldOf_0, e_F_toldOf_1, e_F_toldOf_4, e_F_toldOf_5, e_F_toldOf_8, e_F_toldOf_11, e_F_toldOf_12, e_F_toldOf_15, is_37 h, and_self, and_true, true_and, and_false, false_and, or_true, true_or, or_false, false_or, not_true_eq_false, not_false_eq_true, if_true, if_false, ne_eq, ite_self, reduceCtorEq, i10, Decidable.not_not, Bool.and_self, Bool.and_true, Bool.true_and, h0]
  · simp only [e_F_toldOf_0, e_F_toldOf_1, e_F_toldOf_4, e_F_toldOf_5, e_F_toldOf_8, e_F_toldOf_11, e_F_toldOf_12, e_F_toldOf_15, is_37 h, and_self, and_true, true_and, and_false, false_and, or_true, true_or, or_false, false_or, not_true_eq_false, not_false_eq_true, if_true, if_false, ne_eq, ite_self, reduceCtorEq, i10, Decidable.not_not, Bool.and_self, Bool.and_true, Bool.true_and, h0]
theorem nI_NN {n : Nat} (hn : n < 2 ^ 31) : nI n ≠ NN := fun e => by
  have := congrArg Int32.toInt e
  rw [nI_toInt hn] at this
  have h2 : Int32.toInt NN = -1000000005 := rfl
  omega
theorem told_A {o : Option (Nat × Int32)} (hc : chR nI I o) : (if y = 0 then I 37 3 else I 37 4) = oA y o := by
  cases o with
  | none => unfold oA; rw [hc.1, hc.2, ite_self]
  | some v => obtain ⟨b, f⟩ := v; unfold oA; rw [hc.1, hc.2.1]
theorem told_Q {o : Option (Nat × Int32)} (hc : chR (fun i => nI i - 9) I o) : (if y = 0 then I 37 3 else I 37 4) = oQ y o := by
  cases o with
  | none => unfold oQ; rw [hc.1, hc.2, ite_self]
  | some v => obtain ⟨b, f⟩ := v; unfold oQ; rw [hc.1, hc.2.1]
end CT9

/-! THE CLASS: under -/
section CTC
variable {Ls : Nat} {xs : Nat → Int32} {d : Nat} {S : mS} {I I2 I3 : mI} {R R2 R3 : mR} {x y z : Int32} {H : mH} {p q : Nat} {a : Nat → Int32}
theorem l_F_under1 (h : WF S R) {l1 l2 l3 : Option mV} {v : Int32} : ∀ (j k : Nat) (I : mI), k + j = 30 → rn Ls xs d 140 43 [some (.inr (.inl (some 37))), l1, l2, l3, some (.inl v), some (.inl (nI k))] [] (S, I, R) = rn Ls xs d 140 73 [some (.inr (.inl (some 37))), l1, l2, l3, some (.inl v), some (.inl (nI 30))] [] (S, va_up I 57 (fun i => if k ≤ i ∧ i < 30 then I 57 i + ((v >>> (nI i &&& 31)) &&& 1) else I 57 i), R) := by
  intro j
  induction j with
  | zero =>
    intro k I hk
    have : k = 30 := by omega
    subst this
    have e : (fun i => if 30 ≤ i ∧ i < 30 then I 57 i + ((v >>> (nI i &&& 31)) &&& 1) else I 57 i) = I 57 := by funext i; rw [if_neg (by omega)]
    rw [e_F_choosePlaceUnder_43, e, vu_id]
    simp only [e_F_choosePlaceUnder_45, e_F_choosePlaceUnder_47, show (30 : Int32) ≤ nI 30 from (by decide), if_true]
  | succ j ih =>
    intro k I hk
    have l30 : ¬ (30 : Int32) ≤ nI k := by rw [show (30 : Int32) = nI 30 from rfl, nI_le' (by decide) (by omega)]; omega
    have ih1 := ih (k + 1) (va_up I 57 (upd (I 57) k (I 57 k + ((v >>> (nI k &&& 31)) &&& 1)))) (by omega)
    have e : (fun i => if k + 1 ≤ i ∧ i < 30 then va_up I 57 (upd (I 57) k (I 57 k + ((v >>> (nI k &&& 31)) &&& 1))) 57 i + ((v >>> (nI i &&& 31)) &&& 1) else va_up I 57 (upd (I 57) k (I 57 k + ((v >>> (nI k &&& 31)) &&& 1))) 57 i) = fun i => if k ≤ i ∧ i < 30 then I 57 i + ((v >>> (nI i &&& 31)) &&& 1) else I 57 i := by
      funext i
      rw [vu_s]
      by_cases h1 : i = k
      · subst h1
        rw [if_neg (by omega), up_s, if_pos (by omega)]
      · rw [up_n h1]
        by_cases h2 : k + 1 ≤ i ∧ i < 30
        · rw [if_pos h2, if_pos (by omega)]
        · rw [if_neg h2, if_neg (by omega)]
    rw [e, vu_vu] at ih1
    rw [e_F_choosePlaceUnder_43, ← ih1]
    simp only [e_F_choosePlaceUnder_45, e_F_choosePlaceUnder_47, e_F_choosePlaceUnder_50, e_F_choosePlaceUnder_51, e_F_choosePlaceUnder_54, e_F_choosePlaceUnder_56, e_F_choosePlaceUnder_57, e_F_choosePlaceUnder_58, e_F_choosePlaceUnder_60, e_F_choosePlaceUnder_62, e_F_choosePlaceUnder_63, e_F_choosePlaceUnder_64, e_F_choosePlaceUnder_65, e_F_choosePlaceUnder_66, e_F_choosePlaceUnder_67, e_F_choosePlaceUnder_70, l30, and_self, and_true, true_and, and_false, false_and, or_true, true_or, or_false, false_or, not_true_eq_false, not_false_eq_true, if_true, if_false, ne_eq, ite_self, reduceCtorEq, i10, Decidable.not_not, Bool.and_self, Bool.and_true, Bool.true_and, is_37 h, rf_37_2 h, ia_57 h (show k < 30 by omega), nI_clamp (show k < 2 ^ 31 by omega), nI_1]
theorem l_F_under2 (h : WF S R) (hg : gd a) {t n : Nat} (ht : t + n < 2 ^ 30) (e2 : a 2 = nI t) {l1 : Option mV} : ∀ (j k : Nat) (I : mI) (l4 l5 : Option mV), k + j = n → SkR S I R 38 (hrsS a k) → (∀ p, p < 30 → I 57 p = uhS a k p) → ∃ I2 l42 l52, Ff I I2 R R ∧ (∀ p, p < 30 → I2 57 p = uhS a n p) ∧ rn Ls xs (d + 5) 140 18 [some (.inr (.inl (some 37))), l1, some (.inl (nI n)), some (.inl (nI k)), l4, l5] [] (S, I, R) = rn Ls xs (d + 5) 140 79 [some (.inr (.inl (some 37))), l1, some (.inl (nI n)), some (.inl (nI n)), l42, l52] [] (S, I2, R) := by
  intro j
  induction j with
  | zero =>
    intro k I l4 l5 hk hs hb
    have : k = n := by omega
    subst this
    refine ⟨I, l4, l5, Ff.rfl', hb, ?_⟩
    rw [e_F_choosePlaceUnder_18]
    simp only [e_F_choosePlaceUnder_19, e_F_choosePlaceUnder_20, nI_le' (show k < 2 ^ 31 by omega) (show k < 2 ^ 31 by omega), Nat.le_refl, if_true]
  | succ j ih =>
    intro k I l4 l5 hk hs hb
    obtain ⟨I3, s3, f3, r3⟩ := k_S_passHours (Ls := Ls) (xs := xs) (d := d) (n := 1) h q38 (show t + k + 1 < 2 ^ 30 by omega) hs (gd_hrs hg k) (hrs_2 hg e2 k)
    have s3 : SkR S I3 R 38 (hrsS a (k + 1)) := s3
    have r3 : rn Ls xs (d + 4) 119 0 [some (.inr (.inl (some 38))), some (.inl 1), none] [] (S, I, R) = _ := r3
    obtain ⟨m, hm, em, cm⟩ := (gd_hrs hg (k + 1)).n
    have r4 := k_S_upPlaces (Ls := Ls) (xs := xs) (d := d + 4) h q38 s3 (gd_hrs hg (k + 1))
    have r5 := l_F_under1 (Ls := Ls) (xs := xs) (d := d + 5) (l1 := l1) (l2 := some (.inl (nI n))) (l3 := some (.inl (nI k))) (v := uaS (hrsS a (k + 1)) 0 (cW (hrsS a (k + 1) 1)) 0) h 30 0 I3 (by omega)
    have r5 : rn Ls xs (d + 5) 140 43 [some (.inr (.inl (some 37))), l1, some (.inl (nI n)), some (.inl (nI k)), some (.inl (uaS (hrsS a (k + 1)) 0 (cW (hrsS a (k + 1) 1)) 0)), some (.inl 0)] [] (S, I3, R) = _ := r5
    obtain ⟨I6, l42, l52, f6, b6, r6⟩ := ih (k + 1) _ (some (.inl (uaS (hrsS a (k + 1)) 0 (cW (hrsS a (k + 1) 1)) 0))) (some (.inl (nI 30))) (by omega) (s3.o38 (by omega) (b := 57) (f := fun i => if 0 ≤ i ∧ i < 30 then I3 57 i + ((uaS (hrsS a (k + 1)) 0 (cW (hrsS a (k + 1) 1)) 0 >>> (nI i &&& 31)) &&& 1) else I3 57 i) (Or.inr (Or.inr rfl))) (by
      intro p hp
      rw [vu_s]
      show (if 0 ≤ p ∧ p < 30 then _ else _) = _
      rw [if_pos ⟨by omega, hp⟩, f3 57 (by omega), hb p hp]
      rfl)
    refine ⟨I6, l42, l52, (f3.ff.up (by decide) (by decide)).trans' f6, b6, ?_⟩
    rw [e_F_choosePlaceUnder_18, ← r6]
    simp only [e_F_choosePlaceUnder_19, e_F_choosePlaceUnder_20, e_F_choosePlaceUnder_23, e_F_choosePlaceUnder_24, e_F_choosePlaceUnder_27, e_F_choosePlaceUnder_28, e_F_choosePlaceUnder_31, e_F_choosePlaceUnder_32, e_F_choosePlaceUnder_35, e_F_choosePlaceUnder_38, e_F_choosePlaceUnder_40, e_F_choosePlaceUnder_41, nI_le' (show n < 2 ^ 31 by omega) (show k < 2 ^ 31 by omega), show ¬ n ≤ k by omega, and_self, and_true, true_and, and_false, false_and, or_true, true_or, or_false, false_or, not_true_eq_false, not_false_eq_true, if_true, if_false, ne_eq, ite_self, reduceCtorEq, i10, Decidable.not_not, Bool.and_self, Bool.and_true, Bool.true_and, is_37 h, rf_37_0 h, is_38 h, r3, rb_v, r4, rb_i, r5]
    simp only [e_F_choosePlaceUnder_73, e_F_choosePlaceUnder_76, nI_1]
theorem l_F_under3 (h : WF S R) {l1 l2 l4 l5 : Option mV} {f : Nat → Int32} : ∀ (j k b : Nat) (I : mI), k + j = 30 → b < 30 → I 37 3 = nI b → (∀ p, p < 30 → I 57 p = f p) → ∃ I2, (∀ c, c ≠ 37 → I2 c = I c) ∧ I2 37 3 = nI (mxS f b k j) ∧ I2 37 4 = f (mxS f b k j) ∧ rn Ls xs d 140 86 [some (.inr (.inl (some 37))), l1, l2, some (.inl (nI k)), l4, l5] [] (S, I, R) = some (none, (S, I2, R)) := by
  intro j
  induction j with
  | zero =>
    intro k b I hk hb h3 hf
    have : k = 30 := by omega
    subst this
    refine ⟨va_up I 37 (upd (I 37) 4 (f b)), fun c hc => vu_n hc, by rw [vu_s, up_n (by decide), h3]; rfl, by rw [vu_s, up_s]; rfl, ?_⟩
    rw [e_F_choosePlaceUnder_86]
    simp only [e_F_choosePlaceUnder_87, e_F_choosePlaceUnder_89, e_F_choosePlaceUnder_128, e_F_choosePlaceUnder_129, e_F_choosePlaceUnder_130, e_F_choosePlaceUnder_133, e_F_choosePlaceUnder_134, e_F_choosePlaceUnder_137, e_F_choosePlaceUnder_138, e_F_choosePlaceUnder_141, show (30 : Int32) ≤ nI 30 from (by decide), and_self, and_true, true_and, and_false, false_and, or_true, true_or, or_false, false_or, not_true_eq_false, not_false_eq_true, if_true, if_false, ne_eq, ite_self, reduceCtorEq, i10, Decidable.not_not, Bool.and_self, Bool.and_true, Bool.true_and, is_37 h, rf_37_2 h, h3, ia_57 h hb, nI_clamp (show b < 2 ^ 31 by omega), hf b hb]
  | succ j ih =>
    intro k b I hk hb h3 hf
    have l30 : ¬ (30 : Int32) ≤ nI k := by rw [show (30 : Int32) = nI 30 from rfl, nI_le' (by decide) (by omega)]; omega
    have bk : (if f b < f k then k else b) < 30 := by split <;> omega
    obtain ⟨I2, g1, g2, g3, r2⟩ := ih (k + 1) (if f b < f k then k else b) (va_up I 37 (upd (I 37) 3 (nI (if f b < f k then k else b)))) (by omega) bk (by rw [vu_s, up_s]) (fun p hp => by rw [vu_n (by decide)]; exact hf p hp)
    refine ⟨I2, fun c hc => by rw [g1 c hc, vu_n hc], g2, g3, ?_⟩
    rw [e_F_choosePlaceUnder_86, ← r2]
    by_cases hl : f b < f k
    · simp only [e_F_choosePlaceUnder_87, e_F_choosePlaceUnder_89, e_F_choosePlaceUnder_92, e_F_choosePlaceUnder_93, e_F_choosePlaceUnder_94, e_F_choosePlaceUnder_97, e_F_choosePlaceUnder_98, e_F_choosePlaceUnder_99, e_F_choosePlaceUnder_100, e_F_choosePlaceUnder_103, e_F_choosePlaceUnder_104, e_F_choosePlaceUnder_107, e_F_choosePlaceUnder_108, e_F_choosePlaceUnder_111, e_F_choosePlaceUnder_112, e_F_choosePlaceUnder_115, e_F_choosePlaceUnder_116, e_F_choosePlaceUnder_119, e_F_choosePlaceUnder_122, e_F_choosePlaceUnder_125, l30, and_self, and_true, true_and, and_false, false_and, or_true, true_or, or_false, false_or, not_true_eq_false, not_false_eq_true, if_true, if_false, ne_eq, ite_self, reduceCtorEq, i10, Decidable.not_not, Bool.and_self, Bool.and_true, Bool.true_and, is_37 h, rf_37_2 h, h3, ia_57 h hb, ia_57 h (show k < 30 by omega), nI_clamp (show b < 2 ^ 31 by omega), nI_clamp (show k < 2 ^ 31 by omega), hf b hb, hf k (by omega), i_nle.mpr hl, hl, nI_1]
    · simp only [e_F_choosePlaceUnder_87, e_F_choosePlaceUnder_89, e_F_choosePlaceUnder_92, e_F_choosePlaceUnder_93, e_F_choosePlaceUnder_94, e_F_choosePlaceUnder_97, e_F_choosePlaceUnder_98, e_F_choosePlaceUnder_99, e_F_choosePlaceUnder_100, e_F_choosePlaceUnder_103, e_F_choosePlaceUnder_104, e_F_choosePlaceUnder_107, e_F_choosePlaceUnder_108, e_F_choosePlaceUnder_111, e_F_choosePlaceUnder_112, e_F_choosePlaceUnder_115, e_F_choosePlaceUnder_116, e_F_choosePlaceUnder_119, e_F_choosePlaceUnder_122, e_F_choosePlaceUnder_125, l30, and_self, and_true, true_and, and_false, false_and, or_true, true_or, or_false, false_or, not_true_eq_false, not_false_eq_true, if_true, if_false, ne_eq, ite_self, reduceCtorEq, i10, Decidable.not_not, Bool.and_self, Bool.and_true, Bool.true_and, is_37 h, rf_37_2 h, h3, ia_57 h hb, ia_57 h (show k < 30 by omega), nI_clamp (show b < 2 ^ 31 by omega), nI_clamp (show k < 2 ^ 31 by omega), hf b hb, hf k (by omega), i_nlt.mp hl, hl, nI_1]
theorem k_F_choosePlaceUnder (h : WF S R) (hq : isP q) (hs : SkR S I R q a) (hg : gd a) {t n : Nat} (ht : t + n < 2 ^ 30) (e2 : a 2 = nI t) : ∃ I2 R2, Ff I I2 R R2 ∧ I2 37 3 = nI (mxS (uhS a n) 0 1 29) ∧ I2 37 4 = uhS a n (mxS (uhS a n) 0 1 29) ∧ rn Ls xs (d + 5) 140 0 [some (.inr (.inl (some 37))), some (.inr (.inl (some q))), some (.inl (nI n)), none, none, none] [] (S, I, R) = some (none, (S, I2, R2)) := by
  obtain ⟨m, hm, e1, cm⟩ := hg.n
  obtain ⟨I2, R2, s2, f2, g2, w2, r2⟩ := k_S_becomeAs (Ls := Ls) (xs := xs) (d := d + 3) h q38 hq.q hq.ne hs hg
  have r3 := k_J_fill (Ls := Ls) (xs := xs) (d := d + 4) (x := 0) (I := I2) (R := R2) (is_57 h) (by decide)
  obtain ⟨I4, l4, l5, f4, b4, r4⟩ := l_F_under2 (Ls := Ls) (xs := xs) (d := d) (l1 := some (.inr (.inl (some q)))) w2 hg ht e2 n 0 (va_up I2 57 (fun i => if i < 30 then 0 else I2 57 i)) none none (by omega) (s2.o38 (by omega) (Or.inr (Or.inr rfl))) (by
    intro k hk
    rw [vu_s, if_pos hk]
    rfl)
  have r4 : rn Ls xs (d + 5) 140 18 [some (.inr (.inl (some 37))), some (.inr (.inl (some q))), some (.inl (nI n)), some (.inl 0), none, none] [] _ = _ := r4
  obtain ⟨I5, g5, h5, h6, r5⟩ := l_F_under3 (Ls := Ls) (xs := xs) (d := d + 5) (l1 := some (.inr (.inl (some q)))) (l2 := some (.inl (nI n))) (l4 := l4) (l5 := l5) (f := uhS a n) w2 29 1 0 (va_up I4 37 (upd (I4 37) 3 0)) (by omega) (by decide) (by rw [vu_s, up_s]; rfl) (fun p hp => by rw [vu_n (by decide)]; exact b4 p hp)
  have r5 : rn Ls xs (d + 5) 140 86 [some (.inr (.inl (some 37))), some (.inr (.inl (some q))), some (.inl (nI n)), some (.inl 1), l4, l5] [] _ = _ := r5
  refine ⟨I5, R2, (((f2.ffr g2).up (b := 57) (by decide) (by decide)).trans' (f4.up (b := 37) (by decide) (by decide))).trans' (F37 g5), h5, h6, ?_⟩
  simp only [e_F_choosePlaceUnder_0, e_F_choosePlaceUnder_1, e_F_choosePlaceUnder_4, e_F_choosePlaceUnder_5, e_F_choosePlaceUnder_8, e_F_choosePlaceUnder_9, e_F_choosePlaceUnder_12, e_F_choosePlaceUnder_13, e_F_choosePlaceUnder_16, e_F_choosePlaceUnder_17, is_37 h, is_38 h, rf_37_0 h, rf_37_2 w2, and_self, and_true, true_and, and_false, false_and, or_true, true_or, or_false, false_or, not_true_eq_false, not_false_eq_true, if_true, if_false, ne_eq, ite_self, reduceCtorEq, i10, Decidable.not_not, Bool.and_self, Bool.and_true, Bool.true_and, r2, rb_v, r3, r4]
  simp only [e_F_choosePlaceUnder_79, e_F_choosePlaceUnder_80, e_F_choosePlaceUnder_81, e_F_choosePlaceUnder_84, e_F_choosePlaceUnder_85, is_37 h, and_self, and_true, true_and, and_false, false_and, or_true, true_or, or_false, false_or, not_true_eq_false, not_false_eq_true, if_true, if_false, ne_eq, ite_self, reduceCtorEq, i10, Decidable.not_not, Bool.and_self, Bool.and_true, Bool.true_and, r5]
end CTC
/-! nearest -/
def cvN (s : Int32) : Int32 := if s = NN then 30 else s
def wyS (x y : Int32) : Int32 := miS (if 0 ≤ x - y then x - y else -(x - y)) (30 - (if 0 ≤ x - y then x - y else -(x - y)))
theorem way_all : ∀ i, i < 30 → ∀ j, j < 30 → (wyS (nI i) (nI j) = apS (nI j) (nI i) ∧ 0 ≤ apS (nI j) (nI i) ∧ apS (nI j) (nI i) < 30) := by decide +kernel
theorem way_eq {x y : Int32} (hx : okF 2 x) (hy : okF 2 y) : wyS x y = apS y x ∧ 0 ≤ apS y x ∧ apS y x < 30 := by
  obtain ⟨i, -, hi, rfl⟩ := inN (a := 0) (b := 29) (by decide) (okF2 hx) rfl rfl
  obtain ⟨j, -, hj, rfl⟩ := inN (a := 0) (b := 29) (by decide) (okF2 hy) rfl rfl
  exact way_all i (by omega) j (by omega)
theorem ap_sy {x y : Int32} (hx : okF 2 x) (hy : okF 2 y) : wyS x y = apS y x := (way_eq hx hy).1
/-- the least way, as the class goes -/
def nwC (a : Nat → Int32) (w : Nat) : Nat → Nat → Int32 → Int32
  | _, 0, s => s
  | o, j + 1, s => nwC a w (o + 1) j (if o = w then s else if a (8 + 6 * w + 5) = 1 ∧ a (8 + 6 * o + 5) = 1 ∧ a (8 + 6 * o + 1) = a (8 + 6 * w + 1) then miS s (wyS (a (8 + 6 * w + 2)) (a (8 + 6 * o + 2))) else s)
theorem miS_as (x y z : Int32) : miS x (miS y z) = miS (miS x y) z := by
  unfold miS
  simp only [i_lt]
  repeat' split
  all_goals first | rfl | (apply i_eqI; omega)
theorem nwC_mi (a : Nat → Int32) (w : Nat) : ∀ (j o : Nat) (s0 s : Int32), nwC a w o j (miS s0 s) = miS s0 (nwC a w o j s)
  | 0, _, _, _ => rfl
  | j + 1, o, s0, s => by
    show nwC a w (o + 1) j _ = miS s0 (nwC a w (o + 1) j _)
    rw [← nwC_mi a w j (o + 1)]
    congr 1
    by_cases h1 : o = w
    · rw [if_pos h1, if_pos h1]
    · rw [if_neg h1, if_neg h1]
      split
      · rw [miS_as]
      · rfl
theorem nwC_dn {a : Nat → Int32} {w : Nat} (h : ¬ a (8 + 6 * w + 5) = 1) : ∀ (j o : Nat) (s : Int32), nwC a w o j s = s
  | 0, _, _ => rfl
  | j + 1, o, s => by
    show nwC a w (o + 1) j _ = s
    rw [nwC_dn h j (o + 1)]
    split
    · rfl
    · rw [if_neg (fun q => h q.1)]
/-- a good least way: none yet, or a way -/
def okN (s : Int32) : Prop := s = NN ∨ (0 ≤ s ∧ s < 30)
theorem cvN_mi {s x : Int32} (hs : okN s) (hx : 0 ≤ x ∧ x < 30) : cvN (if s = NN ∨ x < s then x else s) = miS (cvN s) x := by
  have z0 : Int32.toInt 0 = 0 := rfl
  have z30 : Int32.toInt 30 = 30 := rfl
  have zN : Int32.toInt NN = -1000000005 := rfl
  have nx : x ≠ NN := fun e => by rw [e] at hx; exact absurd hx.1 (by decide)
  simp only [i_le, i_lt, z0, z30] at hx
  unfold cvN miS
  rcases hs with rfl | hs
  · rw [if_pos (Or.inl rfl), if_neg nx, if_pos rfl, if_pos (by rw [i_lt, z30]; omega)]
  · have ns : s ≠ NN := fun e => by rw [e] at hs; exact absurd hs.1 (by decide)
    rw [if_neg ns]
    by_cases h : x < s
    · rw [if_pos (Or.inr h), if_neg nx, if_pos h]
    · have hor : ¬ (s = NN ∨ x < s) := fun q => q.elim ns h
      rw [if_neg hor, if_neg ns, if_neg h]
theorem okN_st {s x : Int32} (hs : okN s) (hx : 0 ≤ x ∧ x < 30) : okN (if s = NN ∨ x < s then x else s) := by
  split
  · exact Or.inr hx
  · exact hs
theorem nr_nw {a : Nat → Int32} {w n : Nat} (hf : ∀ w, w < n → okF 2 (a (8 + 6 * w + 2))) (hw : w < n) : ∀ (j o : Nat) (s : Int32), o + j = n → okN s → cvN (nrS a w o j s) = nwC a w o j (cvN s) ∧ okN (nrS a w o j s)
  | 0, _, _, _, hs => ⟨rfl, hs⟩
  | j + 1, o, s, ho, hs => by
    have wy := way_eq (hf w hw) (hf o (by omega))
    have st := nr_nw hf hw j (o + 1) (if o = w then s else if a (8 + 6 * w + 5) = 1 ∧ a (8 + 6 * o + 5) = 1 ∧ a (8 + 6 * o + 1) = a (8 + 6 * w + 1) then (if s = NN ∨ apS (a (8 + 6 * o + 2)) (a (8 + 6 * w + 2)) < s then apS (a (8 + 6 * o + 2)) (a (8 + 6 * w + 2)) else s) else s) (by omega) (by
      split
      · exact hs
      · split
        · exact okN_st hs wy.2
        · exact hs)
    refine ⟨?_, st.2⟩
    show cvN (nrS a w (o + 1) j _) = nwC a w (o + 1) j _
    rw [st.1]
    congr 1
    by_cases h1 : o = w
    · rw [if_pos h1, if_pos h1]
    · rw [if_neg h1, if_neg h1]
      split
      · rw [cvN_mi hs wy.2, wy.1]
      · rfl
section CTD
variable {Ls : Nat} {xs : Nat → Int32} {d : Nat} {S : mS} {I I2 I3 : mI} {R R2 R3 : mR} {x y z : Int32} {H : mH} {p q : Nat} {a : Nat → Int32}
theorem k_W_wayRound : rn Ls xs (d + 1) 189 0 [some (.inl x), some (.inl y), none] [] H = some (some (.inl (wyS x y)), H) := by
  simp only [e_W_wayRound_0, e_W_wayRound_1, e_W_wayRound_2, e_W_wayRound_3, e_W_wayRound_6, e_W_wayRound_7, e_W_wayRound_8, e_W_wayRound_10, e_W_wayRound_11, e_W_wayRound_12, e_W_wayRound_15, k_J_abs, k_J_min, rb_i, wyS]
theorem l_F_nearestNow (h : WF S R) {n w : Nat} (hn : n ≤ 14) (hw : w < n) (hg : gd a) (e1 : a 1 = nI n) (hs : SkR S I R 38 a) : ∀ (j o : Nat) (s : Int32) (l5 : Option mV), o + j = n → rn Ls xs (d + 2) 187 16 [some (.inr (.inl (some 37))), some (.inl (nI w)), some (.inr (.inl (some (38 + 4 + w)))), some (.inl s), some (.inl (nI o)), l5] [] (S, I, R) = some (some (.inl (nwC a w o j s)), (S, I, R)) := by
  have cn : cW (a 1) = n := by rw [e1, cW, nI_clamp (by omega)]
  have hw14 : w < 14 := by omega
  have wi := q_wi h q38 hw14
  have w1 : I (38 + 4 + w) 1 = a (8 + 6 * w + 1) := hs.2.1 w 1 (by omega) (by omega)
  have w2 : I (38 + 4 + w) 2 = a (8 + 6 * w + 2) := hs.2.1 w 2 (by omega) (by omega)
  have w5 : I (38 + 4 + w) 5 = a (8 + 6 * w + 5) := hs.2.1 w 5 (by omega) (by omega)
  intro j
  induction j with
  | zero =>
    intro o s l5 ho
    have : o = n := by omega
    subst this
    rw [e_F_nearestNow_16]
    simp only [e_F_nearestNow_0, e_F_nearestNow_1, e_F_nearestNow_4, e_F_nearestNow_7, e_F_nearestNow_8, e_F_nearestNow_9, e_F_nearestNow_10, e_F_nearestNow_12, e_F_nearestNow_13, e_F_nearestNow_14, e_F_nearestNow_18, e_F_nearestNow_19, e_F_nearestNow_22, e_F_nearestNow_25, e_F_nearestNow_28, e_F_nearestNow_29, e_F_nearestNow_32, e_F_nearestNow_35, e_F_nearestNow_36, e_F_nearestNow_39, e_F_nearestNow_42, e_F_nearestNow_44, e_F_nearestNow_45, e_F_nearestNow_47, e_F_nearestNow_49, e_F_nearestNow_50, e_F_nearestNow_53, e_F_nearestNow_55, e_F_nearestNow_58, e_F_nearestNow_61, e_F_nearestNow_63, e_F_nearestNow_66, e_F_nearestNow_67, e_F_nearestNow_70, e_F_nearestNow_73, e_F_nearestNow_74, e_F_nearestNow_75, e_F_nearestNow_78, e_F_nearestNow_80, e_F_nearestNow_83, e_F_nearestNow_86, e_F_nearestNow_89, e_F_nearestNow_90, e_F_nearestNow_93, e_F_nearestNow_96, e_F_nearestNow_97, is_37 h, rf_37_0 h, is_38 h, hs.f3, e1, nI_le' (show o < 2 ^ 31 by omega) (show o < 2 ^ 31 by omega), Nat.le_refl, if_true, nwC]
  | succ j ih =>
    intro o s l5 ho
    have ho14 : o < 14 := by omega
    have oi := q_wi h q38 ho14
    have o1 : I (38 + 4 + o) 1 = a (8 + 6 * o + 1) := hs.2.1 o 1 (by omega) (by omega)
    have o2 : I (38 + 4 + o) 2 = a (8 + 6 * o + 2) := hs.2.1 o 2 (by omega) (by omega)
    have o5 : I (38 + 4 + o) 5 = a (8 + 6 * o + 5) := hs.2.1 o 5 (by omega) (by omega)
    rw [e_F_nearestNow_16]
    rcases okF5 (hg.2 w 5 (by omega) (by decide)) with eu | eu
    · rw [nwC_dn (by rw [eu]; decide)]
      simp only [e_F_nearestNow_0, e_F_nearestNow_1, e_F_nearestNow_4, e_F_nearestNow_7, e_F_nearestNow_8, e_F_nearestNow_9, e_F_nearestNow_10, e_F_nearestNow_12, e_F_nearestNow_13, e_F_nearestNow_14, e_F_nearestNow_18, e_F_nearestNow_19, e_F_nearestNow_22, e_F_nearestNow_25, e_F_nearestNow_28, e_F_nearestNow_29, e_F_nearestNow_32, e_F_nearestNow_35, e_F_nearestNow_36, e_F_nearestNow_39, e_F_nearestNow_42, e_F_nearestNow_44, e_F_nearestNow_45, e_F_nearestNow_47, e_F_nearestNow_49, e_F_nearestNow_50, e_F_nearestNow_53, e_F_nearestNow_55, e_F_nearestNow_58, e_F_nearestNow_61, e_F_nearestNow_63, e_F_nearestNow_66, e_F_nearestNow_67, e_F_nearestNow_70, e_F_nearestNow_73, e_F_nearestNow_74, e_F_nearestNow_75, e_F_nearestNow_78, e_F_nearestNow_80, e_F_nearestNow_83, e_F_nearestNow_86, e_F_nearestNow_89, e_F_nearestNow_90, e_F_nearestNow_93, e_F_nearestNow_96, e_F_nearestNow_97, is_37 h, rf_37_0 h, is_38 h, hs.f3, e1, nI_le' (show n < 2 ^ 31 by omega) (show o < 2 ^ 31 by omega), show ¬ n ≤ o by omega, and_self, and_true, true_and, and_false, false_and, or_true, true_or, or_false, false_or, not_true_eq_false, not_false_eq_true, if_true, if_false, ne_eq, ite_self, reduceCtorEq, i10, Decidable.not_not, Bool.and_self, Bool.and_true, Bool.true_and, wi, w5, eu]
    · rw [show nwC a w o (j + 1) s = nwC a w (o + 1) j (if o = w then s else if a (8 + 6 * w + 5) = 1 ∧ a (8 + 6 * o + 5) = 1 ∧ a (8 + 6 * o + 1) = a (8 + 6 * w + 1) then miS s (wyS (a (8 + 6 * w + 2)) (a (8 + 6 * o + 2))) else s) from rfl, ← ih (o + 1) _ (some (.inr (.inl (some (38 + 4 + o))))) (by omega)]
      by_cases h1 : o = w
      · subst h1
        simp only [e_F_nearestNow_0, e_F_nearestNow_1, e_F_nearestNow_4, e_F_nearestNow_7, e_F_nearestNow_8, e_F_nearestNow_9, e_F_nearestNow_10, e_F_nearestNow_12, e_F_nearestNow_13, e_F_nearestNow_14, e_F_nearestNow_18, e_F_nearestNow_19, e_F_nearestNow_22, e_F_nearestNow_25, e_F_nearestNow_28, e_F_nearestNow_29, e_F_nearestNow_32, e_F_nearestNow_35, e_F_nearestNow_36, e_F_nearestNow_39, e_F_nearestNow_42, e_F_nearestNow_44, e_F_nearestNow_45, e_F_nearestNow_47, e_F_nearestNow_49, e_F_nearestNow_50, e_F_nearestNow_53, e_F_nearestNow_55, e_F_nearestNow_58, e_F_nearestNow_61, e_F_nearestNow_63, e_F_nearestNow_66, e_F_nearestNow_67, e_F_nearestNow_70, e_F_nearestNow_73, e_F_nearestNow_74, e_F_nearestNow_75, e_F_nearestNow_78, e_F_nearestNow_80, e_F_nearestNow_83, e_F_nearestNow_86, e_F_nearestNow_89, e_F_nearestNow_90, e_F_nearestNow_93, e_F_nearestNow_96, e_F_nearestNow_97, is_37 h, rf_37_0 h, is_38 h, hs.f3, e1, nI_le' (show n < 2 ^ 31 by omega) (show o < 2 ^ 31 by omega), show ¬ n ≤ o by omega, and_self, and_true, true_and, and_false, false_and, or_true, true_or, or_false, false_or, not_true_eq_false, not_false_eq_true, if_true, if_false, ne_eq, ite_self, reduceCtorEq, i10, Decidable.not_not, Bool.and_self, Bool.and_true, Bool.true_and, wi, w5, eu, show ¬ (1 : Int32) = 0 by decide, q_r0 h q38, q_ia1 h q38 ho14, nI_clamp (show o < 2 ^ 31 by omega), q_w h q38 ho14, nI_1]
      · have ne : ¬ nI o = nI w := by rw [nI_eq' (by omega) (by omega)]; exact h1
        rcases okF5 (hg.2 o 5 (by omega) (by decide)) with ev | ev
        · simp only [e_F_nearestNow_0, e_F_nearestNow_1, e_F_nearestNow_4, e_F_nearestNow_7, e_F_nearestNow_8, e_F_nearestNow_9, e_F_nearestNow_10, e_F_nearestNow_12, e_F_nearestNow_13, e_F_nearestNow_14, e_F_nearestNow_18, e_F_nearestNow_19, e_F_nearestNow_22, e_F_nearestNow_25, e_F_nearestNow_28, e_F_nearestNow_29, e_F_nearestNow_32, e_F_nearestNow_35, e_F_nearestNow_36, e_F_nearestNow_39, e_F_nearestNow_42, e_F_nearestNow_44, e_F_nearestNow_45, e_F_nearestNow_47, e_F_nearestNow_49, e_F_nearestNow_50, e_F_nearestNow_53, e_F_nearestNow_55, e_F_nearestNow_58, e_F_nearestNow_61, e_F_nearestNow_63, e_F_nearestNow_66, e_F_nearestNow_67, e_F_nearestNow_70, e_F_nearestNow_73, e_F_nearestNow_74, e_F_nearestNow_75, e_F_nearestNow_78, e_F_nearestNow_80, e_F_nearestNow_83, e_F_nearestNow_86, e_F_nearestNow_89, e_F_nearestNow_90, e_F_nearestNow_93, e_F_nearestNow_96, e_F_nearestNow_97, is_37 h, rf_37_0 h, is_38 h, hs.f3, e1, nI_le' (show n < 2 ^ 31 by omega) (show o < 2 ^ 31 by omega), show ¬ n ≤ o by omega, and_self, and_true, true_and, and_false, false_and, or_true, true_or, or_false, false_or, not_true_eq_false, not_false_eq_true, if_true, if_false, ne_eq, ite_self, reduceCtorEq, i10, Decidable.not_not, Bool.and_self, Bool.and_true, Bool.true_and, wi, w5, eu, show ¬ (1 : Int32) = 0 by decide, show ¬ (0 : Int32) = 1 by decide, q_r0 h q38, q_ia1 h q38 ho14, nI_clamp (show o < 2 ^ 31 by omega), q_w h q38 ho14, h1, ne, oi, o5, ev, nI_1]
        · by_cases h3 : a (8 + 6 * o + 1) = a (8 + 6 * w + 1)
          · simp only [e_F_nearestNow_0, e_F_nearestNow_1, e_F_nearestNow_4, e_F_nearestNow_7, e_F_nearestNow_8, e_F_nearestNow_9, e_F_nearestNow_10, e_F_nearestNow_12, e_F_nearestNow_13, e_F_nearestNow_14, e_F_nearestNow_18, e_F_nearestNow_19, e_F_nearestNow_22, e_F_nearestNow_25, e_F_nearestNow_28, e_F_nearestNow_29, e_F_nearestNow_32, e_F_nearestNow_35, e_F_nearestNow_36, e_F_nearestNow_39, e_F_nearestNow_42, e_F_nearestNow_44, e_F_nearestNow_45, e_F_nearestNow_47, e_F_nearestNow_49, e_F_nearestNow_50, e_F_nearestNow_53, e_F_nearestNow_55, e_F_nearestNow_58, e_F_nearestNow_61, e_F_nearestNow_63, e_F_nearestNow_66, e_F_nearestNow_67, e_F_nearestNow_70, e_F_nearestNow_73, e_F_nearestNow_74, e_F_nearestNow_75, e_F_nearestNow_78, e_F_nearestNow_80, e_F_nearestNow_83, e_F_nearestNow_86, e_F_nearestNow_89, e_F_nearestNow_90, e_F_nearestNow_93, e_F_nearestNow_96, e_F_nearestNow_97, is_37 h, rf_37_0 h, is_38 h, hs.f3, e1, nI_le' (show n < 2 ^ 31 by omega) (show o < 2 ^ 31 by omega), show ¬ n ≤ o by omega, and_self, and_true, true_and, and_false, false_and, or_true, true_or, or_false, false_or, not_true_eq_false, not_false_eq_true, if_true, if_false, ne_eq, ite_self, reduceCtorEq, i10, Decidable.not_not, Bool.and_self, Bool.and_true, Bool.true_and, wi, w5, eu, show ¬ (1 : Int32) = 0 by decide, q_r0 h q38, q_ia1 h q38 ho14, nI_clamp (show o < 2 ^ 31 by omega), q_w h q38 ho14, h1, ne, oi, o1, o2, o5, w1, w2, ev, h3, k_W_wayRound, k_J_min, rb_i, nI_1]
          · simp only [e_F_nearestNow_0, e_F_nearestNow_1, e_F_nearestNow_4, e_F_nearestNow_7, e_F_nearestNow_8, e_F_nearestNow_9, e_F_nearestNow_10, e_F_nearestNow_12, e_F_nearestNow_13, e_F_nearestNow_14, e_F_nearestNow_18, e_F_nearestNow_19, e_F_nearestNow_22, e_F_nearestNow_25, e_F_nearestNow_28, e_F_nearestNow_29, e_F_nearestNow_32, e_F_nearestNow_35, e_F_nearestNow_36, e_F_nearestNow_39, e_F_nearestNow_42, e_F_nearestNow_44, e_F_nearestNow_45, e_F_nearestNow_47, e_F_nearestNow_49, e_F_nearestNow_50, e_F_nearestNow_53, e_F_nearestNow_55, e_F_nearestNow_58, e_F_nearestNow_61, e_F_nearestNow_63, e_F_nearestNow_66, e_F_nearestNow_67, e_F_nearestNow_70, e_F_nearestNow_73, e_F_nearestNow_74, e_F_nearestNow_75, e_F_nearestNow_78, e_F_nearestNow_80, e_F_nearestNow_83, e_F_nearestNow_86, e_F_nearestNow_89, e_F_nearestNow_90, e_F_nearestNow_93, e_F_nearestNow_96, e_F_nearestNow_97, is_37 h, rf_37_0 h, is_38 h, hs.f3, e1, nI_le' (show n < 2 ^ 31 by omega) (show o < 2 ^ 31 by omega), show ¬ n ≤ o by omega, and_self, and_true, true_and, and_false, false_and, or_true, true_or, or_false, false_or, not_true_eq_false, not_false_eq_true, if_true, if_false, ne_eq, ite_self, reduceCtorEq, i10, Decidable.not_not, Bool.and_self, Bool.and_true, Bool.true_and, wi, w5, eu, show ¬ (1 : Int32) = 0 by decide, q_r0 h q38, q_ia1 h q38 ho14, nI_clamp (show o < 2 ^ 31 by omega), q_w h q38 ho14, h1, ne, oi, o1, o5, w1, ev, h3, nI_1]
theorem k_F_nearestNow (h : WF S R) {n w : Nat} (hn : n ≤ 14) (hw : w < n) (hg : gd a) (e1 : a 1 = nI n) (hs : SkR S I R 38 a) : rn Ls xs (d + 2) 187 0 [some (.inr (.inl (some 37))), some (.inl (nI w)), none, none, none, none] [] (S, I, R) = some (some (.inl (cvN (nrS a w 0 n NN))), (S, I, R)) := by
  have cn : cW (a 1) = n := by rw [e1, cW, nI_clamp (by omega)]
  have hw14 : w < 14 := by omega
  have l : rn Ls xs (d + 2) 187 16 [some (.inr (.inl (some 37))), some (.inl (nI w)), some (.inr (.inl (some (38 + 4 + w)))), some (.inl 30), some (.inl 0), none] [] (S, I, R) = _ := l_F_nearestNow (Ls := Ls) (xs := xs) (d := d) h hn hw hg e1 hs n 0 30 none (by omega)
  have e := (nr_nw (a := a) (fun w hw => hg.2 w 2 (by omega) (by decide)) hw n 0 NN (by omega) (Or.inl rfl)).1
  rw [e, show cvN NN = 30 from rfl]
  simp only [e_F_nearestNow_0, e_F_nearestNow_1, e_F_nearestNow_4, e_F_nearestNow_7, e_F_nearestNow_8, e_F_nearestNow_9, e_F_nearestNow_10, e_F_nearestNow_12, e_F_nearestNow_13, e_F_nearestNow_14, is_37 h, rf_37_0 h, is_38 h, and_self, and_true, true_and, and_false, false_and, or_true, true_or, or_false, false_or, not_true_eq_false, not_false_eq_true, if_true, if_false, ne_eq, ite_self, reduceCtorEq, i10, Decidable.not_not, Bool.and_self, Bool.and_true, Bool.true_and, q_r0 h q38, q_ia1 h q38 hw14, nI_clamp (show w < 2 ^ 31 by omega), q_w h q38 hw14, l]
/-- the least way goes on -/
theorem near_st {n w : Nat} (hf : ∀ w, w < n → okF 2 (a (8 + 6 * w + 2))) (hw : w < n) {s : Int32} (hs : okN s) : miS (cvN s) (cvN (nrS a w 0 n NN)) = cvN (nrS a w 0 n s) := by
  rw [(nr_nw hf hw n 0 NN (by omega) (Or.inl rfl)).1, (nr_nw hf hw n 0 s (by omega) hs).1, show cvN NN = 30 from rfl, ← nwC_mi]
  congr 1
  have z30 : Int32.toInt 30 = 30 := rfl
  unfold cvN miS
  rcases hs with rfl | hs
  · rfl
  · have ns : s ≠ NN := fun e => by rw [e] at hs; exact absurd hs.1 (by decide)
    rw [if_neg ns, if_neg (by have := hs.2; rw [i_lt, z30] at *; omega)]
theorem ns_ok (hg : gd a) {w n : Nat} (hn : n ≤ 14) (e1 : a 1 = nI n) (hw : w < n) : ∀ k, okN (nsS a w k)
  | 0 => by
    have cn : cW (a 1) = n := by rw [e1, cW, nI_clamp (by omega)]
    show okN (nrS a w 0 (cW (a 1)) NN)
    rw [cn]
    exact (nr_nw (fun w hw => hg.2 w 2 (by omega) (by decide)) hw n 0 NN (by omega) (Or.inl rfl)).2
  | k + 1 => by
    obtain ⟨m, m1, m2, m3⟩ := hrs_1 hg e1 hn (k + 1)
    have cm : cW (hrsS a (k + 1) 1) = m := by rw [m3, cW, nI_clamp (by omega)]
    show okN (nrS (hrsS a (k + 1)) w 0 (cW (hrsS a (k + 1) 1)) (nsS a w k))
    rw [cm]
    exact (nr_nw (fun w hw => (gd_hrs hg (k + 1)).2 w 2 (by omega) (by decide)) (by omega) m 0 _ (by omega) (ns_ok hg hn e1 hw k)).2
theorem l_F_nearestWay (h : WF S R) (hg : gd a) {t n m w : Nat} (ht : t + m < 2 ^ 30) (e2 : a 2 = nI t) (hn : n ≤ 14) (e1 : a 1 = nI n) (hw : w < n) {l1 : Option mV} : ∀ (j k : Nat) (I : mI), k + j = m → SkR S I R 38 (hrsS a k) → ∃ I2, Fq 38 I I2 ∧ rn Ls xs (d + 5) 141 18 [some (.inr (.inl (some 37))), l1, some (.inl (nI w)), some (.inl (nI m)), some (.inl (cvN (nsS a w k))), some (.inl (nI k))] [] (S, I, R) = some (some (.inl (nsS a w m)), (S, I2, R)) := by
  intro j
  induction j with
  | zero =>
    intro k I hk hs
    have : k = m := by omega
    subst this
    refine ⟨I, Fq.rfl', ?_⟩
    rw [e_F_nearestWay_18]
    have ok := ns_ok hg hn e1 hw k
    generalize nsS a w k = s at ok ⊢
    rcases ok with rfl | ok
    · simp only [e_F_nearestWay_0, e_F_nearestWay_1, e_F_nearestWay_4, e_F_nearestWay_5, e_F_nearestWay_8, e_F_nearestWay_9, e_F_nearestWay_10, e_F_nearestWay_13, e_F_nearestWay_15, e_F_nearestWay_16, e_F_nearestWay_20, e_F_nearestWay_21, e_F_nearestWay_24, e_F_nearestWay_25, e_F_nearestWay_28, e_F_nearestWay_29, e_F_nearestWay_32, e_F_nearestWay_34, e_F_nearestWay_35, e_F_nearestWay_36, e_F_nearestWay_39, e_F_nearestWay_42, e_F_nearestWay_44, e_F_nearestWay_47, e_F_nearestWay_50, e_F_nearestWay_52, e_F_nearestWay_54, e_F_nearestWay_57, e_F_nearestWay_59, e_F_nearestWay_62, e_F_nearestWay_64, nI_le' (show k < 2 ^ 31 by omega) (show k < 2 ^ 31 by omega), Nat.le_refl, and_self, and_true, true_and, and_false, false_and, or_true, true_or, or_false, false_or, not_true_eq_false, not_false_eq_true, if_true, if_false, ne_eq, ite_self, reduceCtorEq, i10, Decidable.not_not, Bool.and_self, Bool.and_true, Bool.true_and, show cvN NN = 30 from rfl, show (30 : Int32) ≤ 30 by decide]
    · have ns : s ≠ NN := fun e => by rw [e] at ok; exact absurd ok.1 (by decide)
      have cs : cvN s = s := by unfold cvN; rw [if_neg ns]
      simp only [e_F_nearestWay_0, e_F_nearestWay_1, e_F_nearestWay_4, e_F_nearestWay_5, e_F_nearestWay_8, e_F_nearestWay_9, e_F_nearestWay_10, e_F_nearestWay_13, e_F_nearestWay_15, e_F_nearestWay_16, e_F_nearestWay_20, e_F_nearestWay_21, e_F_nearestWay_24, e_F_nearestWay_25, e_F_nearestWay_28, e_F_nearestWay_29, e_F_nearestWay_32, e_F_nearestWay_34, e_F_nearestWay_35, e_F_nearestWay_36, e_F_nearestWay_39, e_F_nearestWay_42, e_F_nearestWay_44, e_F_nearestWay_47, e_F_nearestWay_50, e_F_nearestWay_52, e_F_nearestWay_54, e_F_nearestWay_57, e_F_nearestWay_59, e_F_nearestWay_62, e_F_nearestWay_64, nI_le' (show k < 2 ^ 31 by omega) (show k < 2 ^ 31 by omega), Nat.le_refl, and_self, and_true, true_and, and_false, false_and, or_true, true_or, or_false, false_or, not_true_eq_false, not_false_eq_true, if_true, if_false, ne_eq, ite_self, reduceCtorEq, i10, Decidable.not_not, Bool.and_self, Bool.and_true, Bool.true_and, cs, i_nle.mpr ok.2]
  | succ j ih =>
    intro k I hk hs
    obtain ⟨I3, s3, f3, r3⟩ := k_S_passHours (Ls := Ls) (xs := xs) (d := d) (n := 1) h q38 (show t + k + 1 < 2 ^ 30 by omega) hs (gd_hrs hg k) (hrs_2 hg e2 k)
    have s3 : SkR S I3 R 38 (hrsS a (k + 1)) := s3
    have r3 : rn Ls xs (d + 4) 119 0 [some (.inr (.inl (some 38))), some (.inl 1), none] [] (S, I, R) = _ := r3
    obtain ⟨c, c1, c2, c3⟩ := hrs_1 hg e1 hn (k + 1)
    have cm : cW (hrsS a (k + 1) 1) = c := by rw [c3, cW, nI_clamp (by omega)]
    have r4 := k_F_nearestNow (Ls := Ls) (xs := xs) (d := d + 2) h c2 (show w < c by omega) (gd_hrs hg (k + 1)) c3 s3
    have e : miS (cvN (nsS a w k)) (cvN (nrS (hrsS a (k + 1)) w 0 c NN)) = cvN (nsS a w (k + 1)) := by
      show _ = cvN (nrS (hrsS a (k + 1)) w 0 (cW (hrsS a (k + 1) 1)) (nsS a w k))
      rw [cm]
      exact near_st (fun w hw => (gd_hrs hg (k + 1)).2 w 2 (by omega) (by decide)) (by omega) (ns_ok hg hn e1 hw k)
    obtain ⟨I6, f6, r6⟩ := ih (k + 1) I3 (by omega) s3
    refine ⟨I6, f3.trans' f6, ?_⟩
    rw [e_F_nearestWay_18, ← r6]
    simp only [e_F_nearestWay_0, e_F_nearestWay_1, e_F_nearestWay_4, e_F_nearestWay_5, e_F_nearestWay_8, e_F_nearestWay_9, e_F_nearestWay_10, e_F_nearestWay_13, e_F_nearestWay_15, e_F_nearestWay_16, e_F_nearestWay_20, e_F_nearestWay_21, e_F_nearestWay_24, e_F_nearestWay_25, e_F_nearestWay_28, e_F_nearestWay_29, e_F_nearestWay_32, e_F_nearestWay_34, e_F_nearestWay_35, e_F_nearestWay_36, e_F_nearestWay_39, e_F_nearestWay_42, e_F_nearestWay_44, e_F_nearestWay_47, e_F_nearestWay_50, e_F_nearestWay_52, e_F_nearestWay_54, e_F_nearestWay_57, e_F_nearestWay_59, e_F_nearestWay_62, e_F_nearestWay_64, nI_le' (show m < 2 ^ 31 by omega) (show k < 2 ^ 31 by omega), show ¬ m ≤ k by omega, and_self, and_true, true_and, and_false, false_and, or_true, true_or, or_false, false_or, not_true_eq_false, not_false_eq_true, if_true, if_false, ne_eq, ite_self, reduceCtorEq, i10, Decidable.not_not, Bool.and_self, Bool.and_true, Bool.true_and, is_37 h, rf_37_0 h, is_38 h, r3, rb_v, r4, rb_i, k_J_min, e, nI_1]
theorem k_F_nearestWay (h : WF S R) (hq : isP q) (hs : SkR S I R q a) (hg : gd a) {t n m w : Nat} (ht : t + m < 2 ^ 30) (e2 : a 2 = nI t) (hn : n ≤ 14) (e1 : a 1 = nI n) (hw : w < n) : ∃ I2 R2, Ff I I2 R R2 ∧ rn Ls xs (d + 5) 141 0 [some (.inr (.inl (some 37))), some (.inr (.inl (some q))), some (.inl (nI w)), some (.inl (nI m)), none, none] [] (S, I, R) = some (some (.inl (nsS a w m)), (S, I2, R2)) := by
  have cn : cW (a 1) = n := by rw [e1, cW, nI_clamp (by omega)]
  obtain ⟨I2, R2, s2, f2, g2, w2, r2⟩ := k_S_becomeAs (Ls := Ls) (xs := xs) (d := d + 3) h q38 hq.q hq.ne hs hg
  have r3 := k_F_nearestNow (Ls := Ls) (xs := xs) (d := d + 2) w2 hn hw hg e1 s2
  have e : nrS a w 0 n NN = nsS a w 0 := by show _ = nrS a w 0 (cW (a 1)) NN; rw [cn]
  rw [e] at r3
  obtain ⟨I4, f4, r4⟩ := l_F_nearestWay (Ls := Ls) (xs := xs) (d := d) (l1 := some (.inr (.inl (some q)))) w2 hg ht e2 hn e1 hw m 0 I2 (by omega) s2
  have r4 : rn Ls xs (d + 5) 141 18 [some (.inr (.inl (some 37))), some (.inr (.inl (some q))), some (.inl (nI w)), some (.inl (nI m)), some (.inl (cvN (nsS a w 0))), some (.inl 0)] [] (S, I2, R2) = _ := r4
  refine ⟨I4, R2, (f2.ffr g2).trans' f4.ff, ?_⟩
  simp only [e_F_nearestWay_0, e_F_nearestWay_1, e_F_nearestWay_4, e_F_nearestWay_5, e_F_nearestWay_8, e_F_nearestWay_9, e_F_nearestWay_10, e_F_nearestWay_13, e_F_nearestWay_15, e_F_nearestWay_16, is_37 h, is_38 h, rf_37_0 h, and_self, and_true, true_and, and_false, false_and, or_true, true_or, or_false, false_or, not_true_eq_false, not_false_eq_true, if_true, if_false, ne_eq, ite_self, reduceCtorEq, i10, Decidable.not_not, Bool.and_self, Bool.and_true, Bool.true_and, r2, rb_v, r3, rb_i, r4]
end CTD

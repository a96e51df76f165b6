/-! THE REFERENCE's calls: hole, open -/
/-- all that is seen is as it was, but for the row of now -/
def Fr (I I2 : mI) : Prop := ∀ b, b < 94 ∨ b = 95 ∨ (101 ≤ b ∧ b ≤ 103) ∨ (109 ≤ b ∧ b ≠ 116) → I2 b = I b
theorem Fr.rfl' {I : mI} : Fr I I := fun _ _ => rfl
theorem Fr.trans' {I I2 I3 : mI} (h : Fr I I2) (h2 : Fr I2 I3) : Fr I I3 := fun b hb => (h2 b hb).trans (h b hb)
theorem Fr.up {I I2 : mI} (h : Fr I I2) {b : Nat} {f : Nat → Int32} (hb : b = 94 ∨ (96 ≤ b ∧ b ≤ 100) ∨ (104 ≤ b ∧ b ≤ 108) ∨ b = 116) : Fr I (va_up I2 b f) := fun c hc => by rw [vu_n (by omega)]; exact h c hc
theorem Fr.hr {I I2 I3 : mI} (h : Fr I I2) (h2 : ∀ b, b ≠ 94 → b ≠ 107 → b ≠ 108 → I3 b = I2 b) : Fr I I3 := fun b hb => (h2 b (by omega) (by omega) (by omega)).trans (h b hb)
theorem MR.fr {I I2 A : mI} (h : MR I A) (f : Fr I I2) (e : I2 94 = A 94) : MR I2 A := by
  refine ⟨fun b h1 h2 => ?_, (f _ (by omega)).trans h.2.1, fun b h1 h2 => (f b (by omega)).trans (h.2.2.1 b h1 h2), (f _ (by omega)).trans h.2.2.2.1, ?_, ?_, ?_, fun b hb => (f b (by omega)).trans (h.2.2.2.2.2.2.2 b hb)⟩
  · rcases (show b = 94 ∨ b = 95 by omega) with rfl | rfl
    · exact e
    · exact (f _ (by omega)).trans h.img
  · rw [f 93 (by omega)]; exact h.2.2.2.2.1
  · rw [f 93 (by omega)]; exact h.2.2.2.2.2.1
  · rw [f 93 (by omega)]; exact h.2.2.2.2.2.2.1
def ovS (a : Nat → Int32) (h : Nat) : Nat → Nat → Int32 → Int32
  | _, 0, s => s
  | w, j + 1, s => ovS a h (w + 1) j (s ||| (if a (8 + 6 * w + 5) = 1 ∧ a (8 + 6 * w + 1) = nI h then (1 : Int32) <<< (a (8 + 6 * w + 2) &&& 31) else 0))
noncomputable def ovV (a : Nat → Int32) (h k : Nat) : Int32 := ovS (hrsS a k) h 0 (cW (hrsS a k 1)) 0
def olS (V : Nat → Nat → Int32) (c : Nat → Int32) (k h : Nat) : Nat → Int32 := fun i => if i < 544 ∧ (i % 68 < k ∨ (i % 68 = k ∧ i / 68 < h)) then V (i / 68) (i % 68) else c i
theorem olS_s {V : Nat → Nat → Int32} {c : Nat → Int32} {k h : Nat} (hk : k < 68) (hh : h < 8) : upd (olS V c k h) (68 * h + k) (V h k) = olS V c k (h + 1) := by
  funext i
  by_cases h1 : i = 68 * h + k
  · subst h1
    rw [up_s, olS, if_pos (by omega), show (68 * h + k) / 68 = h by omega, show (68 * h + k) % 68 = k by omega]
  · rw [up_n h1, olS, olS]
    by_cases h2 : i < 544 ∧ (i % 68 < k ∨ (i % 68 = k ∧ i / 68 < h))
    · rw [if_pos h2, if_pos (by omega)]
    · rw [if_neg h2, if_neg (by omega)]
theorem olS_n {V : Nat → Nat → Int32} {c : Nat → Int32} {k : Nat} : olS V c k 8 = olS V c (k + 1) 0 := by
  funext i
  rw [olS, olS]
  by_cases h2 : i < 544 ∧ (i % 68 < k ∨ (i % 68 = k ∧ i / 68 < 8))
  · rw [if_pos h2, if_pos (by omega)]
  · rw [if_neg h2, if_neg (by omega)]
theorem olS_0 {V : Nat → Nat → Int32} {c : Nat → Int32} : olS V c 0 0 = c := by
  funext i
  rw [olS, if_neg (by omega)]
theorem olS_v {V : Nat → Nat → Int32} {c : Nat → Int32} {k h : Nat} (hk : k < 68) (hh : h < 8) : olS V c 68 0 (68 * h + k) = V h k := by
  rw [olS, if_pos (by omega), show (68 * h + k) / 68 = h by omega, show (68 * h + k) % 68 = k by omega]
def metS (V : Nat → Nat → Int32) (k : Nat) : Nat → Nat → Int32 → Int32
  | _, 0, s => s
  | h, j + 1, s => metS V k (h + 1) j (s ||| V h (k + h))
def hlS (V : Nat → Nat → Int32) (p : Int32) : Nat → Nat → Int32
  | _, 0 => NN
  | k, j + 1 => if (metS V k 0 8 0 >>> (p &&& 31)) &&& 1 = 0 then nI k else hlS V p (k + 1) j
section MT15
variable {Ls : Nat} {xs : Nat → Int32} {d : Nat} {S : mS} {I A : mI} {R : mR} {x y z u v : Int32}
theorem k_M_hour' (h : WF S R) (hr : rwOK (I 94)) : ∃ I2, I2 94 = hourS (I 94) ∧ (∀ b, b ≠ 94 → b ≠ 107 → b ≠ 108 → I2 b = I b) ∧ rn Ls xs (d + 3) 131 0 [some (.inr (.inl (some 93))), none, none, none] [] (S, I, R) = some (none, (S, I2, R)) := by
  obtain ⟨I2, s, r⟩ := k_M_hour (Ls := Ls) (xs := xs) (d := d) h hr
  exact ⟨I2, by rw [s.row, vu_s], fun b h1 h2 h3 => by rw [s b h2 h3, vu_n h1], r⟩
theorem k_M_goesOn' (h : WF S R) {n : Nat} (hn : n < 2 ^ 30) (hr : rwOK (I 94)) : ∃ I2, I2 94 = hrsS (I 94) n ∧ (∀ b, b ≠ 94 → b ≠ 107 → b ≠ 108 → I2 b = I b) ∧ rn Ls xs (d + 4) 121 0 [some (.inr (.inl (some 93))), some (.inl (nI n)), none] [] (S, I, R) = some (none, (S, I2, R)) := by
  obtain ⟨I2, s, r⟩ := k_M_goesOn (Ls := Ls) (xs := xs) (d := d) h hn hr
  exact ⟨I2, by rw [s.row, vu_s], fun b h1 h2 h3 => by rw [s b h2 h3, vu_n h1], r⟩
theorem k_M_back' (h : WF S R) {a c : Nat → Int32} (e1 : I 97 = thS a c 92) (e2 : ∀ i, 92 ≤ i → I 94 i = a i) : rn Ls xs d 129 0 [some (.inr (.inl (some 93))), none] [] (S, I, R) = some (none, (S, va_up I 94 a, R)) := by
  rw [k_M_putsBack h, e1, back_eq e2]
theorem l_M_look1 (h : WF S R) {n k hh : Nat} (hn : n ≤ 14) (e1 : I 94 1 = nI n) : ∀ (j w : Nat) (s : Int32), w + j = n → rn Ls xs (d + 2) 134 25 [some (.inr (.inl (some 93))), some (.inl (nI k)), some (.inl (nI hh)), some (.inl s), some (.inl (nI w))] [] (S, I, R) = rn Ls xs (d + 2) 134 78 [some (.inr (.inl (some 93))), some (.inl (nI k)), some (.inl (nI hh)), some (.inl (ovS (I 94) hh w j s)), some (.inl (nI n))] [] (S, I, R) := by
  intro j
  induction j with
  | zero =>
    intro w s hw
    have : w = n := by omega
    subst this
    rw [e_M_looksUp_25]
    simp only [e_M_looksUp_27, e_M_looksUp_28, e_M_looksUp_31, e_M_looksUp_32, e_M_looksUp_33, is_93 h, rf_93_0 h, and_self, and_true, true_and, and_false, false_and, or_true, true_or, or_false, false_or, not_true_eq_false, not_false_eq_true, if_true, if_false, ne_eq, ite_self, reduceCtorEq, i10, Decidable.not_not, Bool.and_self, Bool.and_true, Bool.true_and, ia94_1 h, cl_1, e1, nI_le' (show w < 2 ^ 31 by omega) (show w < 2 ^ 31 by omega), Nat.le_refl, ovS]
  | succ j ih =>
    intro w s hw
    have hw14 : w < 14 := by omega
    rw [e_M_looksUp_25]
    simp only [e_M_looksUp_27, e_M_looksUp_28, e_M_looksUp_31, e_M_looksUp_32, e_M_looksUp_33, e_M_looksUp_36, e_M_looksUp_37, e_M_looksUp_38, e_M_looksUp_40, e_M_looksUp_43, e_M_looksUp_46, e_M_looksUp_47, e_M_looksUp_49, e_M_looksUp_50, e_M_looksUp_53, e_M_looksUp_54, e_M_looksUp_57, e_M_looksUp_58, e_M_looksUp_59, e_M_looksUp_61, e_M_looksUp_62, e_M_looksUp_65, e_M_looksUp_66, e_M_looksUp_69, e_M_looksUp_70, e_M_looksUp_71, e_M_looksUp_72, e_M_looksUp_75, is_93 h, rf_93_0 h, and_self, and_true, true_and, and_false, false_and, or_true, true_or, or_false, false_or, not_true_eq_false, not_false_eq_true, if_true, if_false, ne_eq, ite_self, reduceCtorEq, i10, Decidable.not_not, Bool.and_self, Bool.and_true, Bool.true_and, ia94_1 h, cl_1, e1, nI_le' (show n < 2 ^ 31 by omega) (show w < 2 ^ 31 by omega), show ¬ n ≤ w by omega, k_M_isUp h hw14, k_M_of_1 h hw14, k_M_of_2 h hw14, rb_i, in0, nI_1, ih _ _ (show w + 1 + j = n by omega), ovS]
    by_cases h1 : I 94 (8 + 6 * w + 5) = 1
    · by_cases h2 : I 94 (8 + 6 * w + 1) = nI hh
      · simp only [h1, h2, and_self, and_true, true_and, and_false, false_and, or_true, true_or, or_false, false_or, not_true_eq_false, not_false_eq_true, if_true, if_false, ne_eq, ite_self, reduceCtorEq, i10, Decidable.not_not, Bool.and_self, Bool.and_true, Bool.true_and]
      · simp only [h1, h2, and_self, and_true, true_and, and_false, false_and, or_true, true_or, or_false, false_or, not_true_eq_false, not_false_eq_true, if_true, if_false, ne_eq, ite_self, reduceCtorEq, i10, Decidable.not_not, Bool.and_self, Bool.and_true, Bool.true_and]
    · simp only [h1, and_self, and_true, true_and, and_false, false_and, or_true, true_or, or_false, false_or, not_true_eq_false, not_false_eq_true, if_true, if_false, ne_eq, ite_self, reduceCtorEq, i10, Decidable.not_not, Bool.and_self, Bool.and_true, Bool.true_and]
theorem l_M_look2 (h : WF S R) {V : Nat → Nat → Int32} {c : Nat → Int32} {n k : Nat} (hk : k < 68) (hn : n ≤ 14) : ∀ (j hh : Nat) (I : mI) (l3 l4 : Option mV), hh + j = 8 → I 94 1 = nI n → (∀ g, g < 8 → V g k = ovS (I 94) g 0 n 0) → I 98 = olS V c k hh → ∃ o3 o4,
    rn Ls xs (d + 2) 134 14 [some (.inr (.inl (some 93))), some (.inl (nI k)), some (.inl (nI hh)), l3, l4] [] (S, I, R) = rn Ls xs (d + 2) 134 96 [some (.inr (.inl (some 93))), some (.inl (nI k)), some (.inl (nI 8)), o3, o4] [] (S, va_up I 98 (olS V c (k + 1) 0), R) := by
  intro j
  induction j with
  | zero =>
    intro hh I l3 l4 hh8 e1 hV e98
    have : hh = 8 := by omega
    subst this
    refine ⟨l3, l4, ?_⟩
    rw [e_M_looksUp_14, ← olS_n, ← e98, vu_id]
    simp only [e_M_looksUp_15, e_M_looksUp_17, show ((8 : Int32) ≤ nI 8) by decide, and_self, and_true, true_and, and_false, false_and, or_true, true_or, or_false, false_or, not_true_eq_false, not_false_eq_true, if_true, if_false, ne_eq, ite_self, reduceCtorEq, i10, Decidable.not_not, Bool.and_self, Bool.and_true, Bool.true_and]
  | succ j ih =>
    intro hh I l3 l4 hh8 e1 hV e98
    have hlt : ¬ (8 : Int32) ≤ nI hh := by rw [show (8 : Int32) = nI 8 from rfl, nI_le' (by decide) (by omega)]; omega
    have r1 := l_M_look1 (Ls := Ls) (xs := xs) (d := d) (k := k) (hh := hh) h hn e1 n 0 0 (by omega)
    have r1 : rn Ls xs (d + 2) 134 25 [some (.inr (.inl (some 93))), some (.inl (nI k)), some (.inl (nI hh)), some (.inl 0), some (.inl 0)] [] (S, I, R) = _ := r1
    rw [← hV hh (by omega)] at r1
    have q1 : (68 : Int32) * nI hh + nI k = nI (68 * hh + k) := by simp only [li, pk_mul, nI_add]
    obtain ⟨m3, m4, r2⟩ := ih (hh + 1) (va_up I 98 (olS V c k (hh + 1))) (some (.inl (V hh k))) (some (.inl (nI n))) (by omega) (by rw [vu_n (by decide)]; exact e1) (by rw [vu_n (by decide)]; exact hV) vu_s
    rw [vu_vu] at r2
    refine ⟨m3, m4, ?_⟩
    rw [e_M_looksUp_14]
    simp only [e_M_looksUp_15, e_M_looksUp_17, e_M_looksUp_20, e_M_looksUp_21, e_M_looksUp_22, e_M_looksUp_23, hlt, and_self, and_true, true_and, and_false, false_and, or_true, true_or, or_false, false_or, not_true_eq_false, not_false_eq_true, if_true, if_false, ne_eq, ite_self, reduceCtorEq, i10, Decidable.not_not, Bool.and_self, Bool.and_true, Bool.true_and, r1]
    simp only [e_M_looksUp_78, e_M_looksUp_79, e_M_looksUp_82, e_M_looksUp_84, e_M_looksUp_85, e_M_looksUp_86, e_M_looksUp_87, e_M_looksUp_88, e_M_looksUp_89, e_M_looksUp_90, e_M_looksUp_93, is_93 h, rf_93_5 h, and_self, and_true, true_and, and_false, false_and, or_true, true_or, or_false, false_or, not_true_eq_false, not_false_eq_true, if_true, if_false, ne_eq, ite_self, reduceCtorEq, i10, Decidable.not_not, Bool.and_self, Bool.and_true, Bool.true_and, q1, ia_98 h (show 68 * hh + k < 544 by omega), nI_clamp (show 68 * hh + k < 2 ^ 31 by omega), e98, olS_s hk (show hh < 8 by omega), nI_1, r2]
theorem l_M_look3 (h : WF S R) {a c t : Nat → Int32} (ha : rwOK a) : ∀ (j k : Nat) (I2 : mI) (l2 l3 l4 : Option mV), k + j = 68 → I2 94 = hrsS a k → I2 98 = olS (ovV a) c k 0 → I2 97 = t → Fr I I2 → ∃ I3 o2 o3 o4, I3 94 = hrsS a 68 ∧ I3 98 = olS (ovV a) c 68 0 ∧ I3 97 = t ∧ Fr I I3 ∧
    rn Ls xs (d + 4) 134 6 [some (.inr (.inl (some 93))), some (.inl (nI k)), l2, l3, l4] [] (S, I2, R) = rn Ls xs (d + 4) 134 106 [some (.inr (.inl (some 93))), some (.inl (nI 68)), o2, o3, o4] [] (S, I3, R) := by
  intro j
  induction j with
  | zero =>
    intro k I2 l2 l3 l4 hk e1 e2 e3 hf
    have : k = 68 := by omega
    subst this
    refine ⟨I2, l2, l3, l4, e1, e2, e3, hf, ?_⟩
    rw [e_M_looksUp_6]
    simp only [e_M_looksUp_7, e_M_looksUp_9, show ((68 : Int32) ≤ nI 68) by decide, and_self, and_true, true_and, and_false, false_and, or_true, true_or, or_false, false_or, not_true_eq_false, not_false_eq_true, if_true, if_false, ne_eq, ite_self, reduceCtorEq, i10, Decidable.not_not, Bool.and_self, Bool.and_true, Bool.true_and]
  | succ j ih =>
    intro k I2 l2 l3 l4 hk e1 e2 e3 hf
    have hlt : ¬ (68 : Int32) ≤ nI k := by rw [show (68 : Int32) = nI 68 from rfl, nI_le' (by decide) (by omega)]; omega
    have hr : rwOK (I2 94) := by rw [e1]; exact rwOK_hrs ha k
    obtain ⟨n, hn, en⟩ := hr.1
    obtain ⟨m3, m4, r2⟩ := l_M_look2 (Ls := Ls) (xs := xs) (d := d + 2) (V := ovV a) (c := c) h (show k < 68 by omega) hn 8 0 I2 l3 l4 (by omega) en (fun g _ => by rw [e1] at en ⊢; rw [ovV, en, cW, nI_clamp (by omega)]) e2
    have r2 : rn Ls xs (d + 4) 134 14 [some (.inr (.inl (some 93))), some (.inl (nI k)), some (.inl 0), l3, l4] [] (S, I2, R) = _ := r2
    obtain ⟨I3, f1, f2, r3⟩ := k_M_hour' (Ls := Ls) (xs := xs) (d := d) (I := va_up I2 98 (olS (ovV a) c (k + 1) 0)) h (by rw [vu_n (by decide)]; exact hr)
    rw [vu_n (by decide), e1] at f1
    obtain ⟨I4, n2, n3, n4, g1, g2, g3, g4, r4⟩ := ih (k + 1) I3 (some (.inl (nI 8))) m3 m4 (by omega) f1 (by rw [f2 98 (by decide) (by decide) (by decide), vu_s]) (by rw [f2 97 (by decide) (by decide) (by decide), vu_n (by decide), e3]) ((hf.up (b := 98) (by omega)).hr f2)
    refine ⟨I4, n2, n3, n4, g1, g2, g3, g4, ?_⟩
    rw [e_M_looksUp_6]
    simp only [e_M_looksUp_7, e_M_looksUp_9, e_M_looksUp_12, e_M_looksUp_13, hlt, and_self, and_true, true_and, and_false, false_and, or_true, true_or, or_false, false_or, not_true_eq_false, not_false_eq_true, if_true, if_false, ne_eq, ite_self, reduceCtorEq, i10, Decidable.not_not, Bool.and_self, Bool.and_true, Bool.true_and, r2]
    simp only [e_M_looksUp_96, e_M_looksUp_97, e_M_looksUp_100, e_M_looksUp_103, is_93 h, and_self, and_true, true_and, and_false, false_and, or_true, true_or, or_false, false_or, not_true_eq_false, not_false_eq_true, if_true, if_false, ne_eq, ite_self, reduceCtorEq, i10, Decidable.not_not, Bool.and_self, Bool.and_true, Bool.true_and, r3, rb_v, nI_1, r4]
theorem k_M_looksUp (h : WF S R) (hr : rwOK (I 94)) : ∃ I2, I2 94 = I 94 ∧ (∀ g k, g < 8 → k < 68 → I2 98 (68 * g + k) = ovV (I 94) g k) ∧ Fr I I2 ∧ rn Ls xs (d + 4) 134 0 [some (.inr (.inl (some 93))), none, none, none, none] [] (S, I, R) = some (none, (S, I2, R)) := by
  obtain ⟨I3, l2, l3, l4, g1, g2, g3, g4, r1⟩ := l_M_look3 (Ls := Ls) (xs := xs) (d := d) (I := I) (a := I 94) (c := I 98) (t := thS (I 94) (I 97) 92) h hr 68 0 (va_up I 97 (thS (I 94) (I 97) 92)) none none none (by omega) (by rw [vu_n (by decide)]; rfl) (by rw [vu_n (by decide), olS_0]) vu_s (Fr.rfl'.up (by omega))
  have r1 : rn Ls xs (d + 4) 134 6 [some (.inr (.inl (some 93))), some (.inl 0), none, none, none] [] (S, va_up I 97 (thS (I 94) (I 97) 92), R) = _ := r1
  refine ⟨va_up I3 94 (I 94), vu_s, fun g k hg hk => by rw [vu_n (by decide), g2, olS_v hk hg], g4.up (by omega), ?_⟩
  simp only [e_M_looksUp_0, e_M_looksUp_1, e_M_looksUp_4, e_M_looksUp_5, is_93 h, and_self, and_true, true_and, and_false, false_and, or_true, true_or, or_false, false_or, not_true_eq_false, not_false_eq_true, if_true, if_false, ne_eq, ite_self, reduceCtorEq, i10, Decidable.not_not, Bool.and_self, Bool.and_true, Bool.true_and, k_M_thinks h, rb_v, r1]
  simp only [e_M_looksUp_106, e_M_looksUp_107, e_M_looksUp_110, is_93 h, and_self, and_true, true_and, and_false, false_and, or_true, true_or, or_false, false_or, not_true_eq_false, not_false_eq_true, if_true, if_false, ne_eq, ite_self, reduceCtorEq, i10, Decidable.not_not, Bool.and_self, Bool.and_true, Bool.true_and, k_M_back' h g3 (fun i hi => by rw [g1]; exact hrs_hi hr hi 68), rb_v]
theorem l_M_hole1 (h : WF S R) {V : Nat → Nat → Int32} {k : Nat} (hk : k ≤ 60) (hV : ∀ g k, g < 8 → k < 68 → I 98 (68 * g + k) = V g k) : ∀ (j g : Nat) (s : Int32), g + j = 8 → rn Ls xs d 135 13 [some (.inr (.inl (some 93))), some (.inl x), some (.inl (nI k)), some (.inl s), some (.inl (nI g))] [] (S, I, R) = rn Ls xs d 135 44 [some (.inr (.inl (some 93))), some (.inl x), some (.inl (nI k)), some (.inl (metS V k g j s)), some (.inl (nI 8))] [] (S, I, R) := by
  intro j
  induction j with
  | zero =>
    intro g s hg
    have : g = 8 := by omega
    subst this
    rw [e_M_holeOf_13]
    simp only [e_M_holeOf_15, e_M_holeOf_17, show ((8 : Int32) ≤ nI 8) by decide, and_self, and_true, true_and, and_false, false_and, or_true, true_or, or_false, false_or, not_true_eq_false, not_false_eq_true, if_true, if_false, ne_eq, ite_self, reduceCtorEq, i10, Decidable.not_not, Bool.and_self, Bool.and_true, Bool.true_and, metS]
  | succ j ih =>
    intro g s hg
    have hlt : ¬ (8 : Int32) ≤ nI g := by rw [show (8 : Int32) = nI 8 from rfl, nI_le' (by decide) (by omega)]; omega
    have q1 : (68 : Int32) * nI g + nI k + nI g = nI (68 * g + (k + g)) := by simp only [li, pk_mul, nI_add, Nat.add_assoc]
    rw [e_M_holeOf_13]
    simp only [e_M_holeOf_15, e_M_holeOf_17, e_M_holeOf_20, e_M_holeOf_21, e_M_holeOf_22, e_M_holeOf_25, e_M_holeOf_27, e_M_holeOf_29, e_M_holeOf_30, e_M_holeOf_31, e_M_holeOf_32, e_M_holeOf_34, e_M_holeOf_35, e_M_holeOf_36, e_M_holeOf_37, e_M_holeOf_38, e_M_holeOf_41, hlt, and_self, and_true, true_and, and_false, false_and, or_true, true_or, or_false, false_or, not_true_eq_false, not_false_eq_true, if_true, if_false, ne_eq, ite_self, reduceCtorEq, i10, Decidable.not_not, Bool.and_self, Bool.and_true, Bool.true_and, is_93 h, rf_93_5 h, q1, ia_98 h (show 68 * g + (k + g) < 544 by omega), nI_clamp (show 68 * g + (k + g) < 2 ^ 31 by omega), hV g (k + g) (by omega) (by omega), nI_1, metS]
    exact ih (g + 1) _ (by omega)
theorem l_M_hole2 (h : WF S R) {V : Nat → Nat → Int32} (hV : ∀ g k, g < 8 → k < 68 → I 98 (68 * g + k) = V g k) : ∀ (j k : Nat) (l3 l4 : Option mV), k + j = 61 → rn Ls xs d 135 2 [some (.inr (.inl (some 93))), some (.inl x), some (.inl (nI k)), l3, l4] [] (S, I, R) = some (some (.inl (hlS V x k j)), (S, I, R)) := by
  intro j
  induction j with
  | zero =>
    intro k l3 l4 hk
    have : k = 61 := by omega
    subst this
    rw [e_M_holeOf_2]
    simp only [e_M_holeOf_3, e_M_holeOf_5, e_M_holeOf_60, e_M_holeOf_62, show ((60 : Int32) < nI 61) by decide, and_self, and_true, true_and, and_false, false_and, or_true, true_or, or_false, false_or, not_true_eq_false, not_false_eq_true, if_true, if_false, ne_eq, ite_self, reduceCtorEq, i10, Decidable.not_not, Bool.and_self, Bool.and_true, Bool.true_and, hlS]
  | succ j ih =>
    intro k l3 l4 hk
    have hlt : ¬ (60 : Int32) < nI k := by rw [show (60 : Int32) = nI 60 from rfl, nI_lt' (by decide) (by omega)]; omega
    have r1 := l_M_hole1 (Ls := Ls) (xs := xs) (d := d) (x := x) h (show k ≤ 60 by omega) hV 8 0 0 (by omega)
    have r1 : rn Ls xs d 135 13 [some (.inr (.inl (some 93))), some (.inl x), some (.inl (nI k)), some (.inl 0), some (.inl 0)] [] (S, I, R) = _ := r1
    rw [e_M_holeOf_2]
    simp only [e_M_holeOf_3, e_M_holeOf_5, e_M_holeOf_8, e_M_holeOf_9, e_M_holeOf_10, e_M_holeOf_11, hlt, and_self, and_true, true_and, and_false, false_and, or_true, true_or, or_false, false_or, not_true_eq_false, not_false_eq_true, if_true, if_false, ne_eq, ite_self, reduceCtorEq, i10, Decidable.not_not, Bool.and_self, Bool.and_true, Bool.true_and, r1]
    simp only [e_M_holeOf_44, e_M_holeOf_45, e_M_holeOf_46, e_M_holeOf_47, e_M_holeOf_48, e_M_holeOf_49, e_M_holeOf_52, e_M_holeOf_53, e_M_holeOf_54, e_M_holeOf_57, nI_1, ih (k + 1) _ _ (show k + 1 + j = 61 by omega), hlS, it_i, and_self, and_true, true_and, and_false, false_and, or_true, true_or, or_false, false_or, not_true_eq_false, not_false_eq_true, if_true, if_false, ne_eq, ite_self, reduceCtorEq, i10, Decidable.not_not, Bool.and_self, Bool.and_true, Bool.true_and, ite_not]
theorem k_M_holeOf (h : WF S R) {V : Nat → Nat → Int32} (hV : ∀ g k, g < 8 → k < 68 → I 98 (68 * g + k) = V g k) : rn Ls xs d 135 0 [some (.inr (.inl (some 93))), some (.inl x), none, none, none] [] (S, I, R) = some (some (.inl (hlS V x 0 61)), (S, I, R)) := by
  have r1 : rn Ls xs d 135 2 [some (.inr (.inl (some 93))), some (.inl x), some (.inl 0), none, none] [] (S, I, R) = _ := l_M_hole2 (Ls := Ls) (xs := xs) (d := d) (x := x) h hV 61 0 none none (by omega)
  simp only [e_M_holeOf_0, e_M_holeOf_1, r1]
noncomputable def sp_hole (A : mI) (x : Int32) : Int32 × mI := (if 0 ≤ x ∧ x ≤ 29 then hlS (ovV (A 94)) x 0 61 else BADi, A)
theorem o_M_hole (h : WF S R) (hm : MR I A) (hr : rwOK (A 94)) : ∃ I2, MR I2 (sp_hole A x).2 ∧ rn Ls xs (d + 9) 32 0 [some (.inr (.inl (some 93))), some (.inl x)] [] (S, I, R) = some (some (.inl (sp_hole A x).1), (S, I2, R)) := by
  have hr2 : rwOK (I 94) := by rw [hm.now]; exact hr
  unfold sp_hole
  by_cases h1 : 0 ≤ x ∧ x ≤ 29
  · obtain ⟨I2, e1, hV, hf, r1⟩ := k_M_looksUp (Ls := Ls) (xs := xs) (d := d + 4) h hr2
    refine ⟨I2, hm.fr hf (e1.trans hm.now), ?_⟩
    rw [← hm.now]
    simp only [e_M_hole_0, e_M_hole_1, e_M_hole_2, e_M_hole_5, e_M_hole_8, e_M_hole_10, e_M_hole_11, e_M_hole_12, e_M_hole_15, e_M_hole_16, e_M_hole_17, e_M_hole_20, k_M_isOf_2, rb_i, rb_v, in1, h1, and_self, and_true, true_and, and_false, false_and, or_true, true_or, or_false, false_or, not_true_eq_false, not_false_eq_true, if_true, if_false, ne_eq, ite_self, reduceCtorEq, i10, Decidable.not_not, Bool.and_self, Bool.and_true, Bool.true_and, is_93 h, r1, k_M_holeOf h hV]
  · exact ⟨I, hm, by simp only [e_M_hole_0, e_M_hole_1, e_M_hole_2, e_M_hole_5, e_M_hole_8, e_M_hole_10, e_M_hole_11, e_M_hole_12, e_M_hole_15, e_M_hole_16, e_M_hole_17, e_M_hole_20, k_M_isOf_2, rb_i, in1, h1, and_self, and_true, true_and, and_false, false_and, or_true, true_or, or_false, false_or, not_true_eq_false, not_false_eq_true, if_true, if_false, ne_eq, ite_self, reduceCtorEq, i10, Decidable.not_not, Bool.and_self, Bool.and_true, Bool.true_and]⟩
noncomputable def opS (V : Nat → Nat → Int32) (x : Int32) : Nat → Nat → Int32 → Int32
  | _, 0, s => s
  | p, j + 1, s => opS V x (p + 1) j (s + if hlS V (nI p) 0 61 = x then 1 else 0)
theorem l_M_open (h : WF S R) {V : Nat → Nat → Int32} (hV : ∀ g k, g < 8 → k < 68 → I 98 (68 * g + k) = V g k) : ∀ (j p : Nat) (s : Int32), p + j = 30 → rn Ls xs (d + 1) 34 21 [some (.inr (.inl (some 93))), some (.inl x), some (.inl s), some (.inl (nI p))] [] (S, I, R) = some (some (.inl (opS V x p j s)), (S, I, R)) := by
  intro j
  induction j with
  | zero =>
    intro p s hp
    have : p = 30 := by omega
    subst this
    rw [e_M_open_21]
    simp only [e_M_open_0, e_M_open_1, e_M_open_2, e_M_open_4, e_M_open_7, e_M_open_10, e_M_open_12, e_M_open_13, e_M_open_14, e_M_open_17, e_M_open_18, e_M_open_19, e_M_open_20, e_M_open_22, e_M_open_24, e_M_open_27, e_M_open_28, e_M_open_29, e_M_open_30, e_M_open_33, e_M_open_34, e_M_open_37, e_M_open_38, e_M_open_41, e_M_open_42, e_M_open_43, e_M_open_44, e_M_open_47, e_M_open_50, e_M_open_51, show ((30 : Int32) ≤ nI 30) by decide, and_self, and_true, true_and, and_false, false_and, or_true, true_or, or_false, false_or, not_true_eq_false, not_false_eq_true, if_true, if_false, ne_eq, ite_self, reduceCtorEq, i10, Decidable.not_not, Bool.and_self, Bool.and_true, Bool.true_and, opS]
  | succ j ih =>
    intro p s hp
    have hlt : ¬ (30 : Int32) ≤ nI p := by rw [show (30 : Int32) = nI 30 from rfl, nI_le' (by decide) (by omega)]; omega
    rw [e_M_open_21]
    simp only [e_M_open_0, e_M_open_1, e_M_open_2, e_M_open_4, e_M_open_7, e_M_open_10, e_M_open_12, e_M_open_13, e_M_open_14, e_M_open_17, e_M_open_18, e_M_open_19, e_M_open_20, e_M_open_22, e_M_open_24, e_M_open_27, e_M_open_28, e_M_open_29, e_M_open_30, e_M_open_33, e_M_open_34, e_M_open_37, e_M_open_38, e_M_open_41, e_M_open_42, e_M_open_43, e_M_open_44, e_M_open_47, e_M_open_50, e_M_open_51, hlt, and_self, and_true, true_and, and_false, false_and, or_true, true_or, or_false, false_or, not_true_eq_false, not_false_eq_true, if_true, if_false, ne_eq, ite_self, reduceCtorEq, i10, Decidable.not_not, Bool.and_self, Bool.and_true, Bool.true_and, is_93 h, k_M_holeOf h hV, rb_i, nI_1, ih _ _ (show p + 1 + j = 30 by omega), opS, ite_not]
    by_cases h1 : hlS V (nI p) 0 61 = x
    · simp only [h1, and_self, and_true, true_and, and_false, false_and, or_true, true_or, or_false, false_or, not_true_eq_false, not_false_eq_true, if_true, if_false, ne_eq, ite_self, reduceCtorEq, i10, Decidable.not_not, Bool.and_self, Bool.and_true, Bool.true_and]
    · simp only [h1, and_self, and_true, true_and, and_false, false_and, or_true, true_or, or_false, false_or, not_true_eq_false, not_false_eq_true, if_true, if_false, ne_eq, ite_self, reduceCtorEq, i10, Decidable.not_not, Bool.and_self, Bool.and_true, Bool.true_and]
noncomputable def sp_open (A : mI) (x : Int32) : Int32 × mI := (if 0 ≤ x ∧ x ≤ 60 then opS (ovV (A 94)) x 0 30 0 else BADi, A)
theorem o_M_open (h : WF S R) (hm : MR I A) (hr : rwOK (A 94)) : ∃ I2, MR I2 (sp_open A x).2 ∧ rn Ls xs (d + 9) 34 0 [some (.inr (.inl (some 93))), some (.inl x), none, none] [] (S, I, R) = some (some (.inl (sp_open A x).1), (S, I2, R)) := by
  have hr2 : rwOK (I 94) := by rw [hm.now]; exact hr
  unfold sp_open
  by_cases h1 : 0 ≤ x ∧ x ≤ 60
  · obtain ⟨I2, e1, hV, hf, r1⟩ := k_M_looksUp (Ls := Ls) (xs := xs) (d := d + 4) h hr2
    refine ⟨I2, hm.fr hf (e1.trans hm.now), ?_⟩
    have r2 : rn Ls xs (d + 9) 34 21 [some (.inr (.inl (some 93))), some (.inl x), some (.inl 0), some (.inl 0)] [] (S, I2, R) = _ := l_M_open (Ls := Ls) (xs := xs) (d := d + 8) (x := x) h hV 30 0 0 (by omega)
    rw [← hm.now]
    simp only [e_M_open_0, e_M_open_1, e_M_open_2, e_M_open_4, e_M_open_7, e_M_open_10, e_M_open_12, e_M_open_13, e_M_open_14, e_M_open_17, e_M_open_18, e_M_open_19, e_M_open_20, e_M_open_22, e_M_open_24, e_M_open_27, e_M_open_28, e_M_open_29, e_M_open_30, e_M_open_33, e_M_open_34, e_M_open_37, e_M_open_38, e_M_open_41, e_M_open_42, e_M_open_43, e_M_open_44, e_M_open_47, e_M_open_50, e_M_open_51, k_M_in, rb_i, rb_v, in1, h1, and_self, and_true, true_and, and_false, false_and, or_true, true_or, or_false, false_or, not_true_eq_false, not_false_eq_true, if_true, if_false, ne_eq, ite_self, reduceCtorEq, i10, Decidable.not_not, Bool.and_self, Bool.and_true, Bool.true_and, is_93 h, r1, r2]
  · exact ⟨I, hm, by simp only [e_M_open_0, e_M_open_1, e_M_open_2, e_M_open_4, e_M_open_7, e_M_open_10, e_M_open_12, e_M_open_13, e_M_open_14, e_M_open_17, e_M_open_18, e_M_open_19, e_M_open_20, e_M_open_22, e_M_open_24, e_M_open_27, e_M_open_28, e_M_open_29, e_M_open_30, e_M_open_33, e_M_open_34, e_M_open_37, e_M_open_38, e_M_open_41, e_M_open_42, e_M_open_43, e_M_open_44, e_M_open_47, e_M_open_50, e_M_open_51, k_M_in, rb_i, in1, h1, and_self, and_true, true_and, and_false, false_and, or_true, true_or, or_false, false_or, not_true_eq_false, not_false_eq_true, if_true, if_false, ne_eq, ite_self, reduceCtorEq, i10, Decidable.not_not, Bool.and_self, Bool.and_true, Bool.true_and]⟩
end MT15

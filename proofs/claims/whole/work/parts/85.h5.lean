/-! TEXTS: the reference takes a part -/
theorem stl_len (r : Nat) : ∀ (W C : List Int32), (stl r W C).2.length + (stl r W C).1.length = C.length + W.length
  | [], C => rfl
  | w :: W, C => by
    unfold stl
    split
    · rw [stl_len r W (C ++ [w]), List.length_append]
      show C.length + 1 + W.length = C.length + (W.length + 1)
      omega
    · rfl
theorem stl_sub (r : Nat) : ∀ (W C : List Int32) (w : Int32), w ∈ (stl r W C).1 → w ∈ W
  | [], C, w, h => h
  | v :: W, C, w, h => by
    unfold stl at h
    split at h
    · exact List.mem_cons_of_mem _ (stl_sub r W _ w h)
    · exact h
theorem stl_atm (r : Nat) : ∀ (W C : List Int32), (∀ w ∈ W, w < 0) → atm (stl r W C).2 = atm C
  | [], C, _ => rfl
  | w :: W, C, h => by
    unfold stl
    split
    · rw [stl_atm r W (C ++ [w]) (fun v hv => h v (List.mem_cons_of_mem _ hv)), atm_app]
      show atm C + ((if w < 0 then 0 else 1) + 0) = _
      rw [if_pos (h w List.mem_cons_self)]
      rfl
    · rfl
section MPB
variable {Ls : Nat} {xs : Nat → Int32} {d : Nat} {S : mS} {I I2 I3 : mI} {R : mR} {x y z : Int32} {H : mH} {T : Nat → Int32} {n i key : Nat} {W C : List Int32} {ts : Nat → Int32}
/-- settle, in the state -/
theorem p_settle (h : WF S R) {r : Nat} (hr : r ≤ 6) (hs : PS I T n key i W C ts) : ∃ I2, PS I2 T n key i (stl r W C).1 (stl r W C).2 ts ∧ MI' I I2 ∧ rn Ls xs (d + 1) 203 0 [some (.inr (.inl (some 93))), some (.inl (nI r))] [] (S, I, R) = some (none, (S, I2, R)) := by
  obtain ⟨⟨t1, ⟨m1, m2, m3, m4, m5⟩, t3⟩, h15, h20, hcw, h106, hl, h96, hw⟩ := hs
  obtain ⟨I2, g1, g2, r2⟩ := k_settle (Ls := Ls) (xs := xs) (d := d) h hr W C I hcw (by omega)
  have sl := stl_len r W C
  refine ⟨I2, ⟨⟨⟨by rw [g2.2 9 (by decide) (by decide)]; exact t1.1, t1.2.1, fun k hk => by rw [g2.1 101 (by decide) (by decide)]; exact t1.2.2 k hk⟩, ⟨by rw [g2.2 10 (by decide) (by decide)]; exact m1, by rw [g2.2 11 (by decide) (by decide)]; exact m2, by rw [g2.2 12 (by decide) (by decide)]; exact m3, fun q => by rw [g2.2 13 (by decide) (by decide)]; exact m4 q, fun q q2 => by rw [g2.2 13 (by decide) (by decide)]; exact m5 q q2⟩, fun q => by unfold EP; rw [g2.2 14 (by decide) (by decide)]; exact t3 q⟩, by rw [g2.2 15 (by decide) (by decide)]; exact h15, by rw [g2.2 20 (by decide) (by decide), stl_atm r W C hw]; exact h20, g1, fun k hk => by rw [g2.1 106 (by decide) (by decide)]; exact h106 k hk, by omega, h96, fun v hv => hw v (stl_sub r W C v hv)⟩, g2, r2⟩
theorem tk_1' (hk : key < 3) : (tk T n key i).1 = 1 ↔ (tkn T n i = 2 ∨ (tkn T n i = 1 ∧ tB T n i - tA T n i = 1 ∧ 0 ≤ nmW key (T (tA T n i)))) := by
  have bC := tC_le (T := T) (n := n) i
  by_cases c3 : tC T n i = 3
  · rw [tk_3 c3, tkn, if_pos c3]
    exact ⟨fun q => (by cases q), fun q => by rcases q with q | q; cases q; cases q.1⟩
  · by_cases c2 : tC T n i = 2
    · rw [tkn, if_neg c3, if_pos c2]
      by_cases hg : tG T n i ∨ 4 < tB T n i - tA T n i
      · rw [tk_2b c2 hg, if_pos hg]
        exact ⟨fun q => (by cases q), fun q => by rcases q with q | q; cases q; cases q.1⟩
      · rw [tk_2 c2 hg, if_neg hg]
        exact ⟨fun _ => Or.inl rfl, fun _ => rfl⟩
    · by_cases c1 : tC T n i = 1
      · rw [tkn, if_neg c3, if_neg c2, if_pos c1]
        by_cases hg : tG T n i
        · rw [tk_1b c1 (Or.inl hg), if_pos hg]
          exact ⟨fun q => (by cases q), fun q => by rcases q with q | q; cases q; cases q.1⟩
        · rw [if_neg hg]
          by_cases hb : tB T n i - tA T n i ≠ 1 ∨ nmW key (T (tA T n i)) < 0
          · rw [tk_1b c1 (Or.inr hb)]
            refine ⟨fun q => (by cases q), fun q => ?_⟩
            rcases q with q | q
            · cases q
            · rcases hb with b | b
              · exact absurd q.2.1 b
              · exact absurd b (i_nlt.mpr q.2.2)
          · rw [tk_1 c1 (fun q => q.elim hg hb)]
            refine ⟨fun _ => Or.inr ⟨rfl, ?_, ?_⟩, fun _ => rfl⟩
            · exact Classical.byContradiction (fun q => hb (Or.inl q))
            · exact i_nlt.mp (fun q => hb (Or.inr q))
      · have c0 : tC T n i = 0 := by omega
        rw [tkn, if_neg c3, if_neg c2, if_neg c1]
        exact ⟨fun q => absurd q (tk_0 c0), fun q => by rcases q with q | q; cases q; cases q.1⟩
theorem p_part (h : WF S R) (hk : key < 3) (hs : PS I T n key i W C ts) : ((tk T n key i).1 = 1 → ∃ I2, PS I2 T n key (i + 1) (stl 6 W (C ++ [(tk T n key i).2])).1 (stl 6 W (C ++ [(tk T n key i).2])).2 ts ∧ MH I I2 ∧ rn Ls xs (d + 3) 201 0 [some (.inr (.inl (some 93))), none] [] (S, I, R) = some (some (.inl 1), (S, I2, R))) ∧ ((tk T n key i).1 ≠ 1 → rn Ls xs (d + 3) 201 0 [some (.inr (.inl (some 93))), none] [] (S, I, R) = some (some (.inl 0), (S, I, R))) := by
  obtain ⟨⟨t1, ⟨m1, m2, m3, m4, m5⟩, t3⟩, h15, h20, ⟨⟨h19, h104⟩, h22, h105⟩, h106, hl, h96, hw⟩ := id hs
  have bA := tA_b (T := T) (n := n) i
  have bB := tB_b (T := T) (n := n) i
  have t2' := t1.2.1
  have tl := tkn_le (T := T) (n := n) (i := i)
  have es : nI (tB T n i) - nI (tA T n i) = nI (tB T n i - tA T n i) := pk_sub bB.1
  have ki := tk_1' (T := T) (n := n) (i := i) hk
  have kn := k_nameOf (Ls := Ls) (xs := xs) (d := d + 2) (x := I 93 13) h hk h15
  /- is it a name -/
  have s1 : ∃ b : Int32, b = (if tkn T n i = 1 ∧ tB T n i - tA T n i = 1 ∧ 0 ≤ nmW key (T (tA T n i)) then 1 else 0) ∧ rn Ls xs (d + 3) 201 0 [some (.inr (.inl (some 93))), none] [] (S, I, R) = rn Ls xs (d + 3) 201 38 [some (.inr (.inl (some 93))), some (.inl b)] [] (S, I, R) := by
    refine ⟨_, rfl, ?_⟩
    by_cases q1 : tkn T n i = 1
    · have c1 : tC T n i = 1 := by
        have bC := tC_le (T := T) (n := n) i
        unfold tkn at q1
        split at q1
        · cases q1
        · split at q1
          · split at q1 <;> cases q1
          · split at q1
            · assumption
            · cases q1
      have e13 := m4 (Or.inr c1)
      rw [e13] at kn
      by_cases q2 : tB T n i - tA T n i = 1
      · by_cases q3 : 0 ≤ nmW key (T (tA T n i))
        · rw [if_pos ⟨q1, q2, q3⟩]
          simp only [e_M_takesPart_0, e_M_takesPart_1, e_M_takesPart_4, e_M_takesPart_5, e_M_takesPart_8, e_M_takesPart_9, e_M_takesPart_12, e_M_takesPart_13, e_M_takesPart_16, e_M_takesPart_17, e_M_takesPart_18, e_M_takesPart_21, e_M_takesPart_22, e_M_takesPart_23, e_M_takesPart_26, e_M_takesPart_29, e_M_takesPart_32, e_M_takesPart_33, e_M_takesPart_36, e_M_takesPart_37, is_93 h, and_self, and_true, true_and, and_false, false_and, or_true, true_or, or_false, false_or, not_true_eq_false, not_false_eq_true, if_true, if_false, ne_eq, ite_self, reduceCtorEq, i10, Decidable.not_not, Bool.and_self, Bool.and_true, Bool.true_and, m3, q1, show nI 1 = 1 from rfl, m1, m2, es, q2, e13, kn, rb_i, i_nlt.mpr q3]
        · rw [if_neg (fun z => q3 z.2.2)]
          simp only [e_M_takesPart_0, e_M_takesPart_1, e_M_takesPart_4, e_M_takesPart_5, e_M_takesPart_8, e_M_takesPart_9, e_M_takesPart_12, e_M_takesPart_13, e_M_takesPart_16, e_M_takesPart_17, e_M_takesPart_18, e_M_takesPart_21, e_M_takesPart_22, e_M_takesPart_23, e_M_takesPart_26, e_M_takesPart_29, e_M_takesPart_32, e_M_takesPart_33, e_M_takesPart_36, e_M_takesPart_37, is_93 h, and_self, and_true, true_and, and_false, false_and, or_true, true_or, or_false, false_or, not_true_eq_false, not_false_eq_true, if_true, if_false, ne_eq, ite_self, reduceCtorEq, i10, Decidable.not_not, Bool.and_self, Bool.and_true, Bool.true_and, m3, q1, show nI 1 = 1 from rfl, m1, m2, es, q2, e13, kn, rb_i, i_nle.mp q3]
      · have n2 : ¬ nI (tB T n i - tA T n i) = 1 := by rw [show (1 : Int32) = nI 1 from rfl, nI_eq' (by omega) (by decide)]; exact q2
        rw [if_neg (fun z => q2 z.2.1)]
        simp only [e_M_takesPart_0, e_M_takesPart_1, e_M_takesPart_4, e_M_takesPart_5, e_M_takesPart_8, e_M_takesPart_9, e_M_takesPart_12, e_M_takesPart_13, e_M_takesPart_16, e_M_takesPart_17, e_M_takesPart_18, e_M_takesPart_21, e_M_takesPart_22, e_M_takesPart_23, e_M_takesPart_26, e_M_takesPart_29, e_M_takesPart_32, e_M_takesPart_33, e_M_takesPart_36, e_M_takesPart_37, is_93 h, and_self, and_true, true_and, and_false, false_and, or_true, true_or, or_false, false_or, not_true_eq_false, not_false_eq_true, if_true, if_false, ne_eq, ite_self, reduceCtorEq, i10, Decidable.not_not, Bool.and_self, Bool.and_true, Bool.true_and, m3, q1, show nI 1 = 1 from rfl, m1, m2, es, n2]
    · have n1 : ¬ nI (tkn T n i) = 1 := by rw [show (1 : Int32) = nI 1 from rfl, nI_eq' (by omega) (by decide)]; exact q1
      rw [if_neg (fun z => q1 z.1)]
      simp only [e_M_takesPart_0, e_M_takesPart_1, e_M_takesPart_4, e_M_takesPart_5, e_M_takesPart_8, e_M_takesPart_9, e_M_takesPart_12, e_M_takesPart_13, e_M_takesPart_16, e_M_takesPart_17, e_M_takesPart_18, e_M_takesPart_21, e_M_takesPart_22, e_M_takesPart_23, e_M_takesPart_26, e_M_takesPart_29, e_M_takesPart_32, e_M_takesPart_33, e_M_takesPart_36, e_M_takesPart_37, is_93 h, and_self, and_true, true_and, and_false, false_and, or_true, true_or, or_false, false_or, not_true_eq_false, not_false_eq_true, if_true, if_false, ne_eq, ite_self, reduceCtorEq, i10, Decidable.not_not, Bool.and_self, Bool.and_true, Bool.true_and, m3, n1]
  obtain ⟨b, hb, st⟩ := s1
  refine ⟨fun k1 => ?_, fun k1 => ?_⟩
  · have c3 : tC T n i ≠ 3 := tk_n (by rw [k1]; decide)
    have ta := tk_a hk k1
    /- the operand -/
    obtain ⟨J, hJ⟩ : ∃ J : mI, J = va_up (va_up I 104 (upd (I 104) C.length (tk T n key i).2)) 93 (upd (upd (I 93) 19 (nI (C.length + 1))) 20 (nI (atm C + 1))) := ⟨_, rfl⟩
    have j93 : ∀ k, k ≠ 19 → k ≠ 20 → J 93 k = I 93 k := fun k k1 k2 => by rw [hJ, vu_s, up_n k2, up_n k1]
    have jo : ∀ b, b ≠ 93 → b ≠ 104 → J b = I b := fun b b1 b2 => by rw [hJ, vu_n b1, vu_n b2]
    have sJ : PS J T n key (i + 1 - 1) W (C ++ [(tk T n key i).2]) ts ∨ True := Or.inr trivial
    have cwJ : CW J W (C ++ [(tk T n key i).2]) := by
      refine ⟨⟨by rw [hJ, vu_s, up_n (by decide), up_s, List.length_append]; rfl, fun k hk => ?_⟩, by rw [j93 22 (by decide) (by decide)]; exact h22, fun k hk => by rw [jo 105 (by decide) (by decide)]; exact h105 k hk⟩
      rw [List.length_append] at hk
      have hk : k < C.length + 1 := hk
      rw [hJ, vu_n (by decide), vu_s]
      by_cases ek : k = C.length
      · subst ek; rw [up_s, ga_r]
      · rw [up_n ek, ga_l (by omega)]
        exact h104 k (by omega)
    have len : (C ++ [(tk T n key i).2]).length = C.length + 1 := by rw [List.length_append]; rfl
    have bn := tC_n c3
    obtain ⟨I2, g1, g2, r2⟩ := k_settle (Ls := Ls) (xs := xs) (d := d + 1) h (show 6 ≤ 6 by decide) W (C ++ [(tk T n key i).2]) J cwJ (by rw [len]; omega)
    have sl := stl_len 6 W (C ++ [(tk T n key i).2])
    have T2 : TPM I2 T n := ⟨by rw [g2.2 9 (by decide) (by decide), j93 9 (by decide) (by decide)]; exact t1.1, t2', fun k hk => by rw [g2.1 101 (by decide) (by decide), jo 101 (by decide) (by decide)]; exact t1.2.2 k hk⟩
    have e10 : I2 93 10 = nI (tS T n (i + 1)).1 := by rw [g2.2 10 (by decide) (by decide), j93 10 (by decide) (by decide)]; exact m1
    have hE : EP I2 T n (i + 1) := by
      unfold EP
      rw [g2.2 14 (by decide) (by decide), j93 14 (by decide) (by decide)]
      exact t3 c3
    obtain ⟨I3, u1, u2, u3, r3⟩ := k_go (Ls := Ls) (xs := xs) (d := d) (i := i + 1) h T2 e10 hE c3
    have at2 : atm (stl 6 W (C ++ [(tk T n key i).2])).2 = atm C + 1 := by
      rw [stl_atm 6 W _ hw, atm_app]
      show atm C + ((if (tk T n key i).2 < 0 then 0 else 1) + 0) = _
      rw [if_neg ta.1]
    refine ⟨I3, ⟨⟨T2.mg u3, u1, u2⟩, ?_, ?_, ?_, ?_, ?_, ?_, fun v hv => hw v (stl_sub 6 W _ v hv)⟩, ?_, ?_⟩
    · rw [u3.2 15 (by omega), g2.2 15 (by decide) (by decide), j93 15 (by decide) (by decide)]; exact h15
    · rw [u3.2 20 (by omega), g2.2 20 (by decide) (by decide), at2, hJ, vu_s, up_s]
    · refine ⟨⟨by rw [u3.2 19 (by omega)]; exact g1.1.1, fun k hk => by rw [u3.1 104 (by decide)]; exact g1.1.2 k hk⟩, by rw [u3.2 22 (by omega)]; exact g1.2.1, fun k hk => by rw [u3.1 105 (by decide)]; exact g1.2.2 k hk⟩
    · intro k hk
      rw [u3.1 106 (by decide), g2.1 106 (by decide) (by decide), jo 106 (by decide) (by decide)]
      exact h106 k hk
    · rw [len] at sl; omega
    · omega
    · refine ⟨fun b b1 b2 b3 b4 => by rw [u3.1 b b1, g2.1 b b1 b2, jo b b1 b2], fun k hk => by rw [u3.2 k (by omega), g2.2 k (by omega) (by omega), j93 k (by omega) (by omega)]⟩
    · rw [st]
      have r2 : rn Ls xs (d + 2) 203 0 [some (.inr (.inl (some 93))), some (.inl 6)] [] (S, J, R) = _ := r2
      have hJ' : va_up (va_up I 104 (upd (I 104) C.length (tk T n key i).2)) 93 (upd (upd (I 93) 19 (nI (C.length + 1))) 20 (nI (atm C + 1))) = J := hJ.symm
      rcases ki.mp k1 with q | q
      · have c2 : tC T n i = 2 := by
          unfold tkn at q
          split at q
          · cases q
          · split at q
            · assumption
            · split at q
              · split at q <;> cases q
              · cases q
        have nb : ¬ (tG T n i ∨ 4 < tB T n i - tA T n i) := by
          intro z
          rw [tkn, if_neg c3, if_pos c2, if_pos z] at q
          cases q
        have e2 : (tk T n key i).2 = I 93 13 := by
          rw [tk_2 c2 nb, m5 c2 (by have := fun z => nb (Or.inr z); omega)]
        rw [e2] at hJ'
        simp only [e_M_takesPart_38, e_M_takesPart_39, e_M_takesPart_42, e_M_takesPart_43, e_M_takesPart_46, e_M_takesPart_47, e_M_takesPart_50, e_M_takesPart_51, e_M_takesPart_52, e_M_takesPart_53, e_M_takesPart_56, e_M_takesPart_57, e_M_takesPart_60, e_M_takesPart_61, e_M_takesPart_64, e_M_takesPart_65, e_M_takesPart_68, e_M_takesPart_69, e_M_takesPart_72, e_M_takesPart_75, e_M_takesPart_78, e_M_takesPart_79, e_M_takesPart_80, e_M_takesPart_83, e_M_takesPart_86, e_M_takesPart_87, e_M_takesPart_88, e_M_takesPart_89, e_M_takesPart_90, e_M_takesPart_93, e_M_takesPart_94, e_M_takesPart_95, e_M_takesPart_98, e_M_takesPart_99, e_M_takesPart_100, e_M_takesPart_103, e_M_takesPart_104, e_M_takesPart_105, e_M_takesPart_108, e_M_takesPart_109, e_M_takesPart_111, e_M_takesPart_114, e_M_takesPart_115, e_M_takesPart_118, e_M_takesPart_119, is_93 h, rf_93_18 h, and_self, and_true, true_and, and_false, false_and, or_true, true_or, or_false, false_or, not_true_eq_false, not_false_eq_true, if_true, if_false, ne_eq, ite_self, reduceCtorEq, i10, Decidable.not_not, Bool.and_self, Bool.and_true, Bool.true_and, m3, q, show nI 2 = 2 from rfl, h19, ia_104 h (show C.length < 96 by omega), nI_clamp (show C.length < 2 ^ 31 by omega), vu_n (show 93 ≠ 104 by decide), vu_s, vu_vu, up_n (show 20 ≠ 19 by decide), h20, nI_1, hJ', r2, rb_v, r3, bo_1]
      · have c1 : tC T n i = 1 := by
          have q1 := q.1
          unfold tkn at q1
          split at q1
          · cases q1
          · split at q1
            · split at q1 <;> cases q1
            · split at q1
              · assumption
              · cases q1
        have ng : ¬ tG T n i := by
          intro z
          have q1 := q.1
          rw [tkn, if_neg c3, if_neg (by omega), if_pos c1, if_pos z] at q1
          cases q1
        have e13 := m4 (Or.inr c1)
        have e2 : (tk T n key i).2 = 10000 + nmW key (T (tA T n i)) := by
          rw [tk_1 c1 (fun z => by
            rcases z with z | z | z
            · exact ng z
            · exact z q.2.1
            · exact absurd z (i_nlt.mpr q.2.2))]
        rw [e2] at hJ'
        rw [e13] at kn
        have b1 : b = 1 := by rw [hb, if_pos q]
        subst b1
        simp only [e_M_takesPart_38, e_M_takesPart_39, e_M_takesPart_42, e_M_takesPart_43, e_M_takesPart_46, e_M_takesPart_47, e_M_takesPart_50, e_M_takesPart_51, e_M_takesPart_52, e_M_takesPart_53, e_M_takesPart_56, e_M_takesPart_57, e_M_takesPart_60, e_M_takesPart_61, e_M_takesPart_64, e_M_takesPart_65, e_M_takesPart_68, e_M_takesPart_69, e_M_takesPart_72, e_M_takesPart_75, e_M_takesPart_78, e_M_takesPart_79, e_M_takesPart_80, e_M_takesPart_83, e_M_takesPart_86, e_M_takesPart_87, e_M_takesPart_88, e_M_takesPart_89, e_M_takesPart_90, e_M_takesPart_93, e_M_takesPart_94, e_M_takesPart_95, e_M_takesPart_98, e_M_takesPart_99, e_M_takesPart_100, e_M_takesPart_103, e_M_takesPart_104, e_M_takesPart_105, e_M_takesPart_108, e_M_takesPart_109, e_M_takesPart_111, e_M_takesPart_114, e_M_takesPart_115, e_M_takesPart_118, e_M_takesPart_119, is_93 h, rf_93_18 h, and_self, and_true, true_and, and_false, false_and, or_true, true_or, or_false, false_or, not_true_eq_false, not_false_eq_true, if_true, if_false, ne_eq, ite_self, reduceCtorEq, i10, Decidable.not_not, Bool.and_self, Bool.and_true, Bool.true_and, m3, q.1, show nI 1 = 1 from rfl, show ¬ (1 : Int32) = 2 by decide, t1, h19, e13, kn, rb_i, ia_104 h (show C.length < 96 by omega), nI_clamp (show C.length < 2 ^ 31 by omega), vu_n (show 93 ≠ 104 by decide), vu_s, vu_vu, up_n (show 20 ≠ 19 by decide), h20, nI_1, hJ', r2, rb_v, r3, bo_1]
  · have n2 : ¬ nI (tkn T n i) = 2 := by
      rw [show (2 : Int32) = nI 2 from rfl, nI_eq' (by omega) (by decide)]
      exact fun q => k1 (ki.mpr (Or.inl q))
    have b0 : b = 0 := by rw [hb, if_neg (fun q => k1 (ki.mpr (Or.inr q)))]
    subst b0
    rw [st]
    simp only [e_M_takesPart_38, e_M_takesPart_39, e_M_takesPart_42, e_M_takesPart_43, e_M_takesPart_46, e_M_takesPart_47, e_M_takesPart_50, e_M_takesPart_51, is_93 h, and_self, and_true, true_and, and_false, false_and, or_true, true_or, or_false, false_or, not_true_eq_false, not_false_eq_true, if_true, if_false, ne_eq, ite_self, reduceCtorEq, i10, Decidable.not_not, Bool.and_self, Bool.and_true, Bool.true_and, m3, n2, bo_0]
end MPB

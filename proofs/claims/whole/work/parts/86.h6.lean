/-! TEXTS: the reference's steps -/
def isB (w : Int32) : Prop := w < 0 ∧ w ≠ -10 ∧ w ≠ -11
def ctx (lev : Nat) : List Int32 → Prop
  | [] => True
  | w :: _ => w = -11 ∨ (isB w ∧ rk w ≤ lev)
theorem stl_ctx {lev r : Nat} {W C : List Int32} (h : ctx lev W) (hr : lev < r) : stl r W C = (W, C) := by
  cases W with
  | nil => rfl
  | cons w W =>
    unfold stl
    rw [if_neg]
    rintro ⟨h1, h2⟩
    rcases h with q | q
    · exact h1 q
    · have := q.2; omega
theorem stl_P {r : Nat} : ∀ (P W C : List Int32), (∀ w ∈ P, isB w ∧ r ≤ rk w) → stl r (P ++ W) C = stl r W (C ++ P)
  | [], W, C, _ => by rw [List.append_nil]; rfl
  | p :: P, W, C, h => by
    have hp := h p List.mem_cons_self
    show (if p ≠ -11 ∧ r ≤ rk p then stl r (P ++ W) (C ++ [p]) else (p :: (P ++ W), C)) = _
    rw [if_pos ⟨hp.1.2.2, hp.2⟩, stl_P P W (C ++ [p]) (fun w hw => h w (List.mem_cons_of_mem _ hw)), List.append_assoc]
    rfl
theorem stl_op {r : Nat} {W C : List Int32} : stl r (-11 :: W) C = (-11 :: W, C) := by
  show (if (-11 : Int32) ≠ -11 ∧ r ≤ rk (-11) then _ else _) = _
  rw [if_neg (fun q => q.1 rfl)]
theorem stl_c11 (r : Nat) : ∀ (W C : List Int32), cnt (-11) (stl r W C).1 = cnt (-11) W
  | [], C => rfl
  | w :: W, C => by
    unfold stl
    split
    · rename_i h
      rw [stl_c11 r W (C ++ [w])]
      show _ = (if w = -11 then 1 else 0) + cnt (-11) W
      rw [if_neg h.1]
      omega
    · rfl
theorem cnt_P {s : Int32} (hs : s = -10 ∨ s = -11) : ∀ (P : List Int32), (∀ w ∈ P, isB w) → cnt s P = 0
  | [], _ => rfl
  | p :: P, h => by
    have hp := h p List.mem_cons_self
    show (if p = s then 1 else 0) + cnt s P = 0
    rw [cnt_P hs P (fun w hw => h w (List.mem_cons_of_mem _ hw)), if_neg]
    rcases hs with rfl | rfl
    · exact hp.2.1
    · exact hp.2.2
theorem rk_sg {s : Int32} (h : isB s) : 1 ≤ rk s ∧ rk s ≤ 6 := by
  refine ⟨?_, rk_le s⟩
  unfold rk
  repeat' split
  all_goals omega
theorem lv_rk : ∀ b : Int32, sgS b ≠ 0 → rk (sgS b) = lvS (sgS b) + 1 ∧ isB (sgS b) ∧ lvS (sgS b) ≤ 4 := by
  intro b
  unfold sgS
  by_cases h1 : b = 124
  · rw [if_pos h1]; intro _; unfold isB; decide
  · rw [if_neg h1]
    by_cases h2 : b = 38
    · rw [if_pos h2]; intro _; unfold isB; decide
    · rw [if_neg h2]
      by_cases h3 : b = 60
      · rw [if_pos h3]; intro _; unfold isB; decide
      · rw [if_neg h3]
        by_cases h4 : b = 61
        · rw [if_pos h4]; intro _; unfold isB; decide
        · rw [if_neg h4]
          by_cases h5 : b = 62
          · rw [if_pos h5]; intro _; unfold isB; decide
          · rw [if_neg h5]
            by_cases h6 : b = 43
            · rw [if_pos h6]; intro _; unfold isB; decide
            · rw [if_neg h6]
              by_cases h7 : b = 45
              · rw [if_pos h7]; intro _; unfold isB; decide
              · rw [if_neg h7]
                by_cases h8 : b = 42
                · rw [if_pos h8]; intro _; unfold isB; decide
                · rw [if_neg h8]
                  by_cases h9 : b = 47
                  · rw [if_pos h9]; intro _; unfold isB; decide
                  · rw [if_neg h9]; intro q; exact absurd rfl q
section MSP
variable {Ls : Nat} {xs : Nat → Int32} {d : Nat} {S : mS} {I I2 I3 : mI} {R : mR} {x y z : Int32} {H : mH} {T : Nat → Int32} {n i key : Nat} {W C : List Int32} {ts ts2 : Nat → Int32} {l4 : Option mV}
/-- the loop's head -/
noncomputable abbrev HD (Ls : Nat) (xs : Nat → Int32) (d : Nat) (S : mS) (R : mR) (I : mI) (w : Int32) (W : List Int32) (l4 : Option mV) : Option (Option mV × mH) := rn Ls xs (d + 4) 159 28 [some (.inr (.inl (some 93))), some (.inl (nI (cnt (-11) W))), some (.inl (nI (cnt (-10) W))), some (.inl w), l4] [] (S, I, R)
theorem p_push (h : WF S R) (hs : PS I T n key i W C ts) (c3 : tC T n i ≠ 3) {w : Int32} (hw : w < 0) {f : Nat → Int32} (hf : ∀ k, k < 10 → f k = ts2 k) : ∃ I2, PS I2 T n key (i + 1) (w :: W) C ts2 ∧ MH I I2 ∧ rn Ls xs (d + 2) 157 0 [some (.inr (.inl (some 93))), none] [] (S, va_up (va_up (va_up I 105 (upd (I 105) W.length w)) 93 (upd (I 93) 22 (nI (W.length + 1)))) 106 f, R) = some (none, (S, I2, R)) := by
  obtain ⟨⟨t1, ⟨m1, m2, m3, m4, m5⟩, t3⟩, h15, h20, ⟨⟨h19, h104⟩, h22, h105⟩, h106, hl, h96, hwn⟩ := hs
  obtain ⟨K, hK⟩ : ∃ K : mI, K = va_up (va_up (va_up I 105 (upd (I 105) W.length w)) 93 (upd (I 93) 22 (nI (W.length + 1)))) 106 f := ⟨_, rfl⟩
  rw [← hK]
  have k93 : ∀ k, k ≠ 22 → K 93 k = I 93 k := fun k k1 => by rw [hK, vu_n (by decide), vu_s, up_n k1]
  have ko : ∀ b, b ≠ 93 → b ≠ 105 → b ≠ 106 → K b = I b := fun b b1 b2 b3 => by rw [hK, vu_n b3, vu_n b1, vu_n b2]
  have T2 : TPM K T n := ⟨by rw [k93 9 (by decide)]; exact t1.1, t1.2.1, fun k hk => by rw [ko 101 (by decide) (by decide) (by decide)]; exact t1.2.2 k hk⟩
  have bn := tC_n c3
  have t2' := t1.2.1
  obtain ⟨I3, u1, u2, u3, r3⟩ := k_go (Ls := Ls) (xs := xs) (d := d) (i := i + 1) h T2 (by rw [k93 10 (by decide)]; exact m1) (by unfold EP; rw [k93 14 (by decide)]; exact t3 c3) c3
  refine ⟨I3, ⟨⟨T2.mg u3, u1, u2⟩, ?_, ?_, ⟨⟨?_, fun k hk => ?_⟩, ?_, fun k hk => ?_⟩, fun k hk => ?_, ?_, by omega, fun v hv => ?_⟩, ?_, r3⟩
  · rw [u3.2 15 (by omega), k93 15 (by decide)]; exact h15
  · rw [u3.2 20 (by omega), k93 20 (by decide)]; exact h20
  · rw [u3.2 19 (by omega), k93 19 (by decide)]; exact h19
  · rw [u3.1 104 (by decide), ko 104 (by decide) (by decide) (by decide)]; exact h104 k hk
  · rw [u3.2 22 (by omega), hK, vu_n (by decide), vu_s, up_s]; rfl
  · have hk : k < W.length + 1 := hk
    rw [u3.1 105 (by decide), hK, vu_n (by decide), vu_n (by decide), vu_s]
    by_cases ek : k = W.length
    · subst ek; rw [up_s, rv_r]
    · rw [up_n ek, rv_l (by omega)]
      exact h105 k (by omega)
  · rw [u3.1 106 (by decide), hK, vu_s]; exact hf k hk
  · show C.length + (W.length + 1) + 1 ≤ i + 1; omega
  · rcases List.mem_cons.mp hv with q | q
    · rw [q]; exact hw
    · exact hwn v q
  · exact ⟨fun b b1 b2 b3 b4 => by rw [u3.1 b b1, ko b b1 b3 b4], fun k hk => by rw [u3.2 k (by omega), k93 k (by omega)]⟩
theorem PS.tn (hs : PS I T n key i W C ts) : W.length ≤ 95 ∧ C.length ≤ 95 := by
  obtain ⟨-, -, -, -, -, h1, h2, -⟩ := hs
  omega
/-- a not -/
theorem w_not (h : WF S R) (hs : PS I T n key i W C ts) (k2 : (tk T n key i).1 = 2) (hl : cnt (-10) W < 8) : ∃ I2, PS I2 T n key (i + 1) (-10 :: W) C ts ∧ MH I I2 ∧ HD Ls xs d S R I 1 W l4 = HD Ls xs d S R I2 1 (-10 :: W) l4 := by
  have c0 : tC T n i = 0 := Classical.byContradiction (fun q => (tk_ns (key := key) q).1 k2)
  have b33 : T (tA T n i) = 33 := (tkb_2 _).mp (by rw [← tk_s (key := key) c0]; exact k2)
  have tl := hs.tn
  obtain ⟨⟨t1', ⟨m1, m2, m3, m4, m5⟩, t3⟩, h15, h20, ⟨⟨h19, h104⟩, h22, h105⟩, h106, -⟩ := id hs
  have e12 : I 93 12 = 3 := by rw [m3, tkn_3.mpr c0]; rfl
  have e13 : I 93 13 = 33 := by rw [m4 (Or.inl c0), b33]
  obtain ⟨I2, g1, g2, r2⟩ := p_push (Ls := Ls) (xs := xs) (d := d + 1) (ts2 := ts) h hs (by omega) (show (-10 : Int32) < 0 by decide) (f := I 106) h106
  have g22 := g1.2.2.2.1.2.1
  have g105 := g1.2.2.2.1.2.2
  have kn := k_nots (Ls := Ls) (xs := xs) (d := d + 3) (I := I2) (W := -10 :: W) h (g1.tn).1 g22 g105
  have nl : ¬ (8 : Int32) ≤ nI (cnt (-10) W) := by rw [show (8 : Int32) = nI 8 from rfl, nI_le' (by decide) (by omega)]; omega
  have c11 : cnt (-11) (-10 :: W) = cnt (-11) W := by show (if (-10 : Int32) = -11 then 1 else 0) + _ = _; rw [if_neg (by decide)]; omega
  have e106 : va_up (va_up (va_up I 105 (upd (I 105) W.length (-10))) 93 (upd (I 93) 22 (nI (W.length + 1)))) 106 (I 106) = va_up (va_up I 105 (upd (I 105) W.length (-10))) 93 (upd (I 93) 22 (nI (W.length + 1))) := vu_id' (by rw [vu_n (by decide), vu_n (by decide)])
  rw [e106] at r2
  refine ⟨I2, g1, g2, ?_⟩
  show rn Ls xs (d + 4) _ 28 _ _ _ = rn Ls xs (d + 4) _ 28 _ _ _
  rw [e_M_takesE_28, c11]
  simp only [e_M_takesE_29, e_M_takesE_32, e_M_takesE_33, e_M_takesE_36, e_M_takesE_39, e_M_takesE_40, e_M_takesE_43, e_M_takesE_44, e_M_takesE_47, e_M_takesE_48, e_M_takesE_51, e_M_takesE_52, e_M_takesE_55, e_M_takesE_57, e_M_takesE_60, e_M_takesE_61, e_M_takesE_63, e_M_takesE_66, e_M_takesE_67, e_M_takesE_70, e_M_takesE_71, e_M_takesE_74, e_M_takesE_76, e_M_takesE_77, e_M_takesE_78, e_M_takesE_79, e_M_takesE_82, e_M_takesE_83, e_M_takesE_84, e_M_takesE_87, e_M_takesE_90, e_M_takesE_91, e_M_takesE_94, e_M_takesE_172, e_M_takesE_173, e_M_takesE_176, e_M_takesE_177, t1, is_93 h, and_self, and_true, true_and, and_false, false_and, or_true, true_or, or_false, false_or, not_true_eq_false, not_false_eq_true, if_true, if_false, ne_eq, ite_self, reduceCtorEq, i10, Decidable.not_not, Bool.and_self, Bool.and_true, Bool.true_and, e12, e13, nl, rf_93_21 h, h22, ia_105 h (show W.length < 96 by omega), nI_clamp (show W.length < 2 ^ 31 by omega), vu_n (show 93 ≠ 105 by decide), nI_1, r2, rb_v, kn, rb_i]
/-- an open round -/
theorem w_open (h : WF S R) (hs : PS I T n key i W C ts) (k3 : (tk T n key i).1 = 3) (hl : cnt (-11) W < 8) : ∃ I2, PS I2 T n key (i + 1) (-11 :: W) C (upd ts (cnt (-11) W + 1) 0) ∧ MH I I2 ∧ HD Ls xs d S R I 1 W l4 = HD Ls xs d S R I2 1 (-11 :: W) l4 := by
  have c0 : tC T n i = 0 := Classical.byContradiction (fun q => (tk_ns (key := key) q).2.1 k3)
  have b40 : T (tA T n i) = 40 := (tkb_3 _).mp (by rw [← tk_s (key := key) c0]; exact k3)
  have tl := hs.tn
  obtain ⟨⟨t1', ⟨m1, m2, m3, m4, m5⟩, t3⟩, h15, h20, ⟨⟨h19, h104⟩, h22, h105⟩, h106, -⟩ := id hs
  have e12 : I 93 12 = 3 := by rw [m3, tkn_3.mpr c0]; rfl
  have e13 : I 93 13 = 40 := by rw [m4 (Or.inl c0), b40]
  obtain ⟨I2, g1, g2, r2⟩ := p_push (Ls := Ls) (xs := xs) (d := d + 1) (ts2 := upd ts (cnt (-11) W + 1) 0) h hs (by omega) (show (-11 : Int32) < 0 by decide) (f := upd (I 106) (cnt (-11) W + 1) 0) (fun k hk => by
    by_cases q : k = cnt (-11) W + 1
    · rw [q, up_s, up_s]
    · rw [up_n q, up_n q]; exact h106 k hk)
  have g22 := g1.2.2.2.1.2.1
  have g105 := g1.2.2.2.1.2.2
  have kn := k_nots (Ls := Ls) (xs := xs) (d := d + 3) (I := I2) (W := -11 :: W) h (g1.tn).1 g22 g105
  have nl : ¬ (8 : Int32) ≤ nI (cnt (-11) W) := by rw [show (8 : Int32) = nI 8 from rfl, nI_le' (by decide) (by omega)]; omega
  have c11 : cnt (-11) (-11 :: W) = cnt (-11) W + 1 := by show (if (-11 : Int32) = -11 then 1 else 0) + _ = _; rw [if_pos rfl]; omega
  refine ⟨I2, g1, g2, ?_⟩
  show rn Ls xs (d + 4) _ 28 _ _ _ = rn Ls xs (d + 4) _ 28 _ _ _
  rw [e_M_takesE_28, c11]
  simp only [e_M_takesE_29, e_M_takesE_32, e_M_takesE_33, e_M_takesE_36, e_M_takesE_39, e_M_takesE_40, e_M_takesE_43, e_M_takesE_44, e_M_takesE_47, e_M_takesE_48, e_M_takesE_51, e_M_takesE_52, e_M_takesE_55, e_M_takesE_57, e_M_takesE_60, e_M_takesE_61, e_M_takesE_63, e_M_takesE_66, e_M_takesE_67, e_M_takesE_70, e_M_takesE_71, e_M_takesE_74, e_M_takesE_76, e_M_takesE_77, e_M_takesE_78, e_M_takesE_79, e_M_takesE_82, e_M_takesE_83, e_M_takesE_84, e_M_takesE_87, e_M_takesE_90, e_M_takesE_91, e_M_takesE_94, e_M_takesE_97, e_M_takesE_98, e_M_takesE_101, e_M_takesE_102, e_M_takesE_105, e_M_takesE_106, e_M_takesE_109, e_M_takesE_111, e_M_takesE_114, e_M_takesE_115, e_M_takesE_117, e_M_takesE_120, e_M_takesE_121, e_M_takesE_124, e_M_takesE_125, e_M_takesE_128, e_M_takesE_130, e_M_takesE_131, e_M_takesE_132, e_M_takesE_133, e_M_takesE_136, e_M_takesE_137, e_M_takesE_138, e_M_takesE_141, e_M_takesE_144, e_M_takesE_145, e_M_takesE_148, e_M_takesE_149, e_M_takesE_150, e_M_takesE_151, e_M_takesE_152, e_M_takesE_155, e_M_takesE_172, e_M_takesE_173, e_M_takesE_176, e_M_takesE_177, t1, is_93 h, and_self, and_true, true_and, and_false, false_and, or_true, true_or, or_false, false_or, not_true_eq_false, not_false_eq_true, if_true, if_false, ne_eq, ite_self, reduceCtorEq, i10, Decidable.not_not, Bool.and_self, Bool.and_true, Bool.true_and, e12, e13, show ¬ (40 : Int32) = 33 by decide, nl, rf_93_21 h, rf_93_23 h, h22, ia_105 h (show W.length < 96 by omega), nI_clamp (show W.length < 2 ^ 31 by omega), vu_n (show 93 ≠ 105 by decide), nI_1, ia_106 h (show cnt (-11) W + 1 < 10 by omega), nI_clamp (show cnt (-11) W + 1 < 2 ^ 31 by omega), vu_n (show 106 ≠ 93 by decide), vu_n (show 106 ≠ 105 by decide), show vp_nar .boolean 0 = 0 from rfl, r2, rb_v, kn, rb_i]
/-- a part -/
theorem w_part (h : WF S R) (hk : key < 3) (hs : PS I T n key i W C ts) (k1 : (tk T n key i).1 = 1) : ∃ I2, PS I2 T n key (i + 1) (stl 6 W (C ++ [(tk T n key i).2])).1 (stl 6 W (C ++ [(tk T n key i).2])).2 ts ∧ MH I I2 ∧ HD Ls xs d S R I 1 W l4 = HD Ls xs d S R I2 0 (stl 6 W (C ++ [(tk T n key i).2])).1 l4 := by
  have tl := hs.tn
  have cl := cnt_le (-11) W
  obtain ⟨⟨t1', ⟨m1, m2, m3, m4, m5⟩, t3⟩, h15, h20, ⟨⟨h19, h104⟩, h22, h105⟩, h106, -⟩ := id hs
  obtain ⟨I2, g1, g2, r2⟩ := (p_part (Ls := Ls) (xs := xs) (d := d) h hk hs).1 k1
  have kn := k_nots (Ls := Ls) (xs := xs) (d := d + 3) (I := I2) (W := (stl 6 W (C ++ [(tk T n key i).2])).1) h (g1.tn).1 g1.2.2.2.1.2.1 g1.2.2.2.1.2.2
  refine ⟨I2, g1, g2, ?_⟩
  show rn Ls xs (d + 4) _ 28 _ _ _ = rn Ls xs (d + 4) _ 28 _ _ _
  rw [e_M_takesE_28, stl_c11]
  by_cases c0 : tC T n i = 0
  · exact absurd k1 (tk_0 c0)
  · have n3 : ¬ I 93 12 = 3 := by
      have := tkn_le (T := T) (n := n) (i := i)
      rw [m3, show (3 : Int32) = nI 3 from rfl, nI_eq' (by omega) (by decide)]
      exact fun q => c0 (tkn_3.mp q)
    simp only [e_M_takesE_29, e_M_takesE_32, e_M_takesE_33, e_M_takesE_36, e_M_takesE_39, e_M_takesE_40, e_M_takesE_43, e_M_takesE_44, e_M_takesE_47, e_M_takesE_48, e_M_takesE_97, e_M_takesE_98, e_M_takesE_101, e_M_takesE_102, e_M_takesE_158, e_M_takesE_159, e_M_takesE_162, e_M_takesE_165, e_M_takesE_166, e_M_takesE_167, e_M_takesE_170, e_M_takesE_171, e_M_takesE_172, e_M_takesE_173, e_M_takesE_176, e_M_takesE_177, t1, is_93 h, and_self, and_true, true_and, and_false, false_and, or_true, true_or, or_false, false_or, not_true_eq_false, not_false_eq_true, if_true, if_false, ne_eq, ite_self, reduceCtorEq, i10, Decidable.not_not, Bool.and_self, Bool.and_true, Bool.true_and, n3, r2, rb_i, kn]
/-- what can't stand there -/
theorem w_bad (h : WF S R) (hk : key < 3) (hs : PS I T n key i W C ts) (k1 : (tk T n key i).1 ≠ 1) (k2 : ¬ ((tk T n key i).1 = 2 ∧ cnt (-10) W < 8)) (k3 : ¬ ((tk T n key i).1 = 3 ∧ cnt (-11) W < 8)) : HD Ls xs d S R I 1 W l4 = some (some (.inl 0), (S, I, R)) := by
  have tl := hs.tn
  have cl := cnt_le (-11) W
  have cl2 := cnt_le (-10) W
  obtain ⟨⟨t1', ⟨m1, m2, m3, m4, m5⟩, t3⟩, h15, h20, ⟨⟨h19, h104⟩, h22, h105⟩, h106, -⟩ := id hs
  have r2 := (p_part (Ls := Ls) (xs := xs) (d := d) h hk hs).2 k1
  show rn Ls xs (d + 4) _ 28 _ _ _ = _
  rw [e_M_takesE_28]
  by_cases c0 : tC T n i = 0
  · have e12 : I 93 12 = 3 := by rw [m3, tkn_3.mpr c0]; rfl
    have e13 := m4 (Or.inl c0)
    rw [tk_s c0] at k2 k3
    by_cases q1 : T (tA T n i) = 33
    · have ge : (8 : Int32) ≤ nI (cnt (-10) W) := nI_le (a := 8) (Nat.le_of_not_lt (fun z => k2 ⟨(tkb_2 _).mpr q1, z⟩)) (by omega)
      rw [q1] at e13
      simp only [e_M_takesE_29, e_M_takesE_32, e_M_takesE_33, e_M_takesE_36, e_M_takesE_39, e_M_takesE_40, e_M_takesE_43, e_M_takesE_44, e_M_takesE_47, e_M_takesE_48, e_M_takesE_51, e_M_takesE_52, e_M_takesE_55, e_M_takesE_57, e_M_takesE_60, e_M_takesE_61, e_M_takesE_63, e_M_takesE_97, e_M_takesE_98, e_M_takesE_101, e_M_takesE_102, e_M_takesE_105, e_M_takesE_106, e_M_takesE_109, e_M_takesE_111, e_M_takesE_158, e_M_takesE_159, e_M_takesE_162, e_M_takesE_165, e_M_takesE_166, e_M_takesE_167, e_M_takesE_170, e_M_takesE_171, t1, is_93 h, and_self, and_true, true_and, and_false, false_and, or_true, true_or, or_false, false_or, not_true_eq_false, not_false_eq_true, if_true, if_false, ne_eq, ite_self, reduceCtorEq, i10, Decidable.not_not, Bool.and_self, Bool.and_true, Bool.true_and, e12, e13, ge, show ¬ (33 : Int32) = 40 by decide, r2, rb_i, bo_0]
    · by_cases q2 : T (tA T n i) = 40
      · have ge : (8 : Int32) ≤ nI (cnt (-11) W) := nI_le (a := 8) (Nat.le_of_not_lt (fun z => k3 ⟨(tkb_3 _).mpr q2, z⟩)) (by omega)
        rw [q2] at e13
        simp only [e_M_takesE_29, e_M_takesE_32, e_M_takesE_33, e_M_takesE_36, e_M_takesE_39, e_M_takesE_40, e_M_takesE_43, e_M_takesE_44, e_M_takesE_47, e_M_takesE_48, e_M_takesE_51, e_M_takesE_52, e_M_takesE_55, e_M_takesE_57, e_M_takesE_60, e_M_takesE_61, e_M_takesE_63, e_M_takesE_97, e_M_takesE_98, e_M_takesE_101, e_M_takesE_102, e_M_takesE_105, e_M_takesE_106, e_M_takesE_109, e_M_takesE_111, e_M_takesE_114, e_M_takesE_115, e_M_takesE_117, e_M_takesE_158, e_M_takesE_159, e_M_takesE_162, e_M_takesE_165, e_M_takesE_166, e_M_takesE_167, e_M_takesE_170, e_M_takesE_171, t1, is_93 h, and_self, and_true, true_and, and_false, false_and, or_true, true_or, or_false, false_or, not_true_eq_false, not_false_eq_true, if_true, if_false, ne_eq, ite_self, reduceCtorEq, i10, Decidable.not_not, Bool.and_self, Bool.and_true, Bool.true_and, e12, e13, ge, show ¬ (40 : Int32) = 33 by decide, r2, rb_i, bo_0]
      · simp only [e_M_takesE_29, e_M_takesE_32, e_M_takesE_33, e_M_takesE_36, e_M_takesE_39, e_M_takesE_40, e_M_takesE_43, e_M_takesE_44, e_M_takesE_47, e_M_takesE_48, e_M_takesE_51, e_M_takesE_52, e_M_takesE_55, e_M_takesE_57, e_M_takesE_60, e_M_takesE_61, e_M_takesE_63, e_M_takesE_97, e_M_takesE_98, e_M_takesE_101, e_M_takesE_102, e_M_takesE_105, e_M_takesE_106, e_M_takesE_109, e_M_takesE_111, e_M_takesE_114, e_M_takesE_115, e_M_takesE_117, e_M_takesE_158, e_M_takesE_159, e_M_takesE_162, e_M_takesE_165, e_M_takesE_166, e_M_takesE_167, e_M_takesE_170, e_M_takesE_171, t1, is_93 h, and_self, and_true, true_and, and_false, false_and, or_true, true_or, or_false, false_or, not_true_eq_false, not_false_eq_true, if_true, if_false, ne_eq, ite_self, reduceCtorEq, i10, Decidable.not_not, Bool.and_self, Bool.and_true, Bool.true_and, e12, e13, q1, q2, r2, rb_i, bo_0]
  · have n3 : ¬ I 93 12 = 3 := by
      have := tkn_le (T := T) (n := n) (i := i)
      rw [m3, show (3 : Int32) = nI 3 from rfl, nI_eq' (by omega) (by decide)]
      exact fun q => c0 (tkn_3.mp q)
    simp only [e_M_takesE_29, e_M_takesE_32, e_M_takesE_33, e_M_takesE_36, e_M_takesE_39, e_M_takesE_40, e_M_takesE_43, e_M_takesE_44, e_M_takesE_47, e_M_takesE_48, e_M_takesE_97, e_M_takesE_98, e_M_takesE_101, e_M_takesE_102, e_M_takesE_158, e_M_takesE_159, e_M_takesE_162, e_M_takesE_165, e_M_takesE_166, e_M_takesE_167, e_M_takesE_170, e_M_takesE_171, t1, is_93 h, and_self, and_true, true_and, and_false, false_and, or_true, true_or, or_false, false_or, not_true_eq_false, not_false_eq_true, if_true, if_false, ne_eq, ite_self, reduceCtorEq, i10, Decidable.not_not, Bool.and_self, Bool.and_true, Bool.true_and, n3, r2, rb_i, bo_0]
end MSP

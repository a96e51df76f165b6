/-! TEXTS: the reference's steps behind a part -/
section MSQ
variable {Ls : Nat} {xs : Nat → Int32} {d : Nat} {S : mS} {I I2 I3 : mI} {R : mR} {x y z : Int32} {H : mH} {T : Nat → Int32} {n i key : Nat} {W W0 C C1 : List Int32} {ts ts2 : Nat → Int32} {l4 : Option mV}
theorem p_pop {w : Int32} (hs : PS I T n key i (w :: W) C ts) : PS (va_up I 93 (upd (I 93) 22 (nI W.length))) T n key i W C ts := by
  obtain ⟨⟨t1, ⟨m1, m2, m3, m4, m5⟩, t3⟩, h15, h20, ⟨⟨h19, h104⟩, h22, h105⟩, h106, hl, h96, hw⟩ := hs
  have hl : C.length + (W.length + 1) + 1 ≤ i := hl
  have k93 : ∀ k, k ≠ 22 → va_up I 93 (upd (I 93) 22 (nI W.length)) 93 k = I 93 k := fun k k1 => by rw [vu_s, up_n k1]
  have ko : ∀ b, b ≠ 93 → va_up I 93 (upd (I 93) 22 (nI W.length)) b = I b := fun b b1 => vu_n b1
  refine ⟨⟨⟨by rw [k93 9 (by decide)]; exact t1.1, t1.2.1, fun k hk => by rw [ko 101 (by decide)]; exact t1.2.2 k hk⟩, ⟨by rw [k93 10 (by decide)]; exact m1, by rw [k93 11 (by decide)]; exact m2, by rw [k93 12 (by decide)]; exact m3, fun q => by rw [k93 13 (by decide)]; exact m4 q, fun q q2 => by rw [k93 13 (by decide)]; exact m5 q q2⟩, fun q => by unfold EP; rw [k93 14 (by decide)]; exact t3 q⟩, by rw [k93 15 (by decide)]; exact h15, by rw [k93 20 (by decide)]; exact h20, ⟨⟨by rw [k93 19 (by decide)]; exact h19, fun k hk => by rw [ko 104 (by decide)]; exact h104 k hk⟩, by rw [vu_s, up_s], fun k hk => by rw [ko 105 (by decide), h105 k (by show k < W.length + 1; omega), rv_l hk]⟩, fun k hk => by rw [ko 106 (by decide)]; exact h106 k hk, by omega, h96, fun v hv => hw v (List.mem_cons_of_mem _ hv)⟩
theorem p_tst {p : Nat} {x : Int32} (hs : PS I T n key i W C ts) : PS (va_up I 106 (upd (I 106) p x)) T n key i W C (upd ts p x) := by
  obtain ⟨⟨t1, ⟨m1, m2, m3, m4, m5⟩, t3⟩, h15, h20, ⟨⟨h19, h104⟩, h22, h105⟩, h106, hl, h96, hw⟩ := hs
  have ko : ∀ b, b ≠ 106 → va_up I 106 (upd (I 106) p x) b = I b := fun b b1 => vu_n b1
  have e93 := ko 93 (by decide)
  refine ⟨⟨⟨by rw [e93]; exact t1.1, t1.2.1, fun k hk => by rw [ko 101 (by decide)]; exact t1.2.2 k hk⟩, ⟨by rw [e93]; exact m1, by rw [e93]; exact m2, by rw [e93]; exact m3, fun q => by rw [e93]; exact m4 q, fun q q2 => by rw [e93]; exact m5 q q2⟩, fun q => by unfold EP; rw [e93]; exact t3 q⟩, by rw [e93]; exact h15, by rw [e93]; exact h20, ⟨⟨by rw [e93]; exact h19, fun k hk => by rw [ko 104 (by decide)]; exact h104 k hk⟩, by rw [e93]; exact h22, fun k hk => by rw [ko 105 (by decide)]; exact h105 k hk⟩, fun k hk => ?_, hl, h96, hw⟩
  rw [vu_s]
  by_cases q : k = p
  · rw [q, up_s, up_s]
  · rw [up_n q, up_n q]; exact h106 k hk
theorem n_close (h : WF S R) (hs : PS I T n key i W0 C ts) (k4 : (tk T n key i).1 = 4) (hst : stl 0 W0 C = (-11 :: W, C1)) : ∃ I2, PS I2 T n key (i + 1) (stl 6 W C1).1 (stl 6 W C1).2 ts ∧ MH I I2 ∧ HD Ls xs d S R I 0 W0 l4 = HD Ls xs d S R I2 0 (stl 6 W C1).1 l4 := by
  have c0 : tC T n i = 0 := Classical.byContradiction (fun q => (tk_ns (key := key) q).2.2.1 k4)
  have b41 : T (tA T n i) = 41 := (tkb_4 _).mp (by rw [← tk_s (key := key) c0]; exact k4)
  have tl := hs.tn
  obtain ⟨⟨t1', ⟨m1, m2, m3, m4, m5⟩, t3⟩, h15, h20, ⟨⟨h19, h104⟩, h22, h105⟩, h106, -⟩ := id hs
  have e12 : I 93 12 = 3 := by rw [m3, tkn_3.mpr c0]; rfl
  have e13 : I 93 13 = 41 := by rw [m4 (Or.inl c0), b41]
  have cp : cnt (-11) W0 = cnt (-11) W + 1 := by
    have := stl_c11 0 W0 C
    rw [hst] at this
    rw [← this]
    show (if (-11 : Int32) = -11 then 1 else 0) + _ = _
    rw [if_pos rfl]; omega
  have cl := cnt_le (-11) W0
  obtain ⟨I1, g1, g2, r1⟩ := p_settle (Ls := Ls) (xs := xs) (d := d + 2) h (show 0 ≤ 6 by decide) hs
  rw [hst] at g1
  have s2 := p_pop g1
  have g22 : I1 93 22 = nI (W.length + 1) := g1.2.2.2.1.2.1
  obtain ⟨I3, u1, u2, r3⟩ := p_settle (Ls := Ls) (xs := xs) (d := d + 2) h (show 6 ≤ 6 by decide) s2
  have kn := k_nots (Ls := Ls) (xs := xs) (d := d + 3) (I := I3) (W := (stl 6 W C1).1) h (u1.tn).1 u1.2.2.2.1.2.1 u1.2.2.2.1.2.2
  obtain ⟨I4, v1, v2, r4⟩ := p_go (Ls := Ls) (xs := xs) (d := d + 1) h u1 (by omega)
  have r1 : rn Ls xs (d + 3) 203 0 [some (.inr (.inl (some 93))), some (.inl 0)] [] (S, I, R) = _ := r1
  have r3 : rn Ls xs (d + 3) 203 0 [some (.inr (.inl (some 93))), some (.inl 6)] [] (S, va_up I1 93 (upd (I1 93) 22 (nI W.length)), R) = _ := r3
  refine ⟨I4, v1, ?_, ?_⟩
  · have f1 : MH I1 (va_up I1 93 (upd (I1 93) 22 (nI W.length))) := ⟨fun b b1 _ _ _ => vu_n b1, fun k hk => by rw [vu_s, up_n (by omega)]⟩
    exact ((g2.mh.trans' f1).trans' u2.mh).trans' v2.mh
  · show rn Ls xs (d + 4) _ 28 _ _ _ = rn Ls xs (d + 4) _ 28 _ _ _
    have em : nI (cnt (-11) W + 1) + (-1) = nI (cnt (-11) W) := pk_m1 _
    rw [e_M_takesE_28, cp, stl_c11]
    simp only [e_M_takesE_29, e_M_takesE_32, e_M_takesE_33, e_M_takesE_36, e_M_takesE_39, e_M_takesE_40, e_M_takesE_180, e_M_takesE_181, e_M_takesE_184, e_M_takesE_185, e_M_takesE_188, e_M_takesE_189, e_M_takesE_192, e_M_takesE_194, e_M_takesE_197, e_M_takesE_198, e_M_takesE_201, e_M_takesE_202, e_M_takesE_203, e_M_takesE_206, e_M_takesE_207, e_M_takesE_208, e_M_takesE_211, e_M_takesE_212, e_M_takesE_213, e_M_takesE_216, e_M_takesE_219, e_M_takesE_220, e_M_takesE_222, e_M_takesE_225, e_M_takesE_226, e_M_takesE_229, e_M_takesE_230, e_M_takesE_231, e_M_takesE_234, is_93 h, and_self, and_true, true_and, and_false, false_and, or_true, true_or, or_false, false_or, not_true_eq_false, not_false_eq_true, if_true, if_false, ne_eq, ite_self, reduceCtorEq, i10, Decidable.not_not, Bool.and_self, Bool.and_true, Bool.true_and, e12, e13, show ¬ (3 : Int32) = 0 by decide, nI_nle (show 0 < cnt (-11) W + 1 by omega) (show cnt (-11) W + 1 < 2 ^ 31 by omega), r1, rb_v, g22, nI_pred, em, r3, kn, rb_i, r4]
/-- what a sign leaves of the tests -/
def tsS (s t : Int32) : Int32 := if rk s = 3 then 1 else if 3 < rk s ∧ t ≠ 0 then 1 else 0
theorem n_bin (h : WF S R) (hs : PS I T n key i W0 C ts) (k5 : (tk T n key i).1 = 5) (hp : cnt (-11) W0 ≤ 8) (ht : rk (tk T n key i).2 = 3 → ts (cnt (-11) W0) = 0) (h10 : cnt (-10) (stl (rk (tk T n key i).2) W0 C).1 = cnt (-10) W0) : ∃ I2, PS I2 T n key (i + 1) ((tk T n key i).2 :: (stl (rk (tk T n key i).2) W0 C).1) (stl (rk (tk T n key i).2) W0 C).2 (upd ts (cnt (-11) W0) (tsS (tk T n key i).2 (ts (cnt (-11) W0)))) ∧ MH I I2 ∧ HD Ls xs d S R I 0 W0 l4 = HD Ls xs d S R I2 1 ((tk T n key i).2 :: (stl (rk (tk T n key i).2) W0 C).1) (some (.inl (tk T n key i).2)) := by
  have c0 : tC T n i = 0 := Classical.byContradiction (fun q => (tk_ns (key := key) q).2.2.2 k5)
  have sn := sgT_5.mp k5
  have sv := sgT_v k5
  rw [sv] at ht h10 ⊢
  have isb : isB (sgT T n i) := by
    unfold sgT at sn ⊢
    rw [if_pos c0] at sn ⊢
    exact (lv_rk _ sn).2.1
  have n41 : ¬ T (tA T n i) = 41 := by
    intro q
    rw [tk_s c0] at k5
    have := (tkb_4 _).mpr q
    omega
  have rl := rk_sg isb
  have tl := hs.tn
  have cl := cnt_le (-11) W0
  obtain ⟨⟨t1', ⟨m1, m2, m3, m4, m5⟩, t3⟩, h15, h20, ⟨⟨h19, h104⟩, h22, h105⟩, h106, -⟩ := id hs
  have e12 : I 93 12 = 3 := by rw [m3, tkn_3.mpr c0]; rfl
  have e13 := m4 (Or.inl c0)
  have ks := k_signHere (Ls := Ls) (xs := xs) (d := d + 3) (R := R) h hs.1.2.1
  have kr : ∀ {H : mH}, rn Ls xs (d + 3) 205 0 [some (.inl (sgT T n i))] [] H = some (some (.inl (nI (rk (sgT T n i)))), H) := fun {H} => k_rank
  have e106 := h106 (cnt (-11) W0) (by omega)
  obtain ⟨J, hJ⟩ : ∃ J : mI, J = va_up I 106 (upd (I 106) (cnt (-11) W0) (tsS (sgT T n i) (ts (cnt (-11) W0)))) := ⟨_, rfl⟩
  have sJ : PS J T n key i W0 C (upd ts (cnt (-11) W0) (tsS (sgT T n i) (ts (cnt (-11) W0)))) := by rw [hJ]; exact p_tst hs
  obtain ⟨I1, g1, g2, r1⟩ := p_settle (Ls := Ls) (xs := xs) (d := d + 2) h rl.2 sJ
  obtain ⟨I2, u1, u2, r2⟩ := p_push (Ls := Ls) (xs := xs) (d := d + 1) (ts2 := upd ts (cnt (-11) W0) (tsS (sgT T n i) (ts (cnt (-11) W0)))) h g1 (by omega) isb.1 (f := I1 106) g1.2.2.2.2.1
  have g22 := g1.2.2.2.1.2.1
  have gl := (g1.tn).1
  have eid : va_up (va_up (va_up I1 105 (upd (I1 105) (stl (rk (sgT T n i)) W0 C).1.length (sgT T n i))) 93 (upd (I1 93) 22 (nI ((stl (rk (sgT T n i)) W0 C).1.length + 1)))) 106 (I1 106) = va_up (va_up I1 105 (upd (I1 105) (stl (rk (sgT T n i)) W0 C).1.length (sgT T n i))) 93 (upd (I1 93) 22 (nI ((stl (rk (sgT T n i)) W0 C).1.length + 1))) := vu_id' (by rw [vu_n (by decide), vu_n (by decide)])
  rw [eid] at r2
  have st : rn Ls xs (d + 4) 159 28 [some (.inr (.inl (some 93))), some (.inl (nI (cnt (-11) W0))), some (.inl (nI (cnt (-10) W0))), some (.inl 0), l4] [] (S, I, R) = rn Ls xs (d + 4) 159 268 [some (.inr (.inl (some 93))), some (.inl (nI (cnt (-11) W0))), some (.inl (nI (cnt (-10) W0))), some (.inl 0), some (.inl (sgT T n i))] [] (S, I, R) := by
    rw [e_M_takesE_28]
    by_cases q3 : rk (sgT T n i) = 3
    · have e0 := ht q3
      rw [e0] at e106
      simp only [e_M_takesE_29, e_M_takesE_32, e_M_takesE_33, e_M_takesE_36, e_M_takesE_39, e_M_takesE_40, e_M_takesE_180, e_M_takesE_181, e_M_takesE_184, e_M_takesE_185, e_M_takesE_188, e_M_takesE_189, e_M_takesE_192, e_M_takesE_194, e_M_takesE_197, e_M_takesE_198, e_M_takesE_201, e_M_takesE_202, e_M_takesE_203, e_M_takesE_206, e_M_takesE_207, e_M_takesE_208, e_M_takesE_211, e_M_takesE_212, e_M_takesE_213, e_M_takesE_216, e_M_takesE_219, e_M_takesE_220, e_M_takesE_222, e_M_takesE_225, e_M_takesE_226, e_M_takesE_229, e_M_takesE_230, e_M_takesE_231, e_M_takesE_234, e_M_takesE_237, e_M_takesE_238, e_M_takesE_241, e_M_takesE_243, e_M_takesE_245, e_M_takesE_248, e_M_takesE_250, e_M_takesE_253, e_M_takesE_254, e_M_takesE_257, e_M_takesE_258, e_M_takesE_261, e_M_takesE_262, e_M_takesE_263, is_93 h, and_self, and_true, true_and, and_false, false_and, or_true, true_or, or_false, false_or, not_true_eq_false, not_false_eq_true, if_true, if_false, ne_eq, ite_self, reduceCtorEq, i10, Decidable.not_not, Bool.and_self, Bool.and_true, Bool.true_and, e12, e13, n41, show ¬ (3 : Int32) = 0 by decide, ks, rb_i, sn, kr, q3, show nI 3 = 3 from rfl, rf_93_23 h, ia_106 h (show cnt (-11) W0 < 10 by omega), nI_clamp (show cnt (-11) W0 < 2 ^ 31 by omega), e106]
    · have n3 : ¬ nI (rk (sgT T n i)) = 3 := by rw [show (3 : Int32) = nI 3 from rfl, nI_eq' (by omega) (by decide)]; exact q3
      simp only [e_M_takesE_29, e_M_takesE_32, e_M_takesE_33, e_M_takesE_36, e_M_takesE_39, e_M_takesE_40, e_M_takesE_180, e_M_takesE_181, e_M_takesE_184, e_M_takesE_185, e_M_takesE_188, e_M_takesE_189, e_M_takesE_192, e_M_takesE_194, e_M_takesE_197, e_M_takesE_198, e_M_takesE_201, e_M_takesE_202, e_M_takesE_203, e_M_takesE_206, e_M_takesE_207, e_M_takesE_208, e_M_takesE_211, e_M_takesE_212, e_M_takesE_213, e_M_takesE_216, e_M_takesE_219, e_M_takesE_220, e_M_takesE_222, e_M_takesE_225, e_M_takesE_226, e_M_takesE_229, e_M_takesE_230, e_M_takesE_231, e_M_takesE_234, e_M_takesE_237, e_M_takesE_238, e_M_takesE_241, e_M_takesE_243, e_M_takesE_245, e_M_takesE_248, e_M_takesE_250, e_M_takesE_253, e_M_takesE_254, is_93 h, and_self, and_true, true_and, and_false, false_and, or_true, true_or, or_false, false_or, not_true_eq_false, not_false_eq_true, if_true, if_false, ne_eq, ite_self, reduceCtorEq, i10, Decidable.not_not, Bool.and_self, Bool.and_true, Bool.true_and, e12, e13, n41, show ¬ (3 : Int32) = 0 by decide, ks, rb_i, sn, kr, n3]
  have st2 : rn Ls xs (d + 4) 159 268 [some (.inr (.inl (some 93))), some (.inl (nI (cnt (-11) W0))), some (.inl (nI (cnt (-10) W0))), some (.inl 0), some (.inl (sgT T n i))] [] (S, I, R) = rn Ls xs (d + 4) 159 306 [some (.inr (.inl (some 93))), some (.inl (nI (cnt (-11) W0))), some (.inl (nI (cnt (-10) W0))), some (.inl 0), some (.inl (sgT T n i))] [] (S, J, R) := by
    rw [hJ]
    unfold tsS
    by_cases q3 : rk (sgT T n i) = 3
    · rw [if_pos q3]
      simp only [e_M_takesE_268, e_M_takesE_269, e_M_takesE_272, e_M_takesE_273, e_M_takesE_275, e_M_takesE_278, e_M_takesE_279, e_M_takesE_282, e_M_takesE_284, e_M_takesE_287, e_M_takesE_288, e_M_takesE_291, e_M_takesE_292, e_M_takesE_295, e_M_takesE_296, e_M_takesE_297, e_M_takesE_300, e_M_takesE_301, e_M_takesE_304, e_M_takesE_305, is_93 h, and_self, and_true, true_and, and_false, false_and, or_true, true_or, or_false, false_or, not_true_eq_false, not_false_eq_true, if_true, if_false, ne_eq, ite_self, reduceCtorEq, i10, Decidable.not_not, Bool.and_self, Bool.and_true, Bool.true_and, kr, rb_i, q3, show nI 3 = 3 from rfl, rf_93_23 h, ia_106 h (show cnt (-11) W0 < 10 by omega), nI_clamp (show cnt (-11) W0 < 2 ^ 31 by omega), show vp_nar .boolean 1 = 1 from rfl]
    · have n3 : ¬ nI (rk (sgT T n i)) = 3 := by rw [show (3 : Int32) = nI 3 from rfl, nI_eq' (by omega) (by decide)]; exact q3
      rw [if_neg q3]
      by_cases q4 : 3 < rk (sgT T n i)
      · have nle : ¬ nI (rk (sgT T n i)) ≤ 3 := by rw [show (3 : Int32) = nI 3 from rfl, nI_le' (by omega) (by decide)]; omega
        by_cases q5 : ts (cnt (-11) W0) = 0
        · rw [if_neg (fun z => z.2 q5)]
          rw [q5] at e106
          simp only [e_M_takesE_268, e_M_takesE_269, e_M_takesE_272, e_M_takesE_273, e_M_takesE_275, e_M_takesE_278, e_M_takesE_279, e_M_takesE_282, e_M_takesE_284, e_M_takesE_287, e_M_takesE_288, e_M_takesE_291, e_M_takesE_292, e_M_takesE_295, e_M_takesE_296, e_M_takesE_297, e_M_takesE_300, e_M_takesE_301, e_M_takesE_304, e_M_takesE_305, is_93 h, and_self, and_true, true_and, and_false, false_and, or_true, true_or, or_false, false_or, not_true_eq_false, not_false_eq_true, if_true, if_false, ne_eq, ite_self, reduceCtorEq, i10, Decidable.not_not, Bool.and_self, Bool.and_true, Bool.true_and, kr, rb_i, n3, nle, rf_93_23 h, ia_106 h (show cnt (-11) W0 < 10 by omega), nI_clamp (show cnt (-11) W0 < 2 ^ 31 by omega), e106, show vp_nar .boolean 0 = 0 from rfl]
        · rw [if_pos ⟨q4, q5⟩]
          simp only [e_M_takesE_268, e_M_takesE_269, e_M_takesE_272, e_M_takesE_273, e_M_takesE_275, e_M_takesE_278, e_M_takesE_279, e_M_takesE_282, e_M_takesE_284, e_M_takesE_287, e_M_takesE_288, e_M_takesE_291, e_M_takesE_292, e_M_takesE_295, e_M_takesE_296, e_M_takesE_297, e_M_takesE_300, e_M_takesE_301, e_M_takesE_304, e_M_takesE_305, is_93 h, and_self, and_true, true_and, and_false, false_and, or_true, true_or, or_false, false_or, not_true_eq_false, not_false_eq_true, if_true, if_false, ne_eq, ite_self, reduceCtorEq, i10, Decidable.not_not, Bool.and_self, Bool.and_true, Bool.true_and, kr, rb_i, n3, nle, rf_93_23 h, ia_106 h (show cnt (-11) W0 < 10 by omega), nI_clamp (show cnt (-11) W0 < 2 ^ 31 by omega), e106, q5, show vp_nar .boolean 1 = 1 from rfl]
      · have le : nI (rk (sgT T n i)) ≤ 3 := nI_le (b := 3) (by omega) (by decide)
        rw [if_neg (fun z => q4 z.1)]
        simp only [e_M_takesE_268, e_M_takesE_269, e_M_takesE_272, e_M_takesE_273, e_M_takesE_275, e_M_takesE_278, e_M_takesE_279, e_M_takesE_282, e_M_takesE_284, e_M_takesE_287, e_M_takesE_288, e_M_takesE_291, e_M_takesE_292, e_M_takesE_295, e_M_takesE_296, e_M_takesE_297, e_M_takesE_300, e_M_takesE_301, e_M_takesE_304, e_M_takesE_305, is_93 h, and_self, and_true, true_and, and_false, false_and, or_true, true_or, or_false, false_or, not_true_eq_false, not_false_eq_true, if_true, if_false, ne_eq, ite_self, reduceCtorEq, i10, Decidable.not_not, Bool.and_self, Bool.and_true, Bool.true_and, kr, rb_i, n3, le, rf_93_23 h, ia_106 h (show cnt (-11) W0 < 10 by omega), nI_clamp (show cnt (-11) W0 < 2 ^ 31 by omega), show vp_nar .boolean 0 = 0 from rfl]
  have c11 : cnt (-11) (sgT T n i :: (stl (rk (sgT T n i)) W0 C).1) = cnt (-11) W0 := by
    show (if sgT T n i = -11 then 1 else 0) + cnt (-11) (stl (rk (sgT T n i)) W0 C).1 = _
    rw [if_neg isb.2.2, stl_c11]; omega
  have c10 : cnt (-10) (sgT T n i :: (stl (rk (sgT T n i)) W0 C).1) = cnt (-10) W0 := by
    show (if sgT T n i = -10 then 1 else 0) + cnt (-10) (stl (rk (sgT T n i)) W0 C).1 = _
    rw [if_neg isb.2.1, h10]; omega
  refine ⟨I2, u1, ?_, ?_⟩
  · have f1 : MH I J := ⟨fun b _ _ _ b4 => by rw [hJ, vu_n b4], fun k hk => by rw [hJ, vu_n (by decide)]⟩
    exact (f1.trans' g2.mh).trans' u2
  · show rn Ls xs (d + 4) _ 28 _ _ _ = rn Ls xs (d + 4) _ 28 _ _ _
    rw [st, st2, c11, c10]
    simp only [e_M_takesE_306, e_M_takesE_307, e_M_takesE_309, e_M_takesE_312, e_M_takesE_315, e_M_takesE_316, e_M_takesE_319, e_M_takesE_320, e_M_takesE_323, e_M_takesE_325, e_M_takesE_326, e_M_takesE_327, e_M_takesE_328, e_M_takesE_331, e_M_takesE_332, e_M_takesE_333, e_M_takesE_336, e_M_takesE_337, e_M_takesE_338, e_M_takesE_339, e_M_takesE_342, is_93 h, and_self, and_true, true_and, and_false, false_and, or_true, true_or, or_false, false_or, not_true_eq_false, not_false_eq_true, if_true, if_false, ne_eq, ite_self, reduceCtorEq, i10, Decidable.not_not, Bool.and_self, Bool.and_true, Bool.true_and, kr, rb_i, r1, rb_v, rf_93_21 h, g22, ia_105 h (show (stl (rk (sgT T n i)) W0 C).1.length < 96 by omega), nI_clamp (show (stl (rk (sgT T n i)) W0 C).1.length < 2 ^ 31 by omega), vu_n (show 93 ≠ 105 by decide), nI_1, r2]
theorem n_bad (h : WF S R) (hs : PS I T n key i W0 C ts) (c3 : tC T n i ≠ 3) (k4 : ¬ ((tk T n key i).1 = 4 ∧ 0 < cnt (-11) W0)) (hp : cnt (-11) W0 ≤ 8) (k5 : (tk T n key i).1 = 5 → rk (tk T n key i).2 = 3 ∧ ts (cnt (-11) W0) ≠ 0) : HD Ls xs d S R I 0 W0 l4 = some (some (.inl 0), (S, I, R)) := by
  have tl := hs.tn
  have cl := cnt_le (-11) W0
  obtain ⟨⟨t1', ⟨m1, m2, m3, m4, m5⟩, t3⟩, h15, h20, ⟨⟨h19, h104⟩, h22, h105⟩, h106, -⟩ := id hs
  have tn := tkn_le (T := T) (n := n) (i := i)
  have n0 : ¬ I 93 12 = 0 := by rw [m3, show (0 : Int32) = nI 0 from rfl, nI_eq' (by omega) (by decide)]; exact fun q => c3 (tkn_0.mp q)
  have ks := k_signHere (Ls := Ls) (xs := xs) (d := d + 3) (R := R) h hs.1.2.1
  have kr : ∀ {H : mH}, rn Ls xs (d + 3) 205 0 [some (.inl (sgT T n i))] [] H = some (some (.inl (nI (rk (sgT T n i)))), H) := fun {H} => k_rank
  have e106 := h106 (cnt (-11) W0) (by omega)
  have fin : rn Ls xs (d + 4) 159 237 [some (.inr (.inl (some 93))), some (.inl (nI (cnt (-11) W0))), some (.inl (nI (cnt (-10) W0))), some (.inl 0), l4] [] (S, I, R) = some (some (.inl 0), (S, I, R)) := by
    by_cases q : sgT T n i = 0
    · rw [q] at ks
      simp only [e_M_takesE_237, e_M_takesE_238, e_M_takesE_241, e_M_takesE_243, e_M_takesE_245, e_M_takesE_248, e_M_takesE_250, e_M_takesE_253, e_M_takesE_254, e_M_takesE_257, e_M_takesE_258, e_M_takesE_261, e_M_takesE_262, e_M_takesE_263, e_M_takesE_266, e_M_takesE_267, is_93 h, and_self, and_true, true_and, and_false, false_and, or_true, true_or, or_false, false_or, not_true_eq_false, not_false_eq_true, if_true, if_false, ne_eq, ite_self, reduceCtorEq, i10, Decidable.not_not, Bool.and_self, Bool.and_true, Bool.true_and, ks, rb_i, bo_0]
    · have k5' := k5 (sgT_5.mpr q)
      rw [sgT_v (sgT_5.mpr q)] at k5'
      simp only [e_M_takesE_237, e_M_takesE_238, e_M_takesE_241, e_M_takesE_243, e_M_takesE_245, e_M_takesE_248, e_M_takesE_250, e_M_takesE_253, e_M_takesE_254, e_M_takesE_257, e_M_takesE_258, e_M_takesE_261, e_M_takesE_262, e_M_takesE_263, e_M_takesE_266, e_M_takesE_267, is_93 h, and_self, and_true, true_and, and_false, false_and, or_true, true_or, or_false, false_or, not_true_eq_false, not_false_eq_true, if_true, if_false, ne_eq, ite_self, reduceCtorEq, i10, Decidable.not_not, Bool.and_self, Bool.and_true, Bool.true_and, ks, rb_i, q, kr, k5'.1, show nI 3 = 3 from rfl, rf_93_23 h, ia_106 h (show cnt (-11) W0 < 10 by omega), nI_clamp (show cnt (-11) W0 < 2 ^ 31 by omega), e106, k5'.2, bo_0]
  show rn Ls xs (d + 4) _ 28 _ _ _ = _
  rw [e_M_takesE_28, ← fin]
  by_cases c0 : tC T n i = 0
  · have e12 : I 93 12 = 3 := by rw [m3, tkn_3.mpr c0]; rfl
    have e13 := m4 (Or.inl c0)
    by_cases q1 : T (tA T n i) = 41
    · have z : cnt (-11) W0 = 0 := by
        have := k4
        rw [tk_s c0] at this
        have y := (tkb_4 _).mpr q1
        omega
      rw [q1] at e13
      simp only [e_M_takesE_29, e_M_takesE_32, e_M_takesE_33, e_M_takesE_36, e_M_takesE_39, e_M_takesE_40, e_M_takesE_180, e_M_takesE_181, e_M_takesE_184, e_M_takesE_185, e_M_takesE_188, e_M_takesE_189, e_M_takesE_192, e_M_takesE_194, e_M_takesE_197, e_M_takesE_198, is_93 h, and_self, and_true, true_and, and_false, false_and, or_true, true_or, or_false, false_or, not_true_eq_false, not_false_eq_true, if_true, if_false, ne_eq, ite_self, reduceCtorEq, i10, Decidable.not_not, Bool.and_self, Bool.and_true, Bool.true_and, e12, e13, show ¬ (3 : Int32) = 0 by decide, z, show nI 0 ≤ 0 from (by decide)]
    · simp only [e_M_takesE_29, e_M_takesE_32, e_M_takesE_33, e_M_takesE_36, e_M_takesE_39, e_M_takesE_40, e_M_takesE_180, e_M_takesE_181, e_M_takesE_184, e_M_takesE_185, e_M_takesE_188, e_M_takesE_189, e_M_takesE_192, e_M_takesE_194, e_M_takesE_197, e_M_takesE_198, is_93 h, and_self, and_true, true_and, and_false, false_and, or_true, true_or, or_false, false_or, not_true_eq_false, not_false_eq_true, if_true, if_false, ne_eq, ite_self, reduceCtorEq, i10, Decidable.not_not, Bool.and_self, Bool.and_true, Bool.true_and, e12, e13, show ¬ (3 : Int32) = 0 by decide, q1]
  · have n3 : ¬ I 93 12 = 3 := by
      rw [m3, show (3 : Int32) = nI 3 from rfl, nI_eq' (by omega) (by decide)]
      exact fun q => c0 (tkn_3.mp q)
    simp only [e_M_takesE_29, e_M_takesE_32, e_M_takesE_33, e_M_takesE_36, e_M_takesE_39, e_M_takesE_40, e_M_takesE_180, e_M_takesE_181, e_M_takesE_184, e_M_takesE_185, e_M_takesE_188, e_M_takesE_189, e_M_takesE_192, e_M_takesE_194, e_M_takesE_197, e_M_takesE_198, is_93 h, and_self, and_true, true_and, and_false, false_and, or_true, true_or, or_false, false_or, not_true_eq_false, not_false_eq_true, if_true, if_false, ne_eq, ite_self, reduceCtorEq, i10, Decidable.not_not, Bool.and_self, Bool.and_true, Bool.true_and, n0, n3]
theorem n_end (h : WF S R) (hs : PS I T n key i W0 C ts) (c3 : tC T n i = 3) : ∃ I2, PS I2 T n key i (stl 0 W0 C).1 (stl 0 W0 C).2 ts ∧ MH I I2 ∧ HD Ls xs d S R I 0 W0 l4 = some (some (.inl (if cnt (-11) W0 = 0 then 1 else 0)), (S, I2, R)) := by
  have tl := hs.tn
  have cl := cnt_le (-11) W0
  obtain ⟨⟨t1', ⟨m1, m2, m3, m4, m5⟩, t3⟩, -⟩ := id hs
  have e12 : I 93 12 = 0 := by rw [m3, tkn_0.mpr c3]; rfl
  obtain ⟨I1, g1, g2, r1⟩ := p_settle (Ls := Ls) (xs := xs) (d := d + 2) h (show 0 ≤ 6 by decide) hs
  have r1 : rn Ls xs (d + 3) 203 0 [some (.inr (.inl (some 93))), some (.inl 0)] [] (S, I, R) = _ := r1
  refine ⟨I1, g1, g2.mh, ?_⟩
  show rn Ls xs (d + 4) _ 28 _ _ _ = _
  rw [e_M_takesE_28]
  by_cases z : cnt (-11) W0 = 0
  · simp only [e_M_takesE_29, e_M_takesE_32, e_M_takesE_33, e_M_takesE_36, e_M_takesE_345, e_M_takesE_346, e_M_takesE_347, e_M_takesE_350, e_M_takesE_351, e_M_takesE_354, e_M_takesE_355, e_M_takesE_358, e_M_takesE_359, is_93 h, and_self, and_true, true_and, and_false, false_and, or_true, true_or, or_false, false_or, not_true_eq_false, not_false_eq_true, if_true, if_false, ne_eq, ite_self, reduceCtorEq, i10, Decidable.not_not, Bool.and_self, Bool.and_true, Bool.true_and, e12, r1, rb_v, z, show nI 0 = 0 from rfl, bo_1]
  · simp only [e_M_takesE_29, e_M_takesE_32, e_M_takesE_33, e_M_takesE_36, e_M_takesE_345, e_M_takesE_346, e_M_takesE_347, e_M_takesE_350, e_M_takesE_351, e_M_takesE_354, e_M_takesE_355, e_M_takesE_358, e_M_takesE_359, is_93 h, and_self, and_true, true_and, and_false, false_and, or_true, true_or, or_false, false_or, not_true_eq_false, not_false_eq_true, if_true, if_false, ne_eq, ite_self, reduceCtorEq, i10, Decidable.not_not, Bool.and_self, Bool.and_true, Bool.true_and, e12, r1, rb_v, z, nI_ne0 (show 0 < cnt (-11) W0 by omega) (show cnt (-11) W0 < 2 ^ 31 by omega), bo_0]
end MSQ

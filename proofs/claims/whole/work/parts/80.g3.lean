/-! TEXTS: the class's text() -/
def COp2 (S : mS) (I : mI) (R : mR) (s : Int32 × mI) (X : Option (Option mV × mH)) : Prop := ∃ S2 I2 R2, CR S2 I2 R2 s.2 ∧ WF S2 R2 ∧ (Gr S S2 ∧ S2.2.1 ≤ S.2.1 + 2 ∧ S2.2.2 ≤ S.2.2 + 98) ∧ (∀ b, 93 ≤ b → b ≤ 117 → I2 b = I b) ∧ X = some (some (.inl s.1), (S2, I2, R2))
section CTX
variable {Ls : Nat} {xs : Nat → Int32} {e : Nat} {S S2 : mS} {I I2 J A : mI} {R R2 : mR} {X : Option (Option mV × mH)} {s : Int32 × mI}
theorem Gr.rfl' : Gr S S := ⟨Nat.le_refl _, fun _ _ => rfl⟩
theorem COp.two (h : COp S I R s X) : COp2 S I R s X := by
  obtain ⟨I2, R2, h1, h2, h3, h4⟩ := h
  exact ⟨S, I2, R2, h1, h2, ⟨Gr.rfl', by omega, by omega⟩, fun b hb _ => h3 b hb, h4⟩
theorem CR.tx0 (hG : Gr S S2) (h118 : 118 ≤ S.2.1) (hc : CR S I R A) (hI : ∀ b, b < S.2.1 → b ≠ 58 → b ≠ 60 → b ≠ 61 → J b = I b) (hR : ∀ b, b < S.2.1 → b ≠ 60 → R2 b = R b) (h58 : J 58 1 = 0) : CR S2 J R2 (va_up A 93 (upd (A 93) 9 0)) := by
  obtain ⟨⟨h1, h1'⟩, ⟨h2, h2', h2''⟩, h3, h4, h5, h6⟩ := hc
  have e0 : J 0 = I 0 := hI 0 (by omega) (by decide) (by decide) (by decide)
  refine ⟨⟨by rw [vu_n (by decide)]; exact hG.sk h118 h1 q1 h1'.c hI hR, by rw [vu_n (by decide)]; exact h1'⟩, ⟨by rw [vu_s, up_n (by decide), e0]; exact h2, by rw [vu_s, up_n (by decide)]; exact h2', fun q => ?_⟩, h3.cg (by rw [e0]) (hI 64 (by omega) (by decide) (by decide) (by decide)) (by rw [vu_s, up_n (by decide)]) (by rw [vu_n (by decide)]), ⟨by rw [h58, vu_s, up_s], ⟨0, by omega, by rw [vu_s, up_s]; rfl⟩, fun k hk => ?_⟩, shR.cg h5 (fun b b1 b2 => hI b (by omega) (by omega) (by omega) (by omega)) (by rw [vu_n (by decide)]) (by rw [vu_n (by decide)]) (by rw [vu_n (by decide)]), slR.cg h6 (fun b b1 b2 => hI b (by omega) (by omega) (by omega) (by omega)) (by rw [vu_n (by decide)]) (by rw [vu_n (by decide)]) (by rw [vu_n (by decide)]) (by rw [vu_n (by decide)])⟩
  · rw [vu_s, up_n (by decide)] at q
    rw [vu_n (by decide)]
    exact ⟨hG.sk h118 (h2'' q).1 q19 (h2'' q).2.c hI hR, (h2'' q).2⟩
  · rw [vu_s, up_s] at hk
    exact absurd hk (Nat.not_lt_zero _)
theorem cw_text (h : WF S R) (he : 154 ≤ e) (hc : CR S I R A) : COp2 S I R (sp_text A) (rn Ls xs e 53 0 [some (.inr (.inl (some 0))), none] [] (S, I, R)) := by
  obtain ⟨d, rfl⟩ : ∃ d, e = d + 154 := ⟨e - 154, by omega⟩
  have h118 := h.1
  obtain ⟨t1', ⟨n, hn, e9⟩, tT⟩ := hc.2.2.2.1
  have cn : cW (A 93 9) = n := by rw [e9, cW, nI_clamp (by omega)]
  have hT : TPR I (A 101) n := ⟨by rw [t1', e9], hn, fun k hk => (tT k (by omega)).1⟩
  obtain ⟨m, hm, e7, c7, -⟩ := hc.tx
  obtain ⟨y1, y2⟩ := k_readTape (Ls := Ls) (xs := xs) (e := d + 153) h (by omega) hT
  unfold sp_text
  rw [cn]
  cases hx : rtx (A 101) n with
  | inl p =>
    obtain ⟨I2, R2, g1, g2, g3, r⟩ := y1 p hx
    have w2 := g3.wf h
    have hI : ∀ b, b < S.2.1 → b ≠ 58 → b ≠ 60 → b ≠ 61 → va_up I2 58 (upd (I2 58) 1 0) b = I b := fun b _ b1 b2 b3 => by rw [vu_n b1]; exact g2 b b2 b3
    refine ⟨S, va_up I2 58 (upd (I2 58) 1 0), R2, CR.tx0 Gr.rfl' h118 hc hI (fun b _ b2 => funext fun k => g3 b k (Or.inl b2)) (by rw [vu_s, up_s]), w2, ⟨Gr.rfl', by omega, by omega⟩, fun b b1 b2 => hI b (by omega) (by omega) (by omega) (by omega), ?_⟩
    simp only [e_W_text_0, e_W_text_1, e_W_text_4, e_W_text_7, e_W_text_8, e_W_text_9, e_W_text_12, e_W_text_13, e_W_text_16, e_W_text_17, e_W_text_17n, e_W_text_20, e_W_text_22, e_W_text_23, e_W_text_26, e_W_text_29, e_W_text_30, e_W_text_31, e_W_text_32, e_W_text_35, e_W_text_36, e_W_text_39, e_W_text_42, e_W_text_43, e_W_text_46, e_W_text_49, e_W_text_50, e_W_text_51, e_W_text_54, e_W_text_56, is_0 h, is_60 h, is_58 h, rf_0_4 h, rf_0_4 w2, rf_0_3 w2, and_self, and_true, true_and, and_false, false_and, or_true, true_or, or_false, false_or, not_true_eq_false, not_false_eq_true, if_true, if_false, ne_eq, ite_self, reduceCtorEq, i10, Decidable.not_not, Bool.and_self, Bool.and_true, Bool.true_and, r, rb_r, vu_n (show 60 ≠ 58 by decide), g1]
  | inr v =>
    obtain ⟨k, D⟩ := v
    obtain ⟨S2, I2, R2, ⟨g1, g2, g3⟩, w2, g4, g5, ⟨hD, is2, is3, p0, p1', p2, pc⟩, r⟩ := y2 k D hx
    obtain ⟨kl, gr, -, h10⟩ := rtx_r hn hx
    have hI : ∀ b, b < S.2.1 → b ≠ 58 → b ≠ 60 → b ≠ 61 → va_up I2 58 (upd (I2 58) 1 0) b = I b := fun b b0 b1 b2 b3 => by rw [vu_n b1]; exact g4 b b0 b2 b3
    have c2 := CR.tx0 (J := va_up I2 58 (upd (I2 58) 1 0)) g1 h118 hc hI g5 (by rw [vu_s, up_s])
    have st : rn Ls xs (d + 154) 53 0 [some (.inr (.inl (some 0))), none] [] (S, I, R) = rb Ls xs (d + 154) 53 39 [some (.inr (.inl (some 0))), some (.inr (.inl (some S.2.1)))] [] (rn Ls xs (d + 153) 156 0 [some (.inr (.inl (some 1))), some (.inr (.inl (some S.2.1)))] [] (S2, va_up I2 58 (upd (I2 58) 1 0), R2)) := by
      simp only [e_W_text_0, e_W_text_1, e_W_text_4, e_W_text_7, e_W_text_8, e_W_text_9, e_W_text_12, e_W_text_13, e_W_text_16, e_W_text_17, e_W_text_17n, e_W_text_20, e_W_text_22, e_W_text_23, e_W_text_26, e_W_text_29, e_W_text_30, e_W_text_31, e_W_text_32, e_W_text_35, e_W_text_36, is_0 h, is_60 h, is_0 w2, is_58 w2, is_1 w2, rf_0_4 h, rf_0_3 w2, rf_0_0 w2, and_self, and_true, true_and, and_false, false_and, or_true, true_or, or_false, false_or, not_true_eq_false, not_false_eq_true, if_true, if_false, ne_eq, ite_self, reduceCtorEq, i10, Decidable.not_not, Bool.and_self, Bool.and_true, Bool.true_and, r, rb_r]
    have s2 := c2.s
    rw [vu_n (show 94 ≠ 93 by decide)] at s2
    have f4 := s2.f4
    rw [e7] at f4
    simp only
    by_cases h14 : m = 14
    · rw [if_pos (by rw [e7, h14]; rfl)]
      refine ⟨S2, _, R2, c2, w2, ⟨g1, by omega, by omega⟩, fun b b1 b2 => hI b (by omega) (by omega) (by omega) (by omega), ?_⟩
      rw [st]
      simp only [e_S_addText_0, e_S_addText_1, e_S_addText_4, e_S_addText_6, e_S_addText_9, e_S_addText_10, e_S_addText_11, e_S_addText_12, e_S_addText_15, e_S_addText_16, e_S_addText_19, e_S_addText_20, e_S_addText_21, e_S_addText_22, e_S_addText_23, e_S_addText_26, e_S_addText_27, e_S_addText_28, e_S_addText_31, e_S_addText_32, is_1 w2, and_self, and_true, true_and, and_false, false_and, or_true, true_or, or_false, false_or, not_true_eq_false, not_false_eq_true, if_true, if_false, ne_eq, ite_self, reduceCtorEq, i10, Decidable.not_not, Bool.and_self, Bool.and_true, Bool.true_and, f4, h14, show ¬ nI 14 < 14 by decide, bo_0, rb_i, e_W_text_39, e_W_text_42, e_W_text_43, e_W_text_46, e_W_text_49, e_W_text_50, e_W_text_51, e_W_text_54, e_W_text_56]
    · have n14 : ¬ A 94 7 = 14 := by rw [e7, show (14 : Int32) = nI 14 from rfl, nI_eq' (by omega) (by decide)]; exact h14
      have l14 : nI m < 14 := by rw [show (14 : Int32) = nI 14 from rfl, nI_lt' (by omega) (by decide)]; omega
      rw [if_neg n14, c7, e7]
      have ht : m < 14 := by omega
      obtain ⟨J, hJ⟩ : ∃ J : mI, J = va_up I2 58 (upd (I2 58) 1 0) := ⟨_, rfl⟩
      rw [← hJ] at c2 s2 f4 st hI
      have i2 : h_ia S2 3 5 (nI m) = true := q_ia2 w2 q1 ht
      have r4 : rn Ls xs (d + 153) 156 0 [some (.inr (.inl (some 1))), some (.inr (.inl (some S.2.1)))] [] (S2, J, R2) = some (some (.inl 1), (S2, va_up J 1 (upd (J 1) 4 (nI (m + 1))), va_up R2 3 (va_up (R2 3) m (.inl (some S.2.1))))) := by
        simp only [e_S_addText_0, e_S_addText_1, e_S_addText_4, e_S_addText_6, e_S_addText_9, e_S_addText_10, e_S_addText_11, e_S_addText_12, e_S_addText_15, e_S_addText_16, e_S_addText_19, e_S_addText_20, e_S_addText_21, e_S_addText_22, e_S_addText_23, e_S_addText_26, e_S_addText_27, e_S_addText_28, e_S_addText_31, e_S_addText_32, is_1 w2, and_self, and_true, true_and, and_false, false_and, or_true, true_or, or_false, false_or, not_true_eq_false, not_false_eq_true, if_true, if_false, ne_eq, ite_self, reduceCtorEq, i10, Decidable.not_not, Bool.and_self, Bool.and_true, Bool.true_and, f4, l14, rf_1_1 w2, i2, is2, nI_clamp (show m < 2 ^ 31 by omega), nI_1, bo_1]
      obtain ⟨r1, r2⟩ := hd_m (key := k) (D := D) kl hD
      have R3o : ∀ c, c ≠ 3 → va_up R2 3 (va_up (R2 3) m (.inl (some S.2.1))) c = R2 c := fun c hc => va_up_n _ _ hc
      have w3 : WF S2 (va_up R2 3 (va_up (R2 3) m (.inl (some S.2.1)))) := w2.re q1 R3o
      have Jn : ∀ c, c ≠ 1 → va_up J 1 (upd (J 1) 4 (nI (m + 1))) c = J c := fun c hc => vu_n hc
      have Jp : ∀ c, 118 ≤ c → J c = I2 c := fun c hc => by rw [hJ]; exact vu_n (by omega)
      have s3 : SkR S2 (va_up J 1 (upd (J 1) 4 (nI (m + 1)))) (va_up R2 3 (va_up (R2 3) m (.inl (some S.2.1)))) 1 (adS (A 94) m k D) := by
        refine ⟨?_, fun w j hw hj => ?_, fun t ht2 => ?_⟩
        · rw [vu_s, ad_7, ad_lo (by decide) (by decide), ad_lo (by decide) (by decide), ad_lo (by decide) (by decide), ad_lo (by decide) (by decide), ad_lo (by decide) (by decide), ad_lo (by decide) (by decide), ad_lo (by decide) (by decide)]
          rw [up_n (by decide), up_s, up_n (by decide), up_n (by decide), up_n (by decide), up_n (by decide), up_n (by decide), up_n (by decide)]
          exact ⟨s2.f3, rfl, s2.f5, s2.f6, s2.f7, s2.f8, s2.f9, s2.f10⟩
        · rw [ad_lo (by decide) (by decide)] at hw
          have hw14 := hc.gg.c
          rw [Jn _ (by omega), ad_lo (by omega) (by omega)]
          exact s2.2.1 w j hw hj
        · rw [ad_7, cW, nI_clamp (by omega)] at ht2
          by_cases et : t = m
          · subst et
            refine ⟨S.2.1, S.2.1 + 1, D.length, ?_, h118, ⟨by omega, by omega⟩, is2, ?_, ?_, ?_, is3, ?_, fun j hj => ?_⟩
            · show va_up R2 3 _ 3 t = _
              rw [va_up_s, va_up_s]
            · rw [Jn _ (by omega), Jp _ h118, p0, ad_h ht, r2]
            · rw [Jn _ (by omega), Jp _ h118, p1', ad_n ht]
            · rw [R3o _ (by omega)]; exact p2
            · rw [ad_h ht]; exact r1
            · rw [Jn _ (by omega), Jp _ (by omega), pc j hj, ad_c ht hj]
          · obtain ⟨o1, o2, o3⟩ := ad_o (a := A 94) (key := k) (D := D) (t2 := t) ht (by omega)
            obtain ⟨p, rr, mm, k1, k2, k3, k4, k5, k6, k7, k8, k9, k10⟩ := s2.2.2 t (by omega)
            refine ⟨p, rr, mm, ?_, k2, k3, k4, ?_, ?_, ?_, k8, ?_, fun j hj => ?_⟩
            · show va_up R2 3 _ 3 t = _
              rw [va_up_s, va_up_n _ _ et]
              exact k1
            · rw [Jn _ (by omega), o1]; exact k5
            · rw [Jn _ (by omega), o2]; exact k6
            · rw [R3o _ (by omega)]; exact k7
            · rw [o1]; exact k9
            · rw [Jn _ (by omega), o3 j (by omega)]; exact k10 j hj
      have c3 := c2.now s3 (gh_ad hc.gg e7 ht kl gr hD h10) (fun c hc => Jn c (by omega)) R3o
      refine ⟨S2, _, _, c3, w3, ⟨g1, by omega, by omega⟩, fun b b1 b2 => by rw [Jn b (by omega)]; exact hI b (by omega) (by omega) (by omega) (by omega), ?_⟩
      have en : nI (m + 1) - 1 = nI m := nI_pred m
      rw [st, r4]
      simp only [rb_i, t1, e_W_text_39, e_W_text_42, e_W_text_43, e_W_text_46, e_W_text_49, e_W_text_50, e_W_text_51, e_W_text_54, e_W_text_56, is_0 w2, is_1 w2, rf_0_0 w3, and_self, and_true, true_and, and_false, false_and, or_true, true_or, or_false, false_or, not_true_eq_false, not_false_eq_true, if_true, if_false, ne_eq, ite_self, reduceCtorEq, i10, Decidable.not_not, Bool.and_self, Bool.and_true, Bool.true_and, vu_s, up_s, en]
end CTX

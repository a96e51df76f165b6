/-! TEXTS: a new text of the class -/
/-- the heap has grown -/
def Gr (S S2 : mS) : Prop := S.2.1 ≤ S2.2.1 ∧ ∀ k, k < S.2.1 → S2.1 k = S.1 k
theorem Gr.is {S S2 : mS} (h : Gr S S2) {a ci N : Nat} (hi : h_is S a ci N = true) : h_is S2 a ci N = true := by
  obtain ⟨h1, h2⟩ := h_is_iff.mp hi
  exact h_is_iff.mpr ⟨Nat.lt_of_lt_of_le h1 h.1, by rw [h.2 a h1]; exact h2⟩
theorem Gr.sk {S S2 : mS} {I I2 : mI} {R R2 : mR} {q : Nat} {a : Nat → Int32} (hG : Gr S S2) (h118 : 118 ≤ S.2.1) (hs : SkR S I R q a) (hq : isQ q) (hn : cW (a 1) ≤ 14) (hI : ∀ b, b < S.2.1 → b ≠ 58 → b ≠ 60 → b ≠ 61 → I2 b = I b) (hR : ∀ b, b < S.2.1 → b ≠ 60 → R2 b = R b) : SkR S2 I2 R2 q a := by
  have hql := hq.le
  refine ⟨by rw [hI q (by omega) (by omega) (by omega) (by omega)]; exact hs.1, fun w k hw hk => ?_, fun t ht => ?_⟩
  · rw [hI (q + 4 + w) (by omega) (by rcases hq with rfl | rfl | rfl <;> omega) (by rcases hq with rfl | rfl | rfl <;> omega) (by rcases hq with rfl | rfl | rfl <;> omega)]
    exact hs.2.1 w k hw hk
  · obtain ⟨p, r, m, h1, h2, h3, h4, h5, h6, h7, h8, h9, h10⟩ := hs.2.2 t ht
    have p1 := (h_is_iff.mp h4).1
    have r1 := (h_is_iff.mp h8).1
    rw [hR (q + 2) (by omega) (by omega)]
    exact ⟨p, r, m, h1, h2, h3, hG.is h4, by rw [hI p p1 (by omega) (by omega) (by omega)]; exact h5, by rw [hI p p1 (by omega) (by omega) (by omega)]; exact h6, by rw [hR p p1 (by omega)]; exact h7, hG.is h8, h9, fun j hj => by rw [hI r r1 (by omega) (by omega) (by omega)]; exact h10 j hj⟩
theorem rt_lt : ∀ e ∈ rt_, e.1.1 < 118 := by decide +kernel
section NTX
variable {Ls : Nat} {xs : Nat → Int32} {S : mS} {I I2 I3 : mI} {R R2 : mR} {T : Nat → Int32} {n key e : Nat} {u v : mr}
theorem k_readTape (h : WF S R) (he : 152 ≤ e) (hT : TPR I T n) : (∀ p, rtx T n = .inl p → ∃ I2 R2, I2 60 9 = nI p ∧ Fr6 I I2 ∧ FR R R2 ∧ rn Ls xs e 155 0 [some (.inr (.inl (some 60))), none] [] (S, I, R) = some (some (.inr (.inl none)), (S, I2, R2))) ∧
    (∀ k D, rtx T n = .inr (k, D) → ∃ S2 I2 R2, (Gr S S2 ∧ S2.2.1 = S.2.1 + 2 ∧ S2.2.2 = S.2.2 + 3 + D.length) ∧ WF S2 R2 ∧ (∀ b, b < S.2.1 → b ≠ 60 → b ≠ 61 → I2 b = I b) ∧ (∀ b, b < S.2.1 → b ≠ 60 → R2 b = R b) ∧ (D.length ≤ 95 ∧ h_is S2 S.2.1 6 3 = true ∧ h_is S2 (S.2.1 + 1) 100 D.length = true ∧ I2 S.2.1 0 = nI k ∧ I2 S.2.1 1 = nI (atm D) ∧ R2 S.2.1 2 = .inl (some (S.2.1 + 1)) ∧ ∀ j, j < D.length → I2 (S.2.1 + 1) j = cvS (D.getD j 0)) ∧ rn Ls xs e 155 0 [some (.inr (.inl (some 60))), none] [] (S, I, R) = some (some (.inr (.inl (some S.2.1))), (S2, I2, R2))) := by
  obtain ⟨I2, l1, ru, f2, hl, u, r2⟩ := k_readTape1 (Ls := Ls) (xs := xs) h he hT
  have wu : WF S (setN R u) := (setN_f).wf h
  have h118 := h.1
  refine ⟨fun p hp => ?_, fun k D hp => ?_⟩
  · rw [hp] at ru
    exact ⟨I2, setN R u, ru.2, f2, setN_f, by rw [r2]; simp only [e_R_readTape_60, e_R_readTape_61, e_R_readTape_64, e_R_readTape_67, e_R_readTape_70, e_R_readTape_71, e_R_readTape_72, e_R_readTape_73, e_R_readTape_76, e_R_readTape_77, e_R_readTape_80, e_R_readTape_81, e_R_readTape_84, e_R_readTape_87, e_R_readTape_90, e_R_readTape_93, e_R_readTape_94, is_60 h, and_self, and_true, true_and, and_false, false_and, or_true, true_or, or_false, false_or, not_true_eq_false, not_false_eq_true, if_true, if_false, ne_eq, ite_self, reduceCtorEq, i10, Decidable.not_not, Bool.and_self, Bool.and_true, Bool.true_and, ru.1]⟩
  · rw [hp] at ru
    obtain ⟨e9, e2, e3, hD, e61⟩ := ru
    have el := hl k D hp
    subst el
    obtain ⟨d, rfl⟩ : ∃ d, e = d + 3 := ⟨e - 3, by omega⟩
    rw [r2]
    /- the first object -/
    obtain ⟨S1, hS1⟩ : ∃ S1 : mS, S1 = (va_up S.1 S.2.1 (6, 3), S.2.1 + 1, S.2.2 + 3) := ⟨_, rfl⟩
    obtain ⟨J1, hJ1⟩ : ∃ J1 : mI, J1 = va_up I2 S.2.1 (fun _ => 0) := ⟨_, rfl⟩
    obtain ⟨R1, hR1⟩ : ∃ R1 : mR, R1 = va_up (setN R u) S.2.1 (fun _ => .inl none) := ⟨_, rfl⟩
    have mk1 : h_mk (S, I2, setN R u) 6 3 = (S1, J1, R1) := by rw [hS1, hJ1, hR1]; rfl
    have n1 : S1.2.1 = S.2.1 + 1 := by rw [hS1]
    have w1 : WF S1 R1 := by
      refine ⟨by rw [n1]; omega, fun k hk => ?_, fun q hq => ?_⟩
      · rw [hS1]
        show va_up S.1 S.2.1 (6, 3) k = _
        rw [va_up_n _ _ (by omega)]
        exact h.2.1 k hk
      · have := rt_lt q hq
        rw [hR1, va_up_n _ _ (by omega)]
        exact wu.2.2 q hq
    have is1 : h_is S1 S.2.1 6 3 = true := h_is_iff.mpr ⟨by rw [n1]; omega, by rw [hS1]; exact va_up_s _ _ _⟩
    have j60 : J1 60 = I2 60 := by rw [hJ1]; exact vu_n (by omega)
    have j61 : J1 61 = I2 61 := by rw [hJ1]; exact vu_n (by omega)
    have ne96 : ¬ nI D.length = nI 96 := by rw [nI_eq' (by omega) (by decide)]; omega
    /- the row -/
    obtain ⟨S2, hS2⟩ : ∃ S2 : mS, S2 = (va_up S1.1 S1.2.1 (100, D.length), S1.2.1 + 1, S1.2.2 + D.length) := ⟨_, rfl⟩
    obtain ⟨J2, hJ2⟩ : ∃ J2 : mI, J2 = va_up J1 S1.2.1 (fun _ => 0) := ⟨_, rfl⟩
    obtain ⟨R2, hR2⟩ : ∃ R2 : mR, R2 = va_up R1 S1.2.1 (fun _ => .inl none) := ⟨_, rfl⟩
    have mk2 : h_mk (S1, J1, R1) (100 + 0) D.length = (S2, J2, R2) := by rw [hS2, hJ2, hR2]; rfl
    have n2 : S2.2.1 = S.2.1 + 2 := by rw [hS2, n1]
    have w2 : WF S2 R2 := by
      refine ⟨by rw [n2]; omega, fun k hk => ?_, fun q hq => ?_⟩
      · rw [hS2]
        show va_up S1.1 S1.2.1 (100, D.length) k = _
        rw [va_up_n _ _ (by omega)]
        exact w1.2.1 k hk
      · have := rt_lt q hq
        rw [hR2, va_up_n _ _ (by omega)]
        exact w1.2.2 q hq
    have is2 : h_is S2 S.2.1 6 3 = true := h_is_iff.mpr ⟨by rw [n2]; omega, by
      rw [hS2]
      show va_up S1.1 S1.2.1 (100, D.length) S.2.1 = _
      rw [va_up_n _ _ (by omega)]
      exact (h_is_iff.mp is1).2⟩
    have is3 : h_is S2 (S.2.1 + 1) 100 D.length = true := h_is_iff.mpr ⟨by rw [n2]; omega, by
      rw [hS2, ← n1]
      exact va_up_s _ _ _⟩
    have i61 := h_is_iff.mp (is_61 w2)
    have i3 := h_is_iff.mp is3
    have cp : h_cp S2 61 (S.2.1 + 1) 0 0 (nI D.length) = true := by
      refine decide_eq_true ⟨⟨⟨i61.1, by rw [i61.2]⟩, i3.1, by rw [i3.2]⟩, ⟨by decide, by decide, ?_⟩, ?_, ?_⟩
      · rw [nI_toInt (by omega)]; omega
      · rw [nI_toInt (by omega), i61.2]; show (0 : Int) + _ ≤ (96 : Int); omega
      · rw [nI_toInt (by omega), i3.2]; show (0 : Int) + _ ≤ (D.length : Int); omega
    have sz61 : (S1.1 61).2 = 96 := by rw [(h_is_iff.mp (is_61 w1)).2]
    have sz61' : (S2.1 61).2 = 96 := by rw [i61.2]
    have al1 : h_is S1 61 (100 + 0) 96 = true := is_61 w1
    have al2 : h_is S2 61 (100 + 0) 96 = true := is_61 w2
    have mi : miS (nI 96) (nI D.length) = nI D.length := by
      unfold miS
      rw [if_pos (by rw [nI_lt' (by omega) (by decide)]; omega)]
    have i0 : (0 : Int) ≤ D.length := by omega
    have i1 : (D.length : Int) ≤ 100000 := by omega
    obtain ⟨J3, hJ3⟩ : ∃ J3 : mI, J3 = va_up J2 (S.2.1 + 1) (va_cpy (J2 61) (J2 (S.2.1 + 1)) 0 0 D.length) := ⟨_, rfl⟩
    have cpy : rn Ls xs (d + 2) 197 0 [some (.inr (.inl (some 61))), some (.inl (nI D.length)), none] [] (S1, J1, R1) = some (some (.inr (.inl (some (S.2.1 + 1)))), (S2, J3, R2)) := by
      rw [hJ3]
      simp only [e_JArrays_copyOf_0, e_JArrays_copyOf_1, e_JArrays_copyOf_2, e_JArrays_copyOf_3, e_JArrays_copyOf_6, e_JArrays_copyOf_13, e_JArrays_copyOf_14, e_JArrays_copyOf_15, e_JArrays_copyOf_17, e_JArrays_copyOf_18, e_JArrays_copyOf_19, e_JArrays_copyOf_20, e_JArrays_copyOf_21, e_JArrays_copyOf_22, e_JArrays_copyOf_23, e_JArrays_copyOf_24, e_JArrays_copyOf_25, e_JArrays_copyOf_28, e_JArrays_copyOf_31, e_JArrays_copyOf_32, sz61, al1, ofn, and_self, and_true, true_and, and_false, false_and, or_true, true_or, or_false, false_or, not_true_eq_false, not_false_eq_true, if_true, if_false, ne_eq, ite_self, reduceCtorEq, i10, Decidable.not_not, Bool.and_self, Bool.and_true, Bool.true_and, ne96, nI_toInt (show D.length < 2 ^ 31 by omega), i0, i1, nI_clamp (show D.length < 2 ^ 31 by omega), mk2, n1, sz61', al2, k_J_min, mi, rb_i, cp, show (0 : Int32).toNatClampNeg = 0 from rfl]
    have p2 : S.2.1 + 1 ≠ S.2.1 := by omega
    have ini : ∀ {a b : Int32}, rn Ls xs (d + 2) 198 0 [some (.inr (.inl (some S.2.1))), some (.inl a), some (.inl b), some (.inr (.inl (some (S.2.1 + 1))))] [] (S2, J3, R2) = some (none, (S2, va_up J3 S.2.1 (upd (upd (J3 S.2.1) 0 a) 1 b), va_up R2 S.2.1 (va_up (R2 S.2.1) 2 (.inl (some (S.2.1 + 1)))))) := by
      intro a b
      simp only [e_X_init_0, e_X_init_1, e_X_init_4, e_X_init_5, e_X_init_6, e_X_init_9, e_X_init_10, e_X_init_11, e_X_init_14, e_X_init_15, e_X_init_16, e_X_init_19, is2, and_self, and_true, true_and, and_false, false_and, or_true, true_or, or_false, false_or, not_true_eq_false, not_false_eq_true, if_true, if_false, ne_eq, ite_self, reduceCtorEq, i10, Decidable.not_not, Bool.and_self, Bool.and_true, Bool.true_and, vu_s, vu_vu]
    refine ⟨S2, va_up J3 S.2.1 (upd (upd (J3 S.2.1) 0 (nI k)) 1 (nI (atm D))), va_up R2 S.2.1 (va_up (R2 S.2.1) 2 (.inl (some (S.2.1 + 1)))), ⟨⟨by rw [n2]; omega, fun k hk => ?_⟩, n2, by rw [hS2, hS1]⟩, ?_, fun b b1 b2 b3 => ?_, fun b b1 b2 => ?_, ⟨hD, is2, is3, ?_, ?_, ?_, fun j hj => ?_⟩, ?_⟩
    · rw [hS2]
      show va_up S1.1 S1.2.1 (100, D.length) k = _
      rw [va_up_n _ _ (by omega), hS1]
      show va_up S.1 S.2.1 (6, 3) k = _
      rw [va_up_n _ _ (by omega)]
    · refine ⟨w2.1, w2.2.1, fun q hq => ?_⟩
      have := rt_lt q hq
      rw [va_up_n _ _ (by omega)]
      exact w2.2.2 q hq
    · rw [vu_n (by omega), hJ3, vu_n (by omega), hJ2, vu_n (by omega), hJ1, vu_n (by omega)]
      exact f2 b b2 b3
    · rw [va_up_n _ _ (by omega), hR2, va_up_n _ _ (by omega), hR1, va_up_n _ _ (by omega)]
      funext k
      exact setN_f b k (Or.inl b2)
    · rw [vu_s, up_n (by decide), up_s]
    · rw [vu_s, up_s]
    · rw [va_up_s, va_up_s]
    · rw [vu_n p2, hJ3, vu_s]
      unfold va_cpy
      rw [if_pos (by omega), hJ2, vu_n (by omega), j61, Nat.zero_add, Nat.sub_zero]
      exact e61 j hj
    · simp only [e_R_readTape_60, e_R_readTape_61, e_R_readTape_64, e_R_readTape_67, e_R_readTape_70, e_R_readTape_71, e_R_readTape_72, e_R_readTape_73, e_R_readTape_76, e_R_readTape_77, e_R_readTape_80, e_R_readTape_81, e_R_readTape_84, e_R_readTape_87, e_R_readTape_90, e_R_readTape_93, e_R_readTape_94, is_60 h, and_self, and_true, true_and, and_false, false_and, or_true, true_or, or_false, false_or, not_true_eq_false, not_false_eq_true, if_true, if_false, ne_eq, ite_self, reduceCtorEq, i10, Decidable.not_not, Bool.and_self, Bool.and_true, Bool.true_and, e9, show ¬ (0 : Int32) ≤ -1 by decide, mk1, is_60 w1, rf_60_1 w1, j60, e2, e3, cpy, rb_r, is2, ini, rb_v]
end NTX

/-! THE LAW: the loop -/
section LWL
variable {Ls : Nat} {xs : Nat → Int32} {d : Nat} {S : mS} {I A : mI} {R : mR} {i : Nat}
theorem la_sw (js : JS S I R A) (hi : i + 6 ≤ Ls) (hL : Ls ≤ 3072) {v : Int32} : ∃ S2 I2 R2 A2, JS S2 I2 R2 A2 ∧ (S2.2.1 ≤ S.2.1 + 2 ∧ S2.2.2 ≤ S.2.2 + 98) ∧ rn Ls xs (d + 160) 0 33 [some (.inr (.inr 0)), some (.inr (.inl (some 0))), some (.inr (.inl (some 93))), some (.inl (nI i))] [.inl v] (S, I, R) = rn Ls xs (d + 160) 0 1462 [some (.inr (.inr 0)), some (.inr (.inl (some 0))), some (.inr (.inl (some 93))), some (.inl (nI i))] [] (S2, I2, R2) := by
  rw [e_L_law_33]
  by_cases h0 : v = 0
  · rw [if_pos h0]; exact lw_wreck js hi hL
  rw [if_neg h0]
  by_cases h1 : v = 1
  · rw [if_pos h1]; exact lw_told js hi hL
  rw [if_neg h1]
  by_cases h2 : v = 2
  · rw [if_pos h2]; exact lw_as js hi hL
  rw [if_neg h2]
  by_cases h3 : v = 3
  · rw [if_pos h3]; exact lw_turns js hi hL
  rw [if_neg h3]
  by_cases h4 : v = 4
  · rw [if_pos h4]; exact lw_set js hi hL
  rw [if_neg h4]
  by_cases h5 : v = 5
  · rw [if_pos h5]; exact lw_sweep js hi hL
  rw [if_neg h5]
  by_cases h6 : v = 6
  · rw [if_pos h6]; exact lw_drag js hi hL
  rw [if_neg h6]
  by_cases h7 : v = 7
  · rw [if_pos h7]; exact lw_at js hi hL
  rw [if_neg h7]
  by_cases h8 : v = 8
  · rw [if_pos h8]; exact lw_deal js hi hL
  rw [if_neg h8]
  by_cases h9 : v = 9
  · rw [if_pos h9]; exact lw_seed js hi hL
  rw [if_neg h9]
  by_cases h10 : v = 10
  · rw [if_pos h10]; exact lw_hours js hi hL
  rw [if_neg h10]
  by_cases h11 : v = 11
  · rw [if_pos h11]; exact lw_sky js hi hL
  rw [if_neg h11]
  by_cases h12 : v = 12
  · rw [if_pos h12]; exact lw_behind js hi hL
  rw [if_neg h12]
  by_cases h13 : v = 13
  · rw [if_pos h13]; exact lw_first js hi hL
  rw [if_neg h13]
  by_cases h14 : v = 14
  · rw [if_pos h14]; exact lw_hole js hi hL
  rw [if_neg h14]
  by_cases h15 : v = 15
  · rw [if_pos h15]; exact lw_open js hi hL
  rw [if_neg h15]
  by_cases h16 : v = 16
  · rw [if_pos h16]; exact lw_best js hi hL
  rw [if_neg h16]
  by_cases h17 : v = 17
  · rw [if_pos h17]; exact lw_push js hi hL
  rw [if_neg h17]
  by_cases h18 : v = 18
  · rw [if_pos h18]; exact lw_under js hi hL
  rw [if_neg h18]
  by_cases h19 : v = 19
  · rw [if_pos h19]; exact lw_nearest js hi hL
  rw [if_neg h19]
  by_cases h20 : v = 20
  · rw [if_pos h20]; exact lw_seen js hi hL
  rw [if_neg h20]
  by_cases h21 : v = 21
  · rw [if_pos h21]; exact lw_fee js hi hL
  rw [if_neg h21]
  by_cases h22 : v = 22
  · rw [if_pos h22]; exact lw_fine js hi hL
  rw [if_neg h22]
  by_cases h23 : v = 23
  · rw [if_pos h23]; exact lw_feed js hi hL
  rw [if_neg h23]
  by_cases h24 : v = 24
  · rw [if_pos h24]; exact lw_trim js hi hL
  rw [if_neg h24]
  by_cases h25 : v = 25
  · rw [if_pos h25]; exact lw_text js hi hL
  rw [if_neg h25]
  by_cases h26 : v = 26
  · rw [if_pos h26]; exact lw_textTold js hi hL
  rw [if_neg h26]
  by_cases h27 : v = 27
  · rw [if_pos h27]; exact lw_why js hi hL
  rw [if_neg h27]
  by_cases h28 : v = 28
  · rw [if_pos h28]; exact lw_sheet js hi hL
  rw [if_neg h28]
  by_cases h29 : v = 29
  · rw [if_pos h29]; exact lw_mark js hi hL
  rw [if_neg h29]
  by_cases h30 : v = 30
  · rw [if_pos h30]; exact lw_pour js hi hL
  rw [if_neg h30]
  by_cases h31 : v = 31
  · rw [if_pos h31]; exact lw_reads js hi hL
  rw [if_neg h31]
  by_cases h32 : v = 32
  · rw [if_pos h32]; exact lw_copy js hi hL
  rw [if_neg h32]
  by_cases h33 : v = 33
  · rw [if_pos h33]; exact lw_lay js hi hL
  rw [if_neg h33]
  by_cases h34 : v = 34
  · rw [if_pos h34]; exact lw_ask js hi hL
  rw [if_neg h34]
  by_cases h35 : v = 35
  · rw [if_pos h35]; exact lw_item js hi hL
  rw [if_neg h35]
  by_cases h36 : v = 36
  · rw [if_pos h36]; exact lw_rest js hi hL
  rw [if_neg h36]
  by_cases h37 : v = 37
  · rw [if_pos h37]; exact lw_tell js hi hL
  rw [if_neg h37]
  by_cases h38 : v = 38
  · rw [if_pos h38]; exact lw_check js hi hL
  rw [if_neg h38]
  by_cases h39 : v = 39
  · rw [if_pos h39]; exact lw_keep js hi hL
  rw [if_neg h39]
  by_cases h40 : v = 40
  · rw [if_pos h40]; exact lw_back js hi hL
  rw [if_neg h40]
  by_cases h41 : v = 41
  · rw [if_pos h41]; exact lw_count js hi hL
  rw [if_neg h41]
  exact ⟨S, I, R, A, js, ⟨by omega, by omega⟩, rfl⟩
theorem la_loop (hL : Ls ≤ 3072) : ∀ (k i : Nat) (S : mS) (I : mI) (R : mR) (A : mI), JS S I R A → i ≤ 3072 → i + 6 * k ≤ Ls → Ls < i + 6 * k + 6 → ∃ S2 I2 R2, (S2.2.1 ≤ S.2.1 + 2 * k ∧ S2.2.2 ≤ S.2.2 + 98 * k) ∧ rn Ls xs (d + 160) 0 18 [some (.inr (.inr 0)), some (.inr (.inl (some 0))), some (.inr (.inl (some 93))), some (.inl (nI i))] [] (S, I, R) = some (some (.inl 1), (S2, I2, R2)) := by
  intro k
  induction k with
  | zero =>
    intro i S I R A js hi h1 h2
    refine ⟨S, I, R, ⟨by omega, by omega⟩, ?_⟩
    have lt : nI Ls - 6 < nI i := by
      rw [i_lt, show nI Ls - 6 = nI Ls - nI 6 from rfl, sub_toInt (by omega) (by decide), nI_toInt (by omega)]
      omega
    rw [e_L_law_18]
    simp only [e_L_law_19, e_L_law_20, e_L_law_21, e_L_law_23, e_L_law_24, e_L_law_1468, e_L_law_1469, ofn, lt, if_true, bo_1]
  | succ k ih =>
    intro i S I R A js hi h1 h2
    have nlt : ¬ nI Ls - 6 < nI i := by
      rw [i_lt, show nI Ls - 6 = nI Ls - nI 6 from rfl, sub_toInt (by omega) (by decide), nI_toInt (by omega)]
      omega
    obtain ⟨p0, q0, c0⟩ := sl_t (Ls := Ls) (k := i) hL (by omega)
    obtain ⟨S2, I2, R2, A2, js2, ⟨b1, b2⟩, r2⟩ := la_sw (Ls := Ls) (xs := xs) (d := d) (v := xs i &&& 63) js (show i + 6 ≤ Ls by omega) hL
    obtain ⟨S3, I3, R3, ⟨d1, d2⟩, r3⟩ := ih (i + 6) S2 I2 R2 A2 js2 (by omega) (by omega) (by omega)
    refine ⟨S3, I3, R3, ⟨by omega, by omega⟩, ?_⟩
    have e6 : nI i + 6 = nI (i + 6) := nI_add i 6
    rw [e_L_law_18, ← r3]
    simp only [e_L_law_19, e_L_law_20, e_L_law_21, e_L_law_23, e_L_law_24, e_L_law_27, e_L_law_28, e_L_law_29, e_L_law_30, e_L_law_32, ofn, nlt, and_self, and_true, true_and, and_false, false_and, or_true, true_or, or_false, false_or, not_true_eq_false, not_false_eq_true, if_true, if_false, ne_eq, ite_self, reduceCtorEq, i10, Decidable.not_not, Bool.and_self, Bool.and_true, Bool.true_and, p0, q0, c0, r2]
    simp only [e_L_law_1462, e_L_law_1465, e6]
end LWL

/-! BEHIND THE CONSTRUCTORS -/
section BTH
variable {Ls : Nat} {xs : Nat → Int32} {h : mH} {r : mRes}
theorem boot_js (hc : bootC r = true) : r.1 = none ∧ (r.2.1.2.1 = 118 ∧ r.2.1.2.2 ≤ 20000) ∧ JS r.2.1 r.2.2.1 r.2.2.2 r.2.2.1 := by
  obtain ⟨v, S, I, R⟩ := r
  simp only [bootC, bootS, bootR, bootI, bootE, bootO, bootK, Bool.and_eq_true, decide_eq_true_eq, List.all_eq_true, List.mem_range, Option.isNone_iff_eq_none] at hc
  obtain ⟨h0, ⟨h1, h2, h3⟩, h4, h5, h6, h7, h8, h9⟩ := hc
  show v = none ∧ (S.2.1 = 118 ∧ S.2.2 ≤ 20000) ∧ JS S I R I
  have g : ∀ a k x, (a, k, x) ∈ bootL → I a k = x := fun a k x hm => h5 (a, k, x) hm
  have g1 := g 1 3 0 (by decide +kernel)
  have g2 := g 1 4 0 (by decide +kernel)
  have g3 := g 1 5 0 (by decide +kernel)
  have g4 := g 1 6 0 (by decide +kernel)
  have g5 := g 1 7 0 (by decide +kernel)
  have g6 := g 1 8 0 (by decide +kernel)
  have g7 := g 1 9 0 (by decide +kernel)
  have g8 := g 1 10 1 (by decide +kernel)
  have m0 := g 94 0 1 (by decide +kernel)
  have m1 := g 94 1 0 (by decide +kernel)
  have m2 := g 94 2 0 (by decide +kernel)
  have m3 := g 94 3 0 (by decide +kernel)
  have m4 := g 94 4 0 (by decide +kernel)
  have m5 := g 94 5 0 (by decide +kernel)
  have m6 := g 94 6 0 (by decide +kernel)
  have m7 := g 94 7 0 (by decide +kernel)
  have n1 := g 0 8 0 (by decide +kernel)
  have n2 := g 0 9 0 (by decide +kernel)
  have n3 := g 93 3 0 (by decide +kernel)
  have n4 := g 93 9 0 (by decide +kernel)
  have n5 := g 93 35 0 (by decide +kernel)
  have n6 := g 58 1 0 (by decide +kernel)
  have c0 : cW 0 = 0 := by decide +kernel
  have z1 : cW (I 94 1) = 0 := by rw [m1, c0]
  have z7 : cW (I 94 7) = 0 := by rw [m7, c0]
  have z9 : cW (I 93 9) = 0 := by rw [n4, c0]
  have z35 : cW (I 93 35) = 0 := by rw [n5, c0]
  refine ⟨h0, ⟨h1, h2⟩, ⟨Nat.le_of_eq h1.symm, h3, h4⟩, ⟨⟨⟨⟨?_, ?_, ?_, ?_, ?_, ?_, ?_, ?_⟩, ?_, ?_⟩, ⟨⟨⟨0, by decide, ?_⟩, ?_⟩, ?_⟩, 0, by decide, ?_, 0, by decide, ?_⟩, ⟨?_, Or.inl ?_, ?_⟩, ⟨?_, ⟨0, by decide, ?_⟩, ?_⟩, ⟨?_, ⟨0, by decide, ?_⟩, ?_⟩, ⟨?_, ?_⟩, ?_, ?_⟩, ⟨fun _ _ _ => rfl, rfl, fun _ _ _ => rfl, rfl, rfl, rfl, rfl, fun _ _ => rfl⟩, h8, h9⟩
  · rw [g1, m1]
  · rw [g2, m7]
  · rw [g3, m3]
  · rw [g4, m4]
  · rw [g5, m5]
  · rw [g6, m6]
  · rw [g7, m2]
  · rw [g8, m0]
  · intro w k hw _
    rw [z1] at hw
    exact absurd hw (Nat.not_lt_zero w)
  · intro t ht
    rw [z7] at ht
    exact absurd ht (Nat.not_lt_zero t)
  · exact m1
  · refine ⟨0, by decide, m7, fun t ht => absurd ht (Nat.not_lt_zero t)⟩
  · intro w k hw _
    rw [z1] at hw
    exact absurd hw (Nat.not_lt_zero w)
  · exact m2
  · exact m4
  · rw [n2, n3]
  · exact n3
  · exact fun q => absurd n3 q
  · rw [n1, n5]
  · exact n5
  · intro k hk
    rw [z35] at hk
    exact absurd hk (Nat.not_lt_zero k)
  · rw [n6, n4]
  · exact n4
  · intro k hk
    rw [z9] at hk
    exact absurd hk (Nat.not_lt_zero k)
  · intro i hi
    obtain ⟨a1, a2, a3, a4, a5⟩ := h6 i hi
    exact ⟨by rw [a1, a3], by rw [a2, a4], fun k hk => by rw [(a5 k hk).1, (a5 k hk).2]⟩
  · intro i hi
    obtain ⟨a1, a2, a3, a4, a5⟩ := h6 i hi
    exact ⟨Or.inl a3, 0, by decide, a4⟩
  · intro i hi
    obtain ⟨a1, a2⟩ := h7 i hi
    exact ⟨by rw [a1, a2], fun q => by rw [a2] at q; exact absurd q (by decide), fun q => by rw [a2] at q; exact absurd q (by decide), fun q => by rw [a2] at q; exact absurd q (by decide)⟩
  · intro i hi
    obtain ⟨a1, a2⟩ := h7 i hi
    exact ⟨Or.inl a2, fun q => by rw [a2] at q; exact absurd q (by decide)⟩
theorem rn_PC {k d mi pc : Nat} {L : mL} {st : List mV} (e : m_ex PC nlM k d mi pc L st h = some r) : rn Ls xs d mi pc L st h = some r := m_run_iff.mpr ⟨k, ex_mono PC_ok k d mi pc L st h r e⟩
theorem opt_b {A : Type} {x : Option A} {f : A → Bool} (e : okB f x = true) : ∃ h, x = some h ∧ f h = true := by
  cases x with
  | none => cases e
  | some h => exact ⟨h, rfl, e⟩
theorem law_0 : ∃ S I R, (S.2.1 = 118 ∧ S.2.2 ≤ 20000) ∧ JS S I R I ∧ rn Ls xs 200 0 0 [some (.inr (.inr 0)), none, none, none] [] H0 = rn Ls xs 200 0 18 [some (.inr (.inr 0)), some (.inr (.inl (some 0))), some (.inr (.inl (some 93))), some (.inl (nI 0))] [] (S, I, R) := by
  obtain ⟨⟨v1, S1, I1, R1⟩, e1, d1⟩ := opt_b boot_a
  obtain ⟨⟨v2, S2, I2, R2⟩, e2, d2⟩ := opt_b boot_t
  have e3 : m_ex PC nlM 6000 199 2 0 [some (.inr (.inl (some 93)))] [] (h_mk (S1, I1, R1) 9 36) = some (v2, S2, I2, R2) := by
    have q : bootA.bind (fun r => m_ex PC nlM 6000 199 2 0 [some (.inr (.inl (some 93)))] [] (h_mk r.2 9 36)) = some (v2, S2, I2, R2) := e2
    rw [e1] at q
    simp only [Option.bind_some] at q
    exact q
  have e4 : m_ex PC nlM 6000 199 1 0 [some (.inr (.inl (some 0))), none] [] (h_mk H0 8 10) = some (v1, S1, I1, R1) := e1
  obtain ⟨f1, f2, f3⟩ := boot_js d2
  simp only [bootD, Bool.and_eq_true, decide_eq_true_eq, Option.isNone_iff_eq_none] at d1
  obtain ⟨g1, g2⟩ := d1
  have r1 := rn_PC (Ls := Ls) (xs := xs) e4
  have r2 := rn_PC (Ls := Ls) (xs := xs) e3
  dsimp only at f1 f2 f3
  subst g1 f1
  refine ⟨S2, I2, R2, f2, f3, ?_⟩
  have s1 : rn Ls xs 200 0 0 [some (.inr (.inr 0)), none, none, none] [] H0 = rn Ls xs (199 + 1) 0 4 [some (.inr (.inr 0)), none, none, none] [.inr (.inl (some 0)), .inr (.inl (some 0))] (h_mk H0 8 10) := by
    show rn Ls xs 200 0 0 [some (.inr (.inr 0)), none, none, none] [] ((fun _ => (0, 0), 0, 0), fun _ _ => 0, fun _ _ => .inl none) = _
    rw [e_L_law_0, e_L_law_3]
    rfl
  have q1 : h_is (h_mk H0 8 10).1 0 8 10 = true := rfl
  have s2 : rn Ls xs (199 + 1) 0 4 [some (.inr (.inr 0)), none, none, none] [.inr (.inl (some 0)), .inr (.inl (some 0))] (h_mk H0 8 10) = rn Ls xs (199 + 1) 0 8 [some (.inr (.inr 0)), some (.inr (.inl (some 0))), none, none] [] (S1, I1, R1) := by
    show rn Ls xs (199 + 1) 0 4 [some (.inr (.inr 0)), none, none, none] [.inr (.inl (some 0)), .inr (.inl (some 0))] ((h_mk H0 8 10).1, (h_mk H0 8 10).2.1, (h_mk H0 8 10).2.2) = _
    rw [e_L_law_4, if_pos q1]
    show rb Ls xs (199 + 1) 0 7 [some (.inr (.inr 0)), none, none, none] [.inr (.inl (some 0))] (rn Ls xs 199 1 0 [some (.inr (.inl (some 0))), none] [] (h_mk H0 8 10)) = _
    rw [r1, rb_v, e_L_law_7]
  have q2 : h_is (h_mk (S1, I1, R1) 9 36).1 93 9 36 = true := by
    have g2 : S1.2.1 = 93 := g2
    refine h_is_iff.mpr ⟨?_, ?_⟩
    · show 93 < S1.2.1 + 1
      omega
    · show va_up S1.1 S1.2.1 (9, 36) 93 = (9, 36)
      rw [g2]
      simp [va_up]
  have s3 : rn Ls xs (199 + 1) 0 8 [some (.inr (.inr 0)), some (.inr (.inl (some 0))), none, none] [] (S1, I1, R1) = rn Ls xs (199 + 1) 0 12 [some (.inr (.inr 0)), some (.inr (.inl (some 0))), none, none] [.inr (.inl (some 93)), .inr (.inl (some 93))] (h_mk (S1, I1, R1) 9 36) := by
    have g2 : S1.2.1 = 93 := g2
    rw [e_L_law_8, e_L_law_11, g2]
  have s4 : rn Ls xs (199 + 1) 0 12 [some (.inr (.inr 0)), some (.inr (.inl (some 0))), none, none] [.inr (.inl (some 93)), .inr (.inl (some 93))] (h_mk (S1, I1, R1) 9 36) = rn Ls xs (199 + 1) 0 18 [some (.inr (.inr 0)), some (.inr (.inl (some 0))), some (.inr (.inl (some 93))), some (.inl 0)] [] (S2, I2, R2) := by
    show rn Ls xs (199 + 1) 0 12 [some (.inr (.inr 0)), some (.inr (.inl (some 0))), none, none] [.inr (.inl (some 93)), .inr (.inl (some 93))] ((h_mk (S1, I1, R1) 9 36).1, (h_mk (S1, I1, R1) 9 36).2.1, (h_mk (S1, I1, R1) 9 36).2.2) = _
    rw [e_L_law_12, if_pos q2]
    show rb Ls xs (199 + 1) 0 15 [some (.inr (.inr 0)), some (.inr (.inl (some 0))), none, none] [.inr (.inl (some 93))] (rn Ls xs 199 2 0 [some (.inr (.inl (some 93)))] [] (h_mk (S1, I1, R1) 9 36)) = _
    rw [r2, rb_v, e_L_law_15, e_L_law_16, e_L_law_17]
  rw [s1, s2, s3, s4]
  rfl
/-- THE LAW, whole -/
theorem law_all (hL : Ls ≤ 3072) : ∃ S I R, (S.2.1 ≤ 2000 ∧ S.2.2 ≤ 100000) ∧ rn Ls xs 200 0 0 [some (.inr (.inr 0)), none, none, none] [] H0 = some (some (.inl 1), (S, I, R)) := by
  obtain ⟨S, I, R, ⟨b1, b2⟩, js, e⟩ := law_0 (Ls := Ls) (xs := xs)
  obtain ⟨S2, I2, R2, ⟨d1, d2⟩, e2⟩ := la_loop (Ls := Ls) (xs := xs) (d := 40) hL (Ls / 6) 0 S I R I js (by omega) (by omega) (by omega)
  exact ⟨S2, I2, R2, ⟨by omega, by omega⟩, e.trans e2⟩
end BTH

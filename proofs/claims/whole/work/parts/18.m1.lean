/-! THE REFERENCE's small methods -/
theorem bo_1 : h_bo 1 = true := rfl
theorem bo_0 : h_bo 0 = true := rfl
section MT1
variable {Ls : Nat} {xs : Nat → Int32} {d : Nat} {S : mS} {I : mI} {R : mR} {x y z : Int32} {H : mH}
theorem k_M_in : rn Ls xs d 97 0 [some (.inl x), some (.inl y), some (.inl z)] [] H = some (some (.inl (if y ≤ x ∧ x ≤ z then 1 else 0)), H) := by
  simp only [e_M_in_0, e_M_in_1, e_M_in_2, e_M_in_5, e_M_in_6, e_M_in_7, e_M_in_10, e_M_in_11, e_M_in_14, e_M_in_15]
  trace_state
  sorry
theorem k_M_of (h : WF S R) {w k : Nat} (hw : w < 14) (hk : k < 6) : rn Ls xs d 105 0 [some (.inr (.inl (some 93))), some (.inl (nI w)), some (.inl (nI k))] [] (S, I, R) = some (some (.inl (I 94 (8 + 6 * w + k))), (S, I, R)) := by
  simp only [e_M_of_0, e_M_of_1, e_M_of_4, e_M_of_6, e_M_of_8, e_M_of_9, e_M_of_10, e_M_of_11, e_M_of_12, e_M_of_13, e_M_of_14, is_93 h, rf_93_0 h]
  trace_state
  sorry
end MT1

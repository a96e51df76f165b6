/-! THE HEAP BEHIND THE TWO CONSTRUCTORS: kinds, lengths, references that stay -/
def tb (k : Nat) : Nat × Nat := ([(8, 10), (3, 11), (104, 14), (105, 14), (100, 96), (7, 6), (7, 6), (7, 6), (7, 6), (7, 6), (7, 6), (7, 6), (7, 6), (7, 6), (7, 6), (7, 6), (7, 6), (7, 6), (7, 6), (3, 11), (104, 14), (105, 14), (100, 96), (7, 6), (7, 6), (7, 6), (7, 6), (7, 6), (7, 6), (7, 6), (7, 6), (7, 6), (7, 6), (7, 6), (7, 6), (7, 6), (7, 6), (0, 5), (3, 11), (104, 14), (105, 14), (100, 96), (7, 6), (7, 6), (7, 6), (7, 6), (7, 6), (7, 6), (7, 6), (7, 6), (7, 6), (7, 6), (7, 6), (7, 6), (7, 6), (7, 6), (100, 61), (100, 30), (5, 2), (100, 96), (1, 10), (100, 96), (106, 4), (107, 5), (100, 60), (2, 3), (100, 24), (2, 3), (100, 24), (2, 3), (100, 24), (2, 3), (100, 24), (4, 4), (7, 6), (2, 3), (100, 24), (4, 4), (7, 6), (2, 3), (100, 24), (4, 4), (7, 6), (2, 3), (100, 24), (4, 4), (7, 6), (2, 3), (100, 24), (4, 4), (7, 6), (2, 3), (100, 24), (9, 36), (100, 1464), (100, 1464), (100, 1464), (100, 92), (100, 544), (100, 30), (100, 14), (100, 96), (102, 11), (100, 4), (100, 96), (100, 96), (101, 10), (100, 96), (100, 4), (100, 4), (100, 4), (100, 96), (100, 5), (100, 5), (100, 5), (100, 120), (100, 24), (100, 60)] : List (Nat × Nat)).getD k (0, 0)
def rt_ : List ((Nat × Nat) × Nat) := [((0, 0), 1), ((0, 1), 19), ((0, 2), 37), ((0, 3), 58), ((0, 4), 60), ((0, 5), 62), ((0, 6), 63), ((0, 7), 64), ((1, 0), 2), ((1, 1), 3), ((1, 2), 4), ((2, 0), 5), ((2, 1), 6), ((2, 2), 7), ((2, 3), 8), ((2, 4), 9), ((2, 5), 10), ((2, 6), 11), ((2, 7), 12), ((2, 8), 13), ((2, 9), 14), ((2, 10), 15), ((2, 11), 16), ((2, 12), 17), ((2, 13), 18), ((19, 0), 20), ((19, 1), 21), ((19, 2), 22), ((20, 0), 23), ((20, 1), 24), ((20, 2), 25), ((20, 3), 26), ((20, 4), 27), ((20, 5), 28), ((20, 6), 29), ((20, 7), 30), ((20, 8), 31), ((20, 9), 32), ((20, 10), 33), ((20, 11), 34), ((20, 12), 35), ((20, 13), 36), ((37, 0), 38), ((37, 1), 56), ((37, 2), 57), ((38, 0), 39), ((38, 1), 40), ((38, 2), 41), ((39, 0), 42), ((39, 1), 43), ((39, 2), 44), ((39, 3), 45), ((39, 4), 46), ((39, 5), 47), ((39, 6), 48), ((39, 7), 49), ((39, 8), 50), ((39, 9), 51), ((39, 10), 52), ((39, 11), 53), ((39, 12), 54), ((39, 13), 55), ((58, 0), 59), ((60, 0), 58), ((60, 1), 61), ((62, 0), 65), ((62, 1), 67), ((62, 2), 69), ((62, 3), 71), ((63, 0), 73), ((63, 1), 77), ((63, 2), 81), ((63, 3), 85), ((63, 4), 89), ((65, 0), 66), ((67, 0), 68), ((69, 0), 70), ((71, 0), 72), ((73, 0), 74), ((73, 1), 75), ((75, 0), 76), ((77, 0), 78), ((77, 1), 79), ((79, 0), 80), ((81, 0), 82), ((81, 1), 83), ((83, 0), 84), ((85, 0), 86), ((85, 1), 87), ((87, 0), 88), ((89, 0), 90), ((89, 1), 91), ((91, 0), 92), ((93, 0), 94), ((93, 1), 95), ((93, 2), 96), ((93, 4), 97), ((93, 5), 98), ((93, 6), 99), ((93, 7), 100), ((93, 8), 101), ((93, 16), 102), ((93, 17), 103), ((93, 18), 104), ((93, 21), 105), ((93, 23), 106), ((93, 24), 107), ((93, 25), 108), ((93, 26), 109), ((93, 27), 110), ((93, 28), 111), ((93, 29), 112), ((93, 30), 113), ((93, 31), 114), ((93, 32), 115), ((93, 33), 116), ((93, 34), 117)]
def WF (S : mS) (R : mR) : Prop := 118 ≤ S.2.1 ∧ (∀ k, k < 118 → S.1 k = tb k) ∧ ∀ q ∈ rt_, R q.1.1 q.1.2 = .inl (some q.2)
theorem wf_is {S : mS} {R : mR} (h : WF S R) {k ci N : Nat} (hk : k < 118) (e : tb k = (ci, N)) : h_is S k ci N = true := h_is_iff.mpr ⟨Nat.lt_of_lt_of_le hk h.1, (h.2.1 k hk).trans e⟩
theorem wf_sh {S : mS} {R : mR} (h : WF S R) {k : Nat} {q : Nat × Nat} (hk : k < 118) (e : tb k = q) : S.1 k = q := (h.2.1 k hk).trans e
theorem wf_ia {S : mS} {R : mR} (h : WF S R) {k t N n : Nat} (hk : k < 118) (e : tb k = (100 + t, N)) (hn : n < N) (hN : N < 2 ^ 31) : h_ia S k t (nI n) = true := by
  refine h_ia_iff.mpr ⟨Nat.lt_of_lt_of_le hk h.1, by rw [h.2.1 k hk, e], ?_, ?_⟩
  · rw [nI_toInt (by omega)]; omega
  · rw [nI_toInt (by omega), h.2.1 k hk, e]; omega
theorem wf_R {S : mS} {R : mR} (h : WF S R) {a k b : Nat} (i : Nat) (e : rt_[i]? = some ((a, k), b)) : R a k = .inl (some b) := h.2.2 _ (List.mem_of_getElem? e)
section LAY
variable {S : mS} {R : mR}
theorem is_0 (h : WF S R) : h_is S 0 8 10 = true := wf_is h (by decide) rfl
theorem is_1 (h : WF S R) : h_is S 1 3 11 = true := wf_is h (by decide) rfl
theorem is_2 (h : WF S R) : h_is S 2 104 14 = true := wf_is h (by decide) rfl
theorem ia_2 (h : WF S R) {n : Nat} (hn : n < 14) : h_ia S 2 4 (nI n) = true := wf_ia h (by decide) rfl hn (by decide)
theorem is_3 (h : WF S R) : h_is S 3 105 14 = true := wf_is h (by decide) rfl
theorem ia_3 (h : WF S R) {n : Nat} (hn : n < 14) : h_ia S 3 5 (nI n) = true := wf_ia h (by decide) rfl hn (by decide)
theorem is_4 (h : WF S R) : h_is S 4 100 96 = true := wf_is h (by decide) rfl
theorem ia_4 (h : WF S R) {n : Nat} (hn : n < 96) : h_ia S 4 0 (nI n) = true := wf_ia h (by decide) rfl hn (by decide)
theorem is_5 (h : WF S R) : h_is S 5 7 6 = true := wf_is h (by decide) rfl
theorem is_6 (h : WF S R) : h_is S 6 7 6 = true := wf_is h (by decide) rfl
theorem is_7 (h : WF S R) : h_is S 7 7 6 = true := wf_is h (by decide) rfl
theorem is_8 (h : WF S R) : h_is S 8 7 6 = true := wf_is h (by decide) rfl
theorem is_9 (h : WF S R) : h_is S 9 7 6 = true := wf_is h (by decide) rfl
theorem is_10 (h : WF S R) : h_is S 10 7 6 = true := wf_is h (by decide) rfl
theorem is_11 (h : WF S R) : h_is S 11 7 6 = true := wf_is h (by decide) rfl
theorem is_12 (h : WF S R) : h_is S 12 7 6 = true := wf_is h (by decide) rfl
theorem is_13 (h : WF S R) : h_is S 13 7 6 = true := wf_is h (by decide) rfl
theorem is_14 (h : WF S R) : h_is S 14 7 6 = true := wf_is h (by decide) rfl
theorem is_15 (h : WF S R) : h_is S 15 7 6 = true := wf_is h (by decide) rfl
theorem is_16 (h : WF S R) : h_is S 16 7 6 = true := wf_is h (by decide) rfl
theorem is_17 (h : WF S R) : h_is S 17 7 6 = true := wf_is h (by decide) rfl
theorem is_18 (h : WF S R) : h_is S 18 7 6 = true := wf_is h (by decide) rfl
theorem is_19 (h : WF S R) : h_is S 19 3 11 = true := wf_is h (by decide) rfl
theorem is_20 (h : WF S R) : h_is S 20 104 14 = true := wf_is h (by decide) rfl
theorem ia_20 (h : WF S R) {n : Nat} (hn : n < 14) : h_ia S 20 4 (nI n) = true := wf_ia h (by decide) rfl hn (by decide)
theorem is_21 (h : WF S R) : h_is S 21 105 14 = true := wf_is h (by decide) rfl
theorem ia_21 (h : WF S R) {n : Nat} (hn : n < 14) : h_ia S 21 5 (nI n) = true := wf_ia h (by decide) rfl hn (by decide)
theorem is_22 (h : WF S R) : h_is S 22 100 96 = true := wf_is h (by decide) rfl
theorem ia_22 (h : WF S R) {n : Nat} (hn : n < 96) : h_ia S 22 0 (nI n) = true := wf_ia h (by decide) rfl hn (by decide)
theorem is_23 (h : WF S R) : h_is S 23 7 6 = true := wf_is h (by decide) rfl
theorem is_24 (h : WF S R) : h_is S 24 7 6 = true := wf_is h (by decide) rfl
theorem is_25 (h : WF S R) : h_is S 25 7 6 = true := wf_is h (by decide) rfl
theorem is_26 (h : WF S R) : h_is S 26 7 6 = true := wf_is h (by decide) rfl
theorem is_27 (h : WF S R) : h_is S 27 7 6 = true := wf_is h (by decide) rfl
theorem is_28 (h : WF S R) : h_is S 28 7 6 = true := wf_is h (by decide) rfl
theorem is_29 (h : WF S R) : h_is S 29 7 6 = true := wf_is h (by decide) rfl
theorem is_30 (h : WF S R) : h_is S 30 7 6 = true := wf_is h (by decide) rfl
theorem is_31 (h : WF S R) : h_is S 31 7 6 = true := wf_is h (by decide) rfl
theorem is_32 (h : WF S R) : h_is S 32 7 6 = true := wf_is h (by decide) rfl
theorem is_33 (h : WF S R) : h_is S 33 7 6 = true := wf_is h (by decide) rfl
theorem is_34 (h : WF S R) : h_is S 34 7 6 = true := wf_is h (by decide) rfl
theorem is_35 (h : WF S R) : h_is S 35 7 6 = true := wf_is h (by decide) rfl
theorem is_36 (h : WF S R) : h_is S 36 7 6 = true := wf_is h (by decide) rfl
theorem is_37 (h : WF S R) : h_is S 37 0 5 = true := wf_is h (by decide) rfl
theorem is_38 (h : WF S R) : h_is S 38 3 11 = true := wf_is h (by decide) rfl
theorem is_39 (h : WF S R) : h_is S 39 104 14 = true := wf_is h (by decide) rfl
theorem ia_39 (h : WF S R) {n : Nat} (hn : n < 14) : h_ia S 39 4 (nI n) = true := wf_ia h (by decide) rfl hn (by decide)
theorem is_40 (h : WF S R) : h_is S 40 105 14 = true := wf_is h (by decide) rfl
theorem ia_40 (h : WF S R) {n : Nat} (hn : n < 14) : h_ia S 40 5 (nI n) = true := wf_ia h (by decide) rfl hn (by decide)
theorem is_41 (h : WF S R) : h_is S 41 100 96 = true := wf_is h (by decide) rfl
theorem ia_41 (h : WF S R) {n : Nat} (hn : n < 96) : h_ia S 41 0 (nI n) = true := wf_ia h (by decide) rfl hn (by decide)
theorem is_42 (h : WF S R) : h_is S 42 7 6 = true := wf_is h (by decide) rfl
theorem is_43 (h : WF S R) : h_is S 43 7 6 = true := wf_is h (by decide) rfl
theorem is_44 (h : WF S R) : h_is S 44 7 6 = true := wf_is h (by decide) rfl
theorem is_45 (h : WF S R) : h_is S 45 7 6 = true := wf_is h (by decide) rfl
theorem is_46 (h : WF S R) : h_is S 46 7 6 = true := wf_is h (by decide) rfl
theorem is_47 (h : WF S R) : h_is S 47 7 6 = true := wf_is h (by decide) rfl
theorem is_48 (h : WF S R) : h_is S 48 7 6 = true := wf_is h (by decide) rfl
theorem is_49 (h : WF S R) : h_is S 49 7 6 = true := wf_is h (by decide) rfl
theorem is_50 (h : WF S R) : h_is S 50 7 6 = true := wf_is h (by decide) rfl
theorem is_51 (h : WF S R) : h_is S 51 7 6 = true := wf_is h (by decide) rfl
theorem is_52 (h : WF S R) : h_is S 52 7 6 = true := wf_is h (by decide) rfl
theorem is_53 (h : WF S R) : h_is S 53 7 6 = true := wf_is h (by decide) rfl
theorem is_54 (h : WF S R) : h_is S 54 7 6 = true := wf_is h (by decide) rfl
theorem is_55 (h : WF S R) : h_is S 55 7 6 = true := wf_is h (by decide) rfl
theorem is_56 (h : WF S R) : h_is S 56 100 61 = true := wf_is h (by decide) rfl
theorem ia_56 (h : WF S R) {n : Nat} (hn : n < 61) : h_ia S 56 0 (nI n) = true := wf_ia h (by decide) rfl hn (by decide)
theorem is_57 (h : WF S R) : h_is S 57 100 30 = true := wf_is h (by decide) rfl
theorem ia_57 (h : WF S R) {n : Nat} (hn : n < 30) : h_ia S 57 0 (nI n) = true := wf_ia h (by decide) rfl hn (by decide)
theorem is_58 (h : WF S R) : h_is S 58 5 2 = true := wf_is h (by decide) rfl
theorem is_59 (h : WF S R) : h_is S 59 100 96 = true := wf_is h (by decide) rfl
theorem ia_59 (h : WF S R) {n : Nat} (hn : n < 96) : h_ia S 59 0 (nI n) = true := wf_ia h (by decide) rfl hn (by decide)
theorem is_60 (h : WF S R) : h_is S 60 1 10 = true := wf_is h (by decide) rfl
theorem is_61 (h : WF S R) : h_is S 61 100 96 = true := wf_is h (by decide) rfl
theorem ia_61 (h : WF S R) {n : Nat} (hn : n < 96) : h_ia S 61 0 (nI n) = true := wf_ia h (by decide) rfl hn (by decide)
theorem is_62 (h : WF S R) : h_is S 62 106 4 = true := wf_is h (by decide) rfl
theorem ia_62 (h : WF S R) {n : Nat} (hn : n < 4) : h_ia S 62 6 (nI n) = true := wf_ia h (by decide) rfl hn (by decide)
theorem is_63 (h : WF S R) : h_is S 63 107 5 = true := wf_is h (by decide) rfl
theorem ia_63 (h : WF S R) {n : Nat} (hn : n < 5) : h_ia S 63 7 (nI n) = true := wf_ia h (by decide) rfl hn (by decide)
theorem is_64 (h : WF S R) : h_is S 64 100 60 = true := wf_is h (by decide) rfl
theorem ia_64 (h : WF S R) {n : Nat} (hn : n < 60) : h_ia S 64 0 (nI n) = true := wf_ia h (by decide) rfl hn (by decide)
theorem is_65 (h : WF S R) : h_is S 65 2 3 = true := wf_is h (by decide) rfl
theorem is_66 (h : WF S R) : h_is S 66 100 24 = true := wf_is h (by decide) rfl
theorem ia_66 (h : WF S R) {n : Nat} (hn : n < 24) : h_ia S 66 0 (nI n) = true := wf_ia h (by decide) rfl hn (by decide)
theorem is_67 (h : WF S R) : h_is S 67 2 3 = true := wf_is h (by decide) rfl
theorem is_68 (h : WF S R) : h_is S 68 100 24 = true := wf_is h (by decide) rfl
theorem ia_68 (h : WF S R) {n : Nat} (hn : n < 24) : h_ia S 68 0 (nI n) = true := wf_ia h (by decide) rfl hn (by decide)
theorem is_69 (h : WF S R) : h_is S 69 2 3 = true := wf_is h (by decide) rfl
theorem is_70 (h : WF S R) : h_is S 70 100 24 = true := wf_is h (by decide) rfl
theorem ia_70 (h : WF S R) {n : Nat} (hn : n < 24) : h_ia S 70 0 (nI n) = true := wf_ia h (by decide) rfl hn (by decide)
theorem is_71 (h : WF S R) : h_is S 71 2 3 = true := wf_is h (by decide) rfl
theorem is_72 (h : WF S R) : h_is S 72 100 24 = true := wf_is h (by decide) rfl
theorem ia_72 (h : WF S R) {n : Nat} (hn : n < 24) : h_ia S 72 0 (nI n) = true := wf_ia h (by decide) rfl hn (by decide)
theorem is_73 (h : WF S R) : h_is S 73 4 4 = true := wf_is h (by decide) rfl
theorem is_74 (h : WF S R) : h_is S 74 7 6 = true := wf_is h (by decide) rfl
theorem is_75 (h : WF S R) : h_is S 75 2 3 = true := wf_is h (by decide) rfl
theorem is_76 (h : WF S R) : h_is S 76 100 24 = true := wf_is h (by decide) rfl
theorem ia_76 (h : WF S R) {n : Nat} (hn : n < 24) : h_ia S 76 0 (nI n) = true := wf_ia h (by decide) rfl hn (by decide)
theorem is_77 (h : WF S R) : h_is S 77 4 4 = true := wf_is h (by decide) rfl
theorem is_78 (h : WF S R) : h_is S 78 7 6 = true := wf_is h (by decide) rfl
theorem is_79 (h : WF S R) : h_is S 79 2 3 = true := wf_is h (by decide) rfl
theorem is_80 (h : WF S R) : h_is S 80 100 24 = true := wf_is h (by decide) rfl
theorem ia_80 (h : WF S R) {n : Nat} (hn : n < 24) : h_ia S 80 0 (nI n) = true := wf_ia h (by decide) rfl hn (by decide)
theorem is_81 (h : WF S R) : h_is S 81 4 4 = true := wf_is h (by decide) rfl
theorem is_82 (h : WF S R) : h_is S 82 7 6 = true := wf_is h (by decide) rfl
theorem is_83 (h : WF S R) : h_is S 83 2 3 = true := wf_is h (by decide) rfl
theorem is_84 (h : WF S R) : h_is S 84 100 24 = true := wf_is h (by decide) rfl
theorem ia_84 (h : WF S R) {n : Nat} (hn : n < 24) : h_ia S 84 0 (nI n) = true := wf_ia h (by decide) rfl hn (by decide)
theorem is_85 (h : WF S R) : h_is S 85 4 4 = true := wf_is h (by decide) rfl
theorem is_86 (h : WF S R) : h_is S 86 7 6 = true := wf_is h (by decide) rfl
theorem is_87 (h : WF S R) : h_is S 87 2 3 = true := wf_is h (by decide) rfl
theorem is_88 (h : WF S R) : h_is S 88 100 24 = true := wf_is h (by decide) rfl
theorem ia_88 (h : WF S R) {n : Nat} (hn : n < 24) : h_ia S 88 0 (nI n) = true := wf_ia h (by decide) rfl hn (by decide)
theorem is_89 (h : WF S R) : h_is S 89 4 4 = true := wf_is h (by decide) rfl
theorem is_90 (h : WF S R) : h_is S 90 7 6 = true := wf_is h (by decide) rfl
theorem is_91 (h : WF S R) : h_is S 91 2 3 = true := wf_is h (by decide) rfl
theorem is_92 (h : WF S R) : h_is S 92 100 24 = true := wf_is h (by decide) rfl
theorem ia_92 (h : WF S R) {n : Nat} (hn : n < 24) : h_ia S 92 0 (nI n) = true := wf_ia h (by decide) rfl hn (by decide)
theorem is_93 (h : WF S R) : h_is S 93 9 36 = true := wf_is h (by decide) rfl
theorem is_94 (h : WF S R) : h_is S 94 100 1464 = true := wf_is h (by decide) rfl
theorem ia_94 (h : WF S R) {n : Nat} (hn : n < 1464) : h_ia S 94 0 (nI n) = true := wf_ia h (by decide) rfl hn (by decide)
theorem is_95 (h : WF S R) : h_is S 95 100 1464 = true := wf_is h (by decide) rfl
theorem ia_95 (h : WF S R) {n : Nat} (hn : n < 1464) : h_ia S 95 0 (nI n) = true := wf_ia h (by decide) rfl hn (by decide)
theorem is_96 (h : WF S R) : h_is S 96 100 1464 = true := wf_is h (by decide) rfl
theorem ia_96 (h : WF S R) {n : Nat} (hn : n < 1464) : h_ia S 96 0 (nI n) = true := wf_ia h (by decide) rfl hn (by decide)
theorem is_97 (h : WF S R) : h_is S 97 100 92 = true := wf_is h (by decide) rfl
theorem ia_97 (h : WF S R) {n : Nat} (hn : n < 92) : h_ia S 97 0 (nI n) = true := wf_ia h (by decide) rfl hn (by decide)
theorem is_98 (h : WF S R) : h_is S 98 100 544 = true := wf_is h (by decide) rfl
theorem ia_98 (h : WF S R) {n : Nat} (hn : n < 544) : h_ia S 98 0 (nI n) = true := wf_ia h (by decide) rfl hn (by decide)
theorem is_99 (h : WF S R) : h_is S 99 100 30 = true := wf_is h (by decide) rfl
theorem ia_99 (h : WF S R) {n : Nat} (hn : n < 30) : h_ia S 99 0 (nI n) = true := wf_ia h (by decide) rfl hn (by decide)
theorem is_100 (h : WF S R) : h_is S 100 100 14 = true := wf_is h (by decide) rfl
theorem ia_100 (h : WF S R) {n : Nat} (hn : n < 14) : h_ia S 100 0 (nI n) = true := wf_ia h (by decide) rfl hn (by decide)
theorem is_101 (h : WF S R) : h_is S 101 100 96 = true := wf_is h (by decide) rfl
theorem ia_101 (h : WF S R) {n : Nat} (hn : n < 96) : h_ia S 101 0 (nI n) = true := wf_ia h (by decide) rfl hn (by decide)
theorem is_102 (h : WF S R) : h_is S 102 102 11 = true := wf_is h (by decide) rfl
theorem ia_102 (h : WF S R) {n : Nat} (hn : n < 11) : h_ia S 102 2 (nI n) = true := wf_ia h (by decide) rfl hn (by decide)
theorem is_103 (h : WF S R) : h_is S 103 100 4 = true := wf_is h (by decide) rfl
theorem ia_103 (h : WF S R) {n : Nat} (hn : n < 4) : h_ia S 103 0 (nI n) = true := wf_ia h (by decide) rfl hn (by decide)
theorem is_104 (h : WF S R) : h_is S 104 100 96 = true := wf_is h (by decide) rfl
theorem ia_104 (h : WF S R) {n : Nat} (hn : n < 96) : h_ia S 104 0 (nI n) = true := wf_ia h (by decide) rfl hn (by decide)
theorem is_105 (h : WF S R) : h_is S 105 100 96 = true := wf_is h (by decide) rfl
theorem ia_105 (h : WF S R) {n : Nat} (hn : n < 96) : h_ia S 105 0 (nI n) = true := wf_ia h (by decide) rfl hn (by decide)
theorem is_106 (h : WF S R) : h_is S 106 101 10 = true := wf_is h (by decide) rfl
theorem ia_106 (h : WF S R) {n : Nat} (hn : n < 10) : h_ia S 106 1 (nI n) = true := wf_ia h (by decide) rfl hn (by decide)
theorem is_107 (h : WF S R) : h_is S 107 100 96 = true := wf_is h (by decide) rfl
theorem ia_107 (h : WF S R) {n : Nat} (hn : n < 96) : h_ia S 107 0 (nI n) = true := wf_ia h (by decide) rfl hn (by decide)
theorem is_108 (h : WF S R) : h_is S 108 100 4 = true := wf_is h (by decide) rfl
theorem ia_108 (h : WF S R) {n : Nat} (hn : n < 4) : h_ia S 108 0 (nI n) = true := wf_ia h (by decide) rfl hn (by decide)
theorem is_109 (h : WF S R) : h_is S 109 100 4 = true := wf_is h (by decide) rfl
theorem ia_109 (h : WF S R) {n : Nat} (hn : n < 4) : h_ia S 109 0 (nI n) = true := wf_ia h (by decide) rfl hn (by decide)
theorem is_110 (h : WF S R) : h_is S 110 100 4 = true := wf_is h (by decide) rfl
theorem ia_110 (h : WF S R) {n : Nat} (hn : n < 4) : h_ia S 110 0 (nI n) = true := wf_ia h (by decide) rfl hn (by decide)
theorem is_111 (h : WF S R) : h_is S 111 100 96 = true := wf_is h (by decide) rfl
theorem ia_111 (h : WF S R) {n : Nat} (hn : n < 96) : h_ia S 111 0 (nI n) = true := wf_ia h (by decide) rfl hn (by decide)
theorem is_112 (h : WF S R) : h_is S 112 100 5 = true := wf_is h (by decide) rfl
theorem ia_112 (h : WF S R) {n : Nat} (hn : n < 5) : h_ia S 112 0 (nI n) = true := wf_ia h (by decide) rfl hn (by decide)
theorem is_113 (h : WF S R) : h_is S 113 100 5 = true := wf_is h (by decide) rfl
theorem ia_113 (h : WF S R) {n : Nat} (hn : n < 5) : h_ia S 113 0 (nI n) = true := wf_ia h (by decide) rfl hn (by decide)
theorem is_114 (h : WF S R) : h_is S 114 100 5 = true := wf_is h (by decide) rfl
theorem ia_114 (h : WF S R) {n : Nat} (hn : n < 5) : h_ia S 114 0 (nI n) = true := wf_ia h (by decide) rfl hn (by decide)
theorem is_115 (h : WF S R) : h_is S 115 100 120 = true := wf_is h (by decide) rfl
theorem ia_115 (h : WF S R) {n : Nat} (hn : n < 120) : h_ia S 115 0 (nI n) = true := wf_ia h (by decide) rfl hn (by decide)
theorem is_116 (h : WF S R) : h_is S 116 100 24 = true := wf_is h (by decide) rfl
theorem ia_116 (h : WF S R) {n : Nat} (hn : n < 24) : h_ia S 116 0 (nI n) = true := wf_ia h (by decide) rfl hn (by decide)
theorem is_117 (h : WF S R) : h_is S 117 100 60 = true := wf_is h (by decide) rfl
theorem ia_117 (h : WF S R) {n : Nat} (hn : n < 60) : h_ia S 117 0 (nI n) = true := wf_ia h (by decide) rfl hn (by decide)
theorem rf_0_0 (h : WF S R) : R 0 0 = .inl (some 1) := wf_R h 0 rfl
theorem rf_0_1 (h : WF S R) : R 0 1 = .inl (some 19) := wf_R h 1 rfl
theorem rf_0_2 (h : WF S R) : R 0 2 = .inl (some 37) := wf_R h 2 rfl
theorem rf_0_3 (h : WF S R) : R 0 3 = .inl (some 58) := wf_R h 3 rfl
theorem rf_0_4 (h : WF S R) : R 0 4 = .inl (some 60) := wf_R h 4 rfl
theorem rf_0_5 (h : WF S R) : R 0 5 = .inl (some 62) := wf_R h 5 rfl
theorem rf_0_6 (h : WF S R) : R 0 6 = .inl (some 63) := wf_R h 6 rfl
theorem rf_0_7 (h : WF S R) : R 0 7 = .inl (some 64) := wf_R h 7 rfl
theorem rf_1_0 (h : WF S R) : R 1 0 = .inl (some 2) := wf_R h 8 rfl
theorem rf_1_1 (h : WF S R) : R 1 1 = .inl (some 3) := wf_R h 9 rfl
theorem rf_1_2 (h : WF S R) : R 1 2 = .inl (some 4) := wf_R h 10 rfl
theorem rf_2_0 (h : WF S R) : R 2 0 = .inl (some 5) := wf_R h 11 rfl
theorem rf_2_1 (h : WF S R) : R 2 1 = .inl (some 6) := wf_R h 12 rfl
theorem rf_2_2 (h : WF S R) : R 2 2 = .inl (some 7) := wf_R h 13 rfl
theorem rf_2_3 (h : WF S R) : R 2 3 = .inl (some 8) := wf_R h 14 rfl
theorem rf_2_4 (h : WF S R) : R 2 4 = .inl (some 9) := wf_R h 15 rfl
theorem rf_2_5 (h : WF S R) : R 2 5 = .inl (some 10) := wf_R h 16 rfl
theorem rf_2_6 (h : WF S R) : R 2 6 = .inl (some 11) := wf_R h 17 rfl
theorem rf_2_7 (h : WF S R) : R 2 7 = .inl (some 12) := wf_R h 18 rfl
theorem rf_2_8 (h : WF S R) : R 2 8 = .inl (some 13) := wf_R h 19 rfl
theorem rf_2_9 (h : WF S R) : R 2 9 = .inl (some 14) := wf_R h 20 rfl
theorem rf_2_10 (h : WF S R) : R 2 10 = .inl (some 15) := wf_R h 21 rfl
theorem rf_2_11 (h : WF S R) : R 2 11 = .inl (some 16) := wf_R h 22 rfl
theorem rf_2_12 (h : WF S R) : R 2 12 = .inl (some 17) := wf_R h 23 rfl
theorem rf_2_13 (h : WF S R) : R 2 13 = .inl (some 18) := wf_R h 24 rfl
theorem rf_19_0 (h : WF S R) : R 19 0 = .inl (some 20) := wf_R h 25 rfl
theorem rf_19_1 (h : WF S R) : R 19 1 = .inl (some 21) := wf_R h 26 rfl
theorem rf_19_2 (h : WF S R) : R 19 2 = .inl (some 22) := wf_R h 27 rfl
theorem rf_20_0 (h : WF S R) : R 20 0 = .inl (some 23) := wf_R h 28 rfl
theorem rf_20_1 (h : WF S R) : R 20 1 = .inl (some 24) := wf_R h 29 rfl
theorem rf_20_2 (h : WF S R) : R 20 2 = .inl (some 25) := wf_R h 30 rfl
theorem rf_20_3 (h : WF S R) : R 20 3 = .inl (some 26) := wf_R h 31 rfl
theorem rf_20_4 (h : WF S R) : R 20 4 = .inl (some 27) := wf_R h 32 rfl
theorem rf_20_5 (h : WF S R) : R 20 5 = .inl (some 28) := wf_R h 33 rfl
theorem rf_20_6 (h : WF S R) : R 20 6 = .inl (some 29) := wf_R h 34 rfl
theorem rf_20_7 (h : WF S R) : R 20 7 = .inl (some 30) := wf_R h 35 rfl
theorem rf_20_8 (h : WF S R) : R 20 8 = .inl (some 31) := wf_R h 36 rfl
theorem rf_20_9 (h : WF S R) : R 20 9 = .inl (some 32) := wf_R h 37 rfl
theorem rf_20_10 (h : WF S R) : R 20 10 = .inl (some 33) := wf_R h 38 rfl
theorem rf_20_11 (h : WF S R) : R 20 11 = .inl (some 34) := wf_R h 39 rfl
theorem rf_20_12 (h : WF S R) : R 20 12 = .inl (some 35) := wf_R h 40 rfl
theorem rf_20_13 (h : WF S R) : R 20 13 = .inl (some 36) := wf_R h 41 rfl
theorem rf_37_0 (h : WF S R) : R 37 0 = .inl (some 38) := wf_R h 42 rfl
theorem rf_37_1 (h : WF S R) : R 37 1 = .inl (some 56) := wf_R h 43 rfl
theorem rf_37_2 (h : WF S R) : R 37 2 = .inl (some 57) := wf_R h 44 rfl
theorem rf_38_0 (h : WF S R) : R 38 0 = .inl (some 39) := wf_R h 45 rfl
theorem rf_38_1 (h : WF S R) : R 38 1 = .inl (some 40) := wf_R h 46 rfl
theorem rf_38_2 (h : WF S R) : R 38 2 = .inl (some 41) := wf_R h 47 rfl
theorem rf_39_0 (h : WF S R) : R 39 0 = .inl (some 42) := wf_R h 48 rfl
theorem rf_39_1 (h : WF S R) : R 39 1 = .inl (some 43) := wf_R h 49 rfl
theorem rf_39_2 (h : WF S R) : R 39 2 = .inl (some 44) := wf_R h 50 rfl
theorem rf_39_3 (h : WF S R) : R 39 3 = .inl (some 45) := wf_R h 51 rfl
theorem rf_39_4 (h : WF S R) : R 39 4 = .inl (some 46) := wf_R h 52 rfl
theorem rf_39_5 (h : WF S R) : R 39 5 = .inl (some 47) := wf_R h 53 rfl
theorem rf_39_6 (h : WF S R) : R 39 6 = .inl (some 48) := wf_R h 54 rfl
theorem rf_39_7 (h : WF S R) : R 39 7 = .inl (some 49) := wf_R h 55 rfl
theorem rf_39_8 (h : WF S R) : R 39 8 = .inl (some 50) := wf_R h 56 rfl
theorem rf_39_9 (h : WF S R) : R 39 9 = .inl (some 51) := wf_R h 57 rfl
theorem rf_39_10 (h : WF S R) : R 39 10 = .inl (some 52) := wf_R h 58 rfl
theorem rf_39_11 (h : WF S R) : R 39 11 = .inl (some 53) := wf_R h 59 rfl
theorem rf_39_12 (h : WF S R) : R 39 12 = .inl (some 54) := wf_R h 60 rfl
theorem rf_39_13 (h : WF S R) : R 39 13 = .inl (some 55) := wf_R h 61 rfl
theorem rf_58_0 (h : WF S R) : R 58 0 = .inl (some 59) := wf_R h 62 rfl
theorem rf_60_0 (h : WF S R) : R 60 0 = .inl (some 58) := wf_R h 63 rfl
theorem rf_60_1 (h : WF S R) : R 60 1 = .inl (some 61) := wf_R h 64 rfl
theorem rf_62_0 (h : WF S R) : R 62 0 = .inl (some 65) := wf_R h 65 rfl
theorem rf_62_1 (h : WF S R) : R 62 1 = .inl (some 67) := wf_R h 66 rfl
theorem rf_62_2 (h : WF S R) : R 62 2 = .inl (some 69) := wf_R h 67 rfl
theorem rf_62_3 (h : WF S R) : R 62 3 = .inl (some 71) := wf_R h 68 rfl
theorem rf_63_0 (h : WF S R) : R 63 0 = .inl (some 73) := wf_R h 69 rfl
theorem rf_63_1 (h : WF S R) : R 63 1 = .inl (some 77) := wf_R h 70 rfl
theorem rf_63_2 (h : WF S R) : R 63 2 = .inl (some 81) := wf_R h 71 rfl
theorem rf_63_3 (h : WF S R) : R 63 3 = .inl (some 85) := wf_R h 72 rfl
theorem rf_63_4 (h : WF S R) : R 63 4 = .inl (some 89) := wf_R h 73 rfl
theorem rf_65_0 (h : WF S R) : R 65 0 = .inl (some 66) := wf_R h 74 rfl
theorem rf_67_0 (h : WF S R) : R 67 0 = .inl (some 68) := wf_R h 75 rfl
theorem rf_69_0 (h : WF S R) : R 69 0 = .inl (some 70) := wf_R h 76 rfl
theorem rf_71_0 (h : WF S R) : R 71 0 = .inl (some 72) := wf_R h 77 rfl
theorem rf_73_0 (h : WF S R) : R 73 0 = .inl (some 74) := wf_R h 78 rfl
theorem rf_73_1 (h : WF S R) : R 73 1 = .inl (some 75) := wf_R h 79 rfl
theorem rf_75_0 (h : WF S R) : R 75 0 = .inl (some 76) := wf_R h 80 rfl
theorem rf_77_0 (h : WF S R) : R 77 0 = .inl (some 78) := wf_R h 81 rfl
theorem rf_77_1 (h : WF S R) : R 77 1 = .inl (some 79) := wf_R h 82 rfl
theorem rf_79_0 (h : WF S R) : R 79 0 = .inl (some 80) := wf_R h 83 rfl
theorem rf_81_0 (h : WF S R) : R 81 0 = .inl (some 82) := wf_R h 84 rfl
theorem rf_81_1 (h : WF S R) : R 81 1 = .inl (some 83) := wf_R h 85 rfl
theorem rf_83_0 (h : WF S R) : R 83 0 = .inl (some 84) := wf_R h 86 rfl
theorem rf_85_0 (h : WF S R) : R 85 0 = .inl (some 86) := wf_R h 87 rfl
theorem rf_85_1 (h : WF S R) : R 85 1 = .inl (some 87) := wf_R h 88 rfl
theorem rf_87_0 (h : WF S R) : R 87 0 = .inl (some 88) := wf_R h 89 rfl
theorem rf_89_0 (h : WF S R) : R 89 0 = .inl (some 90) := wf_R h 90 rfl
theorem rf_89_1 (h : WF S R) : R 89 1 = .inl (some 91) := wf_R h 91 rfl
theorem rf_91_0 (h : WF S R) : R 91 0 = .inl (some 92) := wf_R h 92 rfl
theorem rf_93_0 (h : WF S R) : R 93 0 = .inl (some 94) := wf_R h 93 rfl
theorem rf_93_1 (h : WF S R) : R 93 1 = .inl (some 95) := wf_R h 94 rfl
theorem rf_93_2 (h : WF S R) : R 93 2 = .inl (some 96) := wf_R h 95 rfl
theorem rf_93_4 (h : WF S R) : R 93 4 = .inl (some 97) := wf_R h 96 rfl
theorem rf_93_5 (h : WF S R) : R 93 5 = .inl (some 98) := wf_R h 97 rfl
theorem rf_93_6 (h : WF S R) : R 93 6 = .inl (some 99) := wf_R h 98 rfl
theorem rf_93_7 (h : WF S R) : R 93 7 = .inl (some 100) := wf_R h 99 rfl
theorem rf_93_8 (h : WF S R) : R 93 8 = .inl (some 101) := wf_R h 100 rfl
theorem rf_93_16 (h : WF S R) : R 93 16 = .inl (some 102) := wf_R h 101 rfl
theorem rf_93_17 (h : WF S R) : R 93 17 = .inl (some 103) := wf_R h 102 rfl
theorem rf_93_18 (h : WF S R) : R 93 18 = .inl (some 104) := wf_R h 103 rfl
theorem rf_93_21 (h : WF S R) : R 93 21 = .inl (some 105) := wf_R h 104 rfl
theorem rf_93_23 (h : WF S R) : R 93 23 = .inl (some 106) := wf_R h 105 rfl
theorem rf_93_24 (h : WF S R) : R 93 24 = .inl (some 107) := wf_R h 106 rfl
theorem rf_93_25 (h : WF S R) : R 93 25 = .inl (some 108) := wf_R h 107 rfl
theorem rf_93_26 (h : WF S R) : R 93 26 = .inl (some 109) := wf_R h 108 rfl
theorem rf_93_27 (h : WF S R) : R 93 27 = .inl (some 110) := wf_R h 109 rfl
theorem rf_93_28 (h : WF S R) : R 93 28 = .inl (some 111) := wf_R h 110 rfl
theorem rf_93_29 (h : WF S R) : R 93 29 = .inl (some 112) := wf_R h 111 rfl
theorem rf_93_30 (h : WF S R) : R 93 30 = .inl (some 113) := wf_R h 112 rfl
theorem rf_93_31 (h : WF S R) : R 93 31 = .inl (some 114) := wf_R h 113 rfl
theorem rf_93_32 (h : WF S R) : R 93 32 = .inl (some 115) := wf_R h 114 rfl
theorem rf_93_33 (h : WF S R) : R 93 33 = .inl (some 116) := wf_R h 115 rfl
theorem rf_93_34 (h : WF S R) : R 93 34 = .inl (some 117) := wf_R h 116 rfl
end LAY

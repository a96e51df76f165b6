/-! TEXTS: what a word is; reading by levels -/
def sgS (b : Int32) : Int32 := if b = 124 then -1 else if b = 38 then -2 else if b = 60 then -3 else if b = 61 then -4 else if b = 62 then -5 else if b = 43 then -6 else if b = 45 then -7 else if b = 42 then -8 else if b = 47 then -9 else 0
def nvS (T : Nat → Int32) (a : Nat) : Nat → Int32
  | 0 => 0
  | j + 1 => 10 * nvS T a j + T (a + j) - 48
def nmW (key : Nat) (c : Int32) : Int32 := ixW (11 + 2 * key) c (lW (11 + 2 * key)) 0
/-- a sign -/
def tkb (b : Int32) : Nat × Int32 := if b = 33 then (2, 0) else if b = 40 then (3, 0) else if b = 41 then (4, 0) else if sgS b = 0 then (6, 0) else (5, sgS b)
/-- the word i: 0 the end, 1 a number or a name, 2 a not, 3 and 4 rounds, 5 a sign between two, 6 else -/
def tk (T : Nat → Int32) (n key i : Nat) : Nat × Int32 := if tC T n i = 3 then (0, 0) else if tC T n i = 2 then (if tG T n i ∨ 4 < tB T n i - tA T n i then (6, 0) else (1, nvS T (tA T n i) (tB T n i - tA T n i))) else if tC T n i = 1 then (if tG T n i ∨ tB T n i - tA T n i ≠ 1 ∨ nmW key (T (tA T n i)) < 0 then (6, 0) else (1, 10000 + nmW key (T (tA T n i)))) else tkb (T (tA T n i))
def lvS (s : Int32) : Nat := if s = -1 then 0 else if s = -2 then 1 else if s = -3 ∨ s = -4 ∨ s = -5 then 2 else if s = -6 ∨ s = -7 then 3 else 4
def jn (t : Nat × Int32) (lev : Nat) : Bool := decide (t.1 = 5 ∧ lvS t.2 = lev)
abbrev rR : Type := Nat ⊕ (Nat × List Int32)
def rdl (tc : Nat → Nat × Int32) (lev : Nat) (g : Nat → rR) : Nat → Nat → List Int32 → rR
  | 0, j, D => .inr (j, D)
  | k + 1, j, D => if jn (tc j) lev = true then (match g (j + 1) with | .inl x => .inl x | .inr (j2, E) => rdl tc lev g k j2 (D ++ E ++ [(tc j).2])) else .inr (j, D)
def rd (tc : Nat → Nat × Int32) : Nat → Nat → Nat → Nat → Nat → rR
  | 0, _, _, _, i => .inl i
  | f + 1, lev, o, n, i => if lev = 5 then
      (if (tc i).1 = 1 then .inr (i + 1, [(tc i).2])
       else if (tc i).1 = 2 ∧ n < 8 then (match rd tc f 5 o (n + 1) (i + 1) with | .inl j => .inl j | .inr (j, D) => .inr (j, D ++ [-10]))
       else if (tc i).1 = 3 ∧ o < 8 then (match rd tc f 0 (o + 1) n (i + 1) with | .inl j => .inl j | .inr (j, D) => if (tc j).1 = 4 then .inr (j + 1, D) else .inl j)
       else .inl i)
    else (match rd tc f (lev + 1) o n i with | .inl j => .inl j | .inr (j, D) => rdl tc lev (fun k => rd tc f (lev + 1) o n k) (if lev = 2 then 1 else 96) j D)
def atm : List Int32 → Nat
  | [] => 0
  | c :: D => (if c < 0 then 0 else 1) + atm D
theorem atm_app : ∀ (D E : List Int32), atm (D ++ E) = atm D + atm E
  | [], E => by show atm E = 0 + atm E; omega
  | c :: D, E => by
    show (if c < 0 then 0 else 1) + atm (D ++ E) = _
    rw [atm_app D E]
    show _ = (if c < 0 then 0 else 1) + atm D + atm E
    omega
theorem atm_le : ∀ (D : List Int32), atm D ≤ D.length
  | [] => Nat.le_refl _
  | c :: D => by
    have := atm_le D
    show (if c < 0 then 0 else 1) + atm D ≤ D.length + 1
    split <;> omega
theorem ga_l {D E : List Int32} {k : Nat} (h : k < D.length) : (D ++ E).getD k 0 = D.getD k 0 := by
  rw [List.getD_eq_getElem?_getD, List.getD_eq_getElem?_getD, List.getElem?_append_left h]
theorem ga_r {D : List Int32} {c : Int32} : (D ++ [c]).getD D.length 0 = c := by
  rw [List.getD_eq_getElem?_getD, List.getElem?_append_right (Nat.le_refl _), Nat.sub_self]
  rfl
/-- what reading leaves -/
theorem rdl_b {tc : Nat → Nat × Int32} {lev i : Nat} {g : Nat → rR} (hg : ∀ i j E, g i = .inr (j, E) → i + E.length ≤ j ∧ i < j ∧ (tc (j - 1)).1 ≠ 0) : ∀ (k j : Nat) (D : List Int32), i + D.length ≤ j → i < j → (tc (j - 1)).1 ≠ 0 → ∀ j2 E, rdl tc lev g k j D = .inr (j2, E) → i + E.length ≤ j2 ∧ i < j2 ∧ (tc (j2 - 1)).1 ≠ 0
  | 0, j, D, h1, h2, h3, j2, E, e => by
    cases e
    exact ⟨h1, h2, h3⟩
  | k + 1, j, D, h1, h2, h3, j2, E, e => by
    unfold rdl at e
    split at e
    · cases hx : g (j + 1) with
      | inl x => rw [hx] at e; cases e
      | inr v =>
        obtain ⟨j3, E3⟩ := v
        rw [hx] at e
        obtain ⟨g1, g2, g3⟩ := hg _ _ _ hx
        exact rdl_b hg k j3 _ (by simp only [List.length_append, List.length_cons, List.length_nil]; omega) (by omega) g3 j2 E e
    · cases e
      exact ⟨h1, h2, h3⟩
theorem rd_b {tc : Nat → Nat × Int32} : ∀ (f lev o n i j : Nat) (E : List Int32), rd tc f lev o n i = .inr (j, E) → i + E.length ≤ j ∧ i < j ∧ (tc (j - 1)).1 ≠ 0
  | 0, _, _, _, _, _, _, e => by cases e
  | f + 1, lev, o, n, i, j, E, e => by
    unfold rd at e
    split at e
    · split at e
      · rename_i h1
        cases e
        exact ⟨Nat.le_refl _, by omega, by rw [Nat.add_sub_cancel, h1]; decide⟩
      · split at e
        · cases hx : rd tc f 5 o (n + 1) (i + 1) with
          | inl x => rw [hx] at e; cases e
          | inr v =>
            obtain ⟨j3, E3⟩ := v
            rw [hx] at e
            obtain ⟨g1, g2, g3⟩ := rd_b f _ _ _ _ _ _ hx
            cases e
            exact ⟨by simp only [List.length_append, List.length_cons, List.length_nil]; omega, by omega, g3⟩
        · split at e
          · cases hx : rd tc f 0 (o + 1) n (i + 1) with
            | inl x => rw [hx] at e; cases e
            | inr v =>
              obtain ⟨j3, E3⟩ := v
              rw [hx] at e
              obtain ⟨g1, g2, g3⟩ := rd_b f _ _ _ _ _ _ hx
              simp only at e
              split at e
              · rename_i h4
                cases e
                exact ⟨by omega, by omega, by rw [Nat.add_sub_cancel, h4]; decide⟩
              · cases e
          · cases e
    · cases hx : rd tc f (lev + 1) o n i with
      | inl x => rw [hx] at e; cases e
      | inr v =>
        obtain ⟨j3, E3⟩ := v
        rw [hx] at e
        obtain ⟨g1, g2, g3⟩ := rd_b f _ _ _ _ _ _ hx
        exact rdl_b (fun i j E h => rd_b f _ _ _ _ _ _ h) _ _ _ g1 g2 g3 j E e
theorem tkb_0 (b : Int32) : (tkb b).1 ≠ 0 ∧ (tkb b).1 ≠ 1 := by
  unfold tkb
  repeat' split
  all_goals (constructor <;> (show (_ : Nat) ≠ _) <;> simp)
theorem tkb_2 (b : Int32) : (tkb b).1 = 2 ↔ b = 33 := by
  by_cases h33 : b = 33
  · subst h33; decide
  by_cases h40 : b = 40
  · subst h40; decide
  by_cases h41 : b = 41
  · subst h41; decide
  by_cases h124 : b = 124
  · subst h124; decide
  by_cases h38 : b = 38
  · subst h38; decide
  by_cases h60 : b = 60
  · subst h60; decide
  by_cases h61 : b = 61
  · subst h61; decide
  by_cases h62 : b = 62
  · subst h62; decide
  by_cases h43 : b = 43
  · subst h43; decide
  by_cases h45 : b = 45
  · subst h45; decide
  by_cases h42 : b = 42
  · subst h42; decide
  by_cases h47 : b = 47
  · subst h47; decide
  have e : (tkb b).1 = 6 := by unfold tkb sgS; simp only [h33, h40, h41, h124, h38, h60, h61, h62, h43, h45, h42, h47, if_false, if_true]
  rw [e]
  exact ⟨fun q => absurd q (by decide), fun q => absurd q h33⟩
theorem tkb_3 (b : Int32) : (tkb b).1 = 3 ↔ b = 40 := by
  by_cases h33 : b = 33
  · subst h33; decide
  by_cases h40 : b = 40
  · subst h40; decide
  by_cases h41 : b = 41
  · subst h41; decide
  by_cases h124 : b = 124
  · subst h124; decide
  by_cases h38 : b = 38
  · subst h38; decide
  by_cases h60 : b = 60
  · subst h60; decide
  by_cases h61 : b = 61
  · subst h61; decide
  by_cases h62 : b = 62
  · subst h62; decide
  by_cases h43 : b = 43
  · subst h43; decide
  by_cases h45 : b = 45
  · subst h45; decide
  by_cases h42 : b = 42
  · subst h42; decide
  by_cases h47 : b = 47
  · subst h47; decide
  have e : (tkb b).1 = 6 := by unfold tkb sgS; simp only [h33, h40, h41, h124, h38, h60, h61, h62, h43, h45, h42, h47, if_false, if_true]
  rw [e]
  exact ⟨fun q => absurd q (by decide), fun q => absurd q h40⟩
theorem tkb_4 (b : Int32) : (tkb b).1 = 4 ↔ b = 41 := by
  by_cases h33 : b = 33
  · subst h33; decide
  by_cases h40 : b = 40
  · subst h40; decide
  by_cases h41 : b = 41
  · subst h41; decide
  by_cases h124 : b = 124
  · subst h124; decide
  by_cases h38 : b = 38
  · subst h38; decide
  by_cases h60 : b = 60
  · subst h60; decide
  by_cases h61 : b = 61
  · subst h61; decide
  by_cases h62 : b = 62
  · subst h62; decide
  by_cases h43 : b = 43
  · subst h43; decide
  by_cases h45 : b = 45
  · subst h45; decide
  by_cases h42 : b = 42
  · subst h42; decide
  by_cases h47 : b = 47
  · subst h47; decide
  have e : (tkb b).1 = 6 := by unfold tkb sgS; simp only [h33, h40, h41, h124, h38, h60, h61, h62, h43, h45, h42, h47, if_false, if_true]
  rw [e]
  exact ⟨fun q => absurd q (by decide), fun q => absurd q h41⟩
theorem jn_0 (b : Int32) : (jn (tkb b) 0 = true) ↔ (b = 124) := by
  by_cases h33 : b = 33
  · subst h33; decide
  by_cases h40 : b = 40
  · subst h40; decide
  by_cases h41 : b = 41
  · subst h41; decide
  by_cases h124 : b = 124
  · subst h124; decide
  by_cases h38 : b = 38
  · subst h38; decide
  by_cases h60 : b = 60
  · subst h60; decide
  by_cases h61 : b = 61
  · subst h61; decide
  by_cases h62 : b = 62
  · subst h62; decide
  by_cases h43 : b = 43
  · subst h43; decide
  by_cases h45 : b = 45
  · subst h45; decide
  by_cases h42 : b = 42
  · subst h42; decide
  by_cases h47 : b = 47
  · subst h47; decide
  have e : tkb b = (6, 0) := by unfold tkb sgS; simp only [h33, h40, h41, h124, h38, h60, h61, h62, h43, h45, h42, h47, if_false, if_true]
  rw [e]
  exact ⟨fun q => absurd q (by decide), fun q => absurd q (by simp only [h124, or_self, not_false_eq_true])⟩
theorem jn_1 (b : Int32) : (jn (tkb b) 1 = true) ↔ (b = 38) := by
  by_cases h33 : b = 33
  · subst h33; decide
  by_cases h40 : b = 40
  · subst h40; decide
  by_cases h41 : b = 41
  · subst h41; decide
  by_cases h124 : b = 124
  · subst h124; decide
  by_cases h38 : b = 38
  · subst h38; decide
  by_cases h60 : b = 60
  · subst h60; decide
  by_cases h61 : b = 61
  · subst h61; decide
  by_cases h62 : b = 62
  · subst h62; decide
  by_cases h43 : b = 43
  · subst h43; decide
  by_cases h45 : b = 45
  · subst h45; decide
  by_cases h42 : b = 42
  · subst h42; decide
  by_cases h47 : b = 47
  · subst h47; decide
  have e : tkb b = (6, 0) := by unfold tkb sgS; simp only [h33, h40, h41, h124, h38, h60, h61, h62, h43, h45, h42, h47, if_false, if_true]
  rw [e]
  exact ⟨fun q => absurd q (by decide), fun q => absurd q (by simp only [h38, or_self, not_false_eq_true])⟩
theorem jn_2 (b : Int32) : (jn (tkb b) 2 = true) ↔ (b = 60 ∨ b = 61 ∨ b = 62) := by
  by_cases h33 : b = 33
  · subst h33; decide
  by_cases h40 : b = 40
  · subst h40; decide
  by_cases h41 : b = 41
  · subst h41; decide
  by_cases h124 : b = 124
  · subst h124; decide
  by_cases h38 : b = 38
  · subst h38; decide
  by_cases h60 : b = 60
  · subst h60; decide
  by_cases h61 : b = 61
  · subst h61; decide
  by_cases h62 : b = 62
  · subst h62; decide
  by_cases h43 : b = 43
  · subst h43; decide
  by_cases h45 : b = 45
  · subst h45; decide
  by_cases h42 : b = 42
  · subst h42; decide
  by_cases h47 : b = 47
  · subst h47; decide
  have e : tkb b = (6, 0) := by unfold tkb sgS; simp only [h33, h40, h41, h124, h38, h60, h61, h62, h43, h45, h42, h47, if_false, if_true]
  rw [e]
  exact ⟨fun q => absurd q (by decide), fun q => absurd q (by simp only [h60, h61, h62, or_self, not_false_eq_true])⟩
theorem jn_3 (b : Int32) : (jn (tkb b) 3 = true) ↔ (b = 43 ∨ b = 45) := by
  by_cases h33 : b = 33
  · subst h33; decide
  by_cases h40 : b = 40
  · subst h40; decide
  by_cases h41 : b = 41
  · subst h41; decide
  by_cases h124 : b = 124
  · subst h124; decide
  by_cases h38 : b = 38
  · subst h38; decide
  by_cases h60 : b = 60
  · subst h60; decide
  by_cases h61 : b = 61
  · subst h61; decide
  by_cases h62 : b = 62
  · subst h62; decide
  by_cases h43 : b = 43
  · subst h43; decide
  by_cases h45 : b = 45
  · subst h45; decide
  by_cases h42 : b = 42
  · subst h42; decide
  by_cases h47 : b = 47
  · subst h47; decide
  have e : tkb b = (6, 0) := by unfold tkb sgS; simp only [h33, h40, h41, h124, h38, h60, h61, h62, h43, h45, h42, h47, if_false, if_true]
  rw [e]
  exact ⟨fun q => absurd q (by decide), fun q => absurd q (by simp only [h43, h45, or_self, not_false_eq_true])⟩
theorem jn_4 (b : Int32) : (jn (tkb b) 4 = true) ↔ (b = 42 ∨ b = 47) := by
  by_cases h33 : b = 33
  · subst h33; decide
  by_cases h40 : b = 40
  · subst h40; decide
  by_cases h41 : b = 41
  · subst h41; decide
  by_cases h124 : b = 124
  · subst h124; decide
  by_cases h38 : b = 38
  · subst h38; decide
  by_cases h60 : b = 60
  · subst h60; decide
  by_cases h61 : b = 61
  · subst h61; decide
  by_cases h62 : b = 62
  · subst h62; decide
  by_cases h43 : b = 43
  · subst h43; decide
  by_cases h45 : b = 45
  · subst h45; decide
  by_cases h42 : b = 42
  · subst h42; decide
  by_cases h47 : b = 47
  · subst h47; decide
  have e : tkb b = (6, 0) := by unfold tkb sgS; simp only [h33, h40, h41, h124, h38, h60, h61, h62, h43, h45, h42, h47, if_false, if_true]
  rw [e]
  exact ⟨fun q => absurd q (by decide), fun q => absurd q (by simp only [h42, h47, or_self, not_false_eq_true])⟩
theorem cv_sg (b : Int32) (h : (tkb b).1 = 5) : cvS (tkb b).2 = -b ∧ (tkb b).2 < 0 := by
  by_cases h33 : b = 33
  · subst h33; first | exact absurd h (by decide) | exact ⟨by decide, by decide⟩
  by_cases h40 : b = 40
  · subst h40; first | exact absurd h (by decide) | exact ⟨by decide, by decide⟩
  by_cases h41 : b = 41
  · subst h41; first | exact absurd h (by decide) | exact ⟨by decide, by decide⟩
  by_cases h124 : b = 124
  · subst h124; first | exact absurd h (by decide) | exact ⟨by decide, by decide⟩
  by_cases h38 : b = 38
  · subst h38; first | exact absurd h (by decide) | exact ⟨by decide, by decide⟩
  by_cases h60 : b = 60
  · subst h60; first | exact absurd h (by decide) | exact ⟨by decide, by decide⟩
  by_cases h61 : b = 61
  · subst h61; first | exact absurd h (by decide) | exact ⟨by decide, by decide⟩
  by_cases h62 : b = 62
  · subst h62; first | exact absurd h (by decide) | exact ⟨by decide, by decide⟩
  by_cases h43 : b = 43
  · subst h43; first | exact absurd h (by decide) | exact ⟨by decide, by decide⟩
  by_cases h45 : b = 45
  · subst h45; first | exact absurd h (by decide) | exact ⟨by decide, by decide⟩
  by_cases h42 : b = 42
  · subst h42; first | exact absurd h (by decide) | exact ⟨by decide, by decide⟩
  by_cases h47 : b = 47
  · subst h47; first | exact absurd h (by decide) | exact ⟨by decide, by decide⟩
  have e : tkb b = (6, 0) := by unfold tkb sgS; simp only [h33, h40, h41, h124, h38, h60, h61, h62, h43, h45, h42, h47, if_false, if_true]
  rw [e] at h
  exact absurd h (by decide)

/-! TEXTS: a row that is read can be worked out -/
def okC (c : Int32) : Bool := decide (c < 10000 ∨ c = nI (10000 + 0) ∨ c = nI (10000 + 1) ∨ c = nI (10000 + 2))
def dl : List Int32 → Nat → Option Nat
  | [], k => some k
  | c :: D, k => if c < 0 then (if c = -10 then (if 1 ≤ k then dl D k else none) else if 2 ≤ k then dl D (k - 1) else none) else if okC c = true then dl D (k + 1) else none
theorem dl_c {c : Int32} {D : List Int32} {k : Nat} : dl (c :: D) k = if c < 0 then (if c = -10 then (if 1 ≤ k then dl D k else none) else if 2 ≤ k then dl D (k - 1) else none) else if okC c = true then dl D (k + 1) else none := rfl
theorem dl_app : ∀ (D E : List Int32) (k : Nat), dl (D ++ E) k = (dl D k).bind (fun m => dl E m)
  | [], _, _ => rfl
  | c :: D, E, k => by
    show dl (c :: (D ++ E)) k = _
    rw [dl_c, dl_c]
    split
    · split
      · split
        · exact dl_app D E k
        · rfl
      · split
        · exact dl_app D E (k - 1)
        · rfl
    · split
      · exact dl_app D E (k + 1)
      · rfl
/-- what holds of the words -/
def okT (tc : Nat → Nat × Int32) : Prop := (∀ i, (tc i).1 = 1 → ¬ (tc i).2 < 0 ∧ okC (tc i).2 = true) ∧ ∀ i, (tc i).1 = 5 → (tc i).2 < 0 ∧ (tc i).2 ≠ -10
def gro (E : List Int32) : Prop := ∀ k, dl E k = some (k + 1)
theorem gro_2 {D E : List Int32} {s : Int32} (hD : gro D) (hE : gro E) (h1 : s < 0) (h2 : s ≠ -10) : gro (D ++ E ++ [s]) := by
  intro k
  rw [dl_app, dl_app, hD k]
  show (dl E (k + 1)).bind _ = _
  rw [hE]
  show dl [s] (k + 1 + 1) = _
  unfold dl
  rw [if_pos h1, if_neg h2, if_pos (by omega)]
  rfl
theorem rdl_g {tc : Nat → Nat × Int32} (ht : okT tc) {lev : Nat} {g : Nat → rR} (hg : ∀ i j E, g i = .inr (j, E) → gro E) : ∀ (k j : Nat) (D : List Int32), gro D → ∀ j2 E, rdl tc lev g k j D = .inr (j2, E) → gro E
  | 0, j, D, h1, j2, E, e => by cases e; exact h1
  | k + 1, j, D, h1, j2, E, e => by
    unfold rdl at e
    split at e
    · rename_i hj
      have j5 : (tc j).1 = 5 := (of_decide_eq_true hj).1
      cases hx : g (j + 1) with
      | inl x => rw [hx] at e; cases e
      | inr v =>
        obtain ⟨j3, E3⟩ := v
        rw [hx] at e
        exact rdl_g ht hg k j3 _ (gro_2 h1 (hg _ _ _ hx) (ht.2 j j5).1 (ht.2 j j5).2) j2 E e
    · cases e; exact h1
theorem rd_g {tc : Nat → Nat × Int32} (ht : okT tc) : ∀ (f lev o n i j : Nat) (E : List Int32), rd tc f lev o n i = .inr (j, E) → gro E
  | 0, _, _, _, _, _, _, e => by cases e
  | f + 1, lev, o, n, i, j, E, e => by
    unfold rd at e
    split at e
    · split at e
      · rename_i h1
        cases e
        intro k
        unfold dl
        rw [if_neg (ht.1 i h1).1, if_pos (ht.1 i h1).2]
        rfl
      · split at e
        · cases hx : rd tc f 5 o (n + 1) (i + 1) with
          | inl x => rw [hx] at e; cases e
          | inr v =>
            obtain ⟨j3, E3⟩ := v
            rw [hx] at e
            have g := rd_g ht f _ _ _ _ _ _ hx
            cases e
            intro k
            rw [dl_app, g k]
            show dl [-10] (k + 1) = _
            unfold dl
            rw [if_pos (by decide), if_pos rfl, if_pos (by omega)]
            rfl
        · split at e
          · cases hx : rd tc f 0 (o + 1) n (i + 1) with
            | inl x => rw [hx] at e; cases e
            | inr v =>
              obtain ⟨j3, E3⟩ := v
              rw [hx] at e
              have g := rd_g ht f _ _ _ _ _ _ hx
              simp only at e
              split at e
              · cases e; exact g
              · cases e
          · cases e
    · cases hx : rd tc f (lev + 1) o n i with
      | inl x => rw [hx] at e; cases e
      | inr v =>
        obtain ⟨j3, E3⟩ := v
        rw [hx] at e
        exact rdl_g ht (fun i j E h => rd_g ht f _ _ _ _ _ _ h) _ _ _ (rd_g ht f _ _ _ _ _ _ hx) j E e
/-- what holds of all signs of a row -/
theorem rdl_a {tc : Nat → Nat × Int32} {P : Int32 → Prop} (hp : ∀ i, ((tc i).1 = 1 ∨ (tc i).1 = 5) → P (tc i).2) {lev : Nat} {g : Nat → rR} (hg : ∀ i j E, g i = .inr (j, E) → ∀ c ∈ E, P c) : ∀ (k j : Nat) (D : List Int32), (∀ c ∈ D, P c) → ∀ j2 E, rdl tc lev g k j D = .inr (j2, E) → ∀ c ∈ E, P c
  | 0, j, D, h1, j2, E, e => by cases e; exact h1
  | k + 1, j, D, h1, j2, E, e => by
    unfold rdl at e
    split at e
    · rename_i hj
      have j5 : (tc j).1 = 5 := (of_decide_eq_true hj).1
      cases hx : g (j + 1) with
      | inl x => rw [hx] at e; cases e
      | inr v =>
        obtain ⟨j3, E3⟩ := v
        rw [hx] at e
        refine rdl_a hp hg k j3 _ (fun c hc => ?_) j2 E e
        rcases List.mem_append.mp hc with q | q
        · rcases List.mem_append.mp q with q | q
          · exact h1 c q
          · exact hg _ _ _ hx c q
        · rw [List.mem_singleton] at q
          rw [q]
          exact hp j (Or.inr j5)
    · cases e; exact h1
theorem rd_a {tc : Nat → Nat × Int32} {P : Int32 → Prop} (hp : ∀ i, ((tc i).1 = 1 ∨ (tc i).1 = 5) → P (tc i).2) (h10 : P (-10)) : ∀ (f lev o n i j : Nat) (E : List Int32), rd tc f lev o n i = .inr (j, E) → ∀ c ∈ E, P c
  | 0, _, _, _, _, _, _, e => by cases e
  | f + 1, lev, o, n, i, j, E, e => by
    unfold rd at e
    split at e
    · split at e
      · rename_i h1
        cases e
        intro c hc
        rw [List.mem_singleton] at hc
        rw [hc]
        exact hp i (Or.inl h1)
      · split at e
        · cases hx : rd tc f 5 o (n + 1) (i + 1) with
          | inl x => rw [hx] at e; cases e
          | inr v =>
            obtain ⟨j3, E3⟩ := v
            rw [hx] at e
            have g := rd_a hp h10 f _ _ _ _ _ _ hx
            cases e
            intro c hc
            rcases List.mem_append.mp hc with q | q
            · exact g c q
            · rw [List.mem_singleton] at q
              rw [q]
              exact h10
        · split at e
          · cases hx : rd tc f 0 (o + 1) n (i + 1) with
            | inl x => rw [hx] at e; cases e
            | inr v =>
              obtain ⟨j3, E3⟩ := v
              rw [hx] at e
              have g := rd_a hp h10 f _ _ _ _ _ _ hx
              simp only at e
              split at e
              · cases e; exact g
              · cases e
          · cases e
    · cases hx : rd tc f (lev + 1) o n i with
      | inl x => rw [hx] at e; cases e
      | inr v =>
        obtain ⟨j3, E3⟩ := v
        rw [hx] at e
        exact rdl_a hp (fun i j E h => rd_a hp h10 f _ _ _ _ _ _ h) _ _ _ (rd_a hp h10 f _ _ _ _ _ _ hx) j E e
theorem tk_s1 {D : List Int32} {j : Nat} (h : j < D.length) : D.take (j + 1) = D.take j ++ [D.getD j 0] := by
  rw [List.take_add_one, List.getElem?_eq_getElem h, List.getD_eq_getElem?_getD, List.getElem?_eq_getElem h]
  rfl
/-- by lists, by rows -/
theorem dl_dp {D : List Int32} {m : Nat} (h : dl D 0 = some m) : ∀ j, j ≤ D.length → dl (D.take j) 0 = some (dpS (fun i => D.getD i 0) j)
  | 0, _ => rfl
  | j + 1, hj => by
    have ih := dl_dp h j (by omega)
    have e1 : dl (D.take (j + 1)) 0 = dl [D.getD j 0] (dpS (fun i => D.getD i 0) j) := by
      rw [tk_s1 (by omega), dl_app, ih]
      rfl
    have ne : dl (D.take (j + 1)) 0 ≠ none := by
      intro q
      have e2 : dl D 0 = none := by
        rw [← List.take_append_drop (j + 1) D, dl_app, q]
        rfl
      rw [h] at e2
      cases e2
    rw [e1] at ne ⊢
    unfold dl at ne ⊢
    show _ = some (if D.getD j 0 < 0 then (if D.getD j 0 = -10 then dpS (fun i => D.getD i 0) j else dpS (fun i => D.getD i 0) j - 1) else dpS (fun i => D.getD i 0) j + 1)
    by_cases q1 : D.getD j 0 < 0
    · rw [if_pos q1] at ne ⊢
      rw [if_pos q1]
      by_cases q2 : D.getD j 0 = -10
      · rw [if_pos q2] at ne ⊢
        rw [if_pos q2]
        split at ne
        · rename_i q3; rw [if_pos q3]; rfl
        · exact absurd rfl ne
      · rw [if_neg q2] at ne ⊢
        rw [if_neg q2]
        split at ne
        · rename_i q3; rw [if_pos q3]; rfl
        · exact absurd rfl ne
    · rw [if_neg q1] at ne ⊢
      rw [if_neg q1]
      split at ne
      · rename_i q3; rw [if_pos q3]; rfl
      · exact absurd rfl ne
theorem gro_ok {D : List Int32} (hg : gro D) (hl : D.length ≤ 96) : okS (fun i => D.getD i 0) D.length := by
  have h := hg 0
  refine ⟨hl, ?_, fun k hk => ?_⟩
  · have := dl_dp h D.length (Nat.le_refl _)
    rw [List.take_length, h] at this
    exact (Option.some.inj this).symm
  · have ih := dl_dp h k (by omega)
    have ne : dl [D.getD k 0] (dpS (fun i => D.getD i 0) k) ≠ none := by
      intro q
      have e1 : dl (D.take (k + 1)) 0 = none := by
        rw [tk_s1 hk, dl_app, ih]
        exact q
      have e2 : dl D 0 = none := by
        rw [← List.take_append_drop (k + 1) D, dl_app, e1]
        rfl
      rw [h] at e2
      cases e2
    unfold dl at ne
    refine ⟨fun q1 => ⟨fun q2 => ?_, fun q2 => ?_⟩, fun q1 => ?_⟩
    · rw [if_pos q1, if_pos q2] at ne
      split at ne
      · assumption
      · exact absurd rfl ne
    · rw [if_pos q1, if_neg q2] at ne
      split at ne
      · assumption
      · exact absurd rfl ne
    · rw [if_neg q1] at ne
      split at ne
      · rename_i q3
        rcases of_decide_eq_true q3 with q | q | q | q
        · exact Or.inl q
        · exact Or.inr ⟨0, by decide, q⟩
        · exact Or.inr ⟨1, by decide, q⟩
        · exact Or.inr ⟨2, by decide, q⟩
      · exact absurd rfl ne

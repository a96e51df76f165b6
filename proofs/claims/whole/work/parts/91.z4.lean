/-! THE CONSTRUCTORS: a closed run  -/
theorem ex_mono {P P' : Nat → Nat → mA} {nl : Nat → Nat} (h : ∀ mi pc, P mi pc = a_fail ∨ P mi pc = P' mi pc) : ∀ (k d mi pc : Nat) (L : mL) (st : List mV) (hh : mH) (r : mRes), m_ex P nl k d mi pc L st hh = some r → m_ex P' nl k d mi pc L st hh = some r := by
  intro k
  induction k with
  | zero => intro d mi pc L st hh r e; cases e
  | succ k ih =>
    intro d mi pc L st hh r e
    unfold m_ex at e ⊢
    rcases h mi pc with q | q
    · rw [q] at e
      cases e
    · rw [← q]
      cases hp : P mi pc d L st hh with
      | none => rw [hp] at e; cases e
      | some v =>
        rw [hp] at e
        rcases v with r' | ⟨pc', L', st', h'⟩ | ⟨mi', as, pc', L', st', h'⟩
        · exact e
        · exact ih _ _ _ _ _ _ _ e
        · cases d with
          | zero => cases e
          | succ d' =>
            dsimp only at e ⊢
            cases hx : m_ex P nl k d' mi' 0 (m_ent (nl mi') as) [] h' with
            | none => rw [hx] at e; cases e
            | some v =>
              rw [hx] at e
              rw [ih _ _ _ _ _ _ _ hx]
              exact ih _ _ _ _ _ _ _ e
def bootM : List Nat := [1, 2, 87, 88, 89, 90, 91, 92, 173]
def PC (mi pc : Nat) : mA := if bootM.contains mi then PT 0 (fun _ => 0) mi pc else a_fail
theorem PC_ok {Ls : Nat} {xs : Nat → Int32} (mi pc : Nat) : PC mi pc = a_fail ∨ PC mi pc = PT Ls xs mi pc := by
  unfold PC
  by_cases h : bootM.contains mi = true
  · rw [if_pos h]
    have h2 : mi ∈ bootM := List.contains_iff_mem.mp h
    refine Or.inr ?_
    simp only [bootM, List.mem_cons, List.not_mem_nil, or_false] at h2
    rcases h2 with rfl | rfl | rfl | rfl | rfl | rfl | rfl | rfl | rfl <;> rfl
  · rw [if_neg h]
    exact Or.inl rfl
abbrev nlM : Nat → Nat := fun mi => (MT mi).2.2.1
def H0 : mH := ((fun _ => (0, 0), 0, 0), fun _ _ => 0, fun _ _ => .inl none)
def bootA : Option mRes := m_ex PC nlM 6000 199 1 0 [some (.inr (.inl (some 0))), none] [] (h_mk H0 8 10)
def bootH : Option mRes := bootA.bind fun r => m_ex PC nlM 6000 199 2 0 [some (.inr (.inl (some 93)))] [] (h_mk r.2 9 36)
/-- cells that are known -/
def bootL : List (Nat × Nat × Int32) := [(1, 3, 0), (1, 4, 0), (1, 5, 0), (1, 6, 0), (1, 7, 0), (1, 8, 0), (1, 9, 0), (1, 10, 1), (94, 0, 1), (94, 1, 0), (94, 2, 0), (94, 3, 0), (94, 4, 0), (94, 5, 0), (94, 6, 0), (94, 7, 0), (0, 8, 0), (0, 9, 0), (93, 3, 0), (93, 9, 0), (93, 35, 0), (58, 1, 0)]
def bootS (h : mH) : Bool := decide (h.1.2.1 = 118) && (decide (h.1.2.2 ≤ 20000) && (List.range 118).all (fun k => decide (h.1.1 k = tb k)))
def bootR (h : mH) : Bool := rt_.all (fun e => decide (h.2.2 e.1.1 e.1.2 = .inl (some e.2)))
def bootI (h : mH) : Bool := bootL.all (fun e => decide (h.2.1 e.1 e.2.1 = e.2.2))
def bootE (h : mH) : Bool := (List.range 4).all (fun i => decide (h.2.1 (65 + 2 * i) 1 = -1) && (decide (h.2.1 (65 + 2 * i) 2 = 0) && (decide (h.2.1 109 i = -1) && (decide (h.2.1 110 i = 0) && (List.range 24).all (fun k => decide (h.2.1 (66 + 2 * i) k = 0) && decide (h.2.1 111 (24 * i + k) = 0))))))
def bootO (h : mH) : Bool := (List.range 5).all (fun i => decide (h.2.1 (73 + 4 * i) 3 = 0) && decide (h.2.1 112 i = 0))
def bootK (h : mH) : Bool := (List.range 11).all (fun k => decide (h.2.1 102 k = kyB.getD k 0)) && (List.range 4).all (fun k => decide (h.2.1 103 k = kyA.getD k 0))
def bootC (r : mRes) : Bool := r.1.isNone && (bootS r.2 && (bootR r.2 && (bootI r.2 && (bootE r.2 && (bootO r.2 && bootK r.2)))))
def bootD (r : mRes) : Bool := r.1.isNone && decide (r.2.1.2.1 = 93)
def okB {A : Type} (f : A → Bool) : Option A → Bool
  | some h => f h
  | none => false
theorem boot_a : okB bootD bootA = true := by decide +kernel
theorem boot_t : okB bootC bootH = true := by decide +kernel

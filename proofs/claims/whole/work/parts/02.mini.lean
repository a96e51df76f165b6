/-! A SMALL MACHINE over pure heaps. mV: an int, or a reference (none: null; some k: the k-th cell made; a special one). mH: shapes (kind, length), how many cells, how many slots; ints; references -/
abbrev mr : Type := Option Nat ⊕ Nat
abbrev mV : Type := Int32 ⊕ mr
abbrev mS : Type := (Nat → Nat × Nat) × Nat × Nat
abbrev mH : Type := mS × (Nat → Nat → Int32) × (Nat → Nat → mr)
abbrev mL : Type := List (Option mV)
abbrev mRes : Type := Option mV × mH
abbrev mNx : Type := Nat × mL × List mV × mH
abbrev mCl : Type := Nat × List mV × Nat × mL × List mV × mH
abbrev mO : Type := Option (mRes ⊕ (mNx ⊕ mCl))
abbrev mA : Type := Nat → mL → List mV → mH → mO
abbrev vi (x : Int32) : mV := .inl x
abbrev vr (k : Nat) : mV := .inr (.inl (some k))
abbrev vn : mV := .inr (.inl none)
abbrev vs (k : Nat) : mV := .inr (.inr k)
abbrev nx_ (pc : Nat) (L : mL) (st : List mV) (h : mH) : mO := some (.inr (.inl (pc, L, st, h)))
def h_nx (h : mH) : Nat := h.1.2.1
def h_su (h : mH) : Nat := h.1.2.2
def h_kd (h : mH) (a : Nat) : Nat := (h.1.1 a).1
def h_ln (h : mH) (a : Nat) : Nat := (h.1.1 a).2
def h_I (h : mH) : Nat → Nat → Int32 := h.2.1
def h_R (h : mH) : Nat → Nat → mr := h.2.2
/-- one int, one reference is written -/
def h_wI (h : mH) (a k : Nat) (x : Int32) : mH := (h.1, va_up h.2.1 a (upd (h.2.1 a) k x), h.2.2)
def h_wR (h : mH) (a k : Nat) (x : mr) : mH := (h.1, h.2.1, va_up h.2.2 a (va_up (h.2.2 a) k x))
/-- a row of ints is written -/
def h_wF (h : mH) (a : Nat) (f : Nat → Int32) : mH := (h.1, va_up h.2.1 a f, h.2.2)
/-- a cell of a kind is made -/
def h_mk (h : mH) (kd n : Nat) : mH := ((va_up h.1.1 h.1.2.1 (kd, n), h.1.2.1 + 1, h.1.2.2 + n), va_up h.2.1 h.1.2.1 (fun _ => 0), va_up h.2.2 h.1.2.1 (fun _ => .inl none))
/-! the instructions as actions -/
def a_fail : mA := fun _ _ _ _ => none
def a_push (v : Int32) (pc : Nat) : mA := fun _ L st h => nx_ pc L (vi v :: st) h
def a_null (pc : Nat) : mA := fun _ L st h => nx_ pc L (vn :: st) h
def a_spec (k : Nat) (pc : Nat) : mA := fun _ L st h => nx_ pc L (vs k :: st) h
def a_iload (i pc : Nat) : mA := fun _ L st h => match L[i]? with
  | some (some (.inl x)) => nx_ pc L (vi x :: st) h
  | _ => none
def a_aload (i pc : Nat) : mA := fun _ L st h => match L[i]? with
  | some (some (.inr x)) => nx_ pc L (.inr x :: st) h
  | _ => none
def a_istore (i pc : Nat) : mA := fun _ L st h => match st with
  | .inl x :: r => if i < L.length then nx_ pc (L.set i (some (vi x))) r h else none
  | _ => none
def a_astore (i pc : Nat) : mA := fun _ L st h => match st with
  | .inr x :: r => if i < L.length then nx_ pc (L.set i (some (.inr x))) r h else none
  | _ => none
def a_iinc (i : Nat) (n : Int32) (pc : Nat) : mA := fun _ L st h => match L[i]? with
  | some (some (.inl x)) => nx_ pc (L.set i (some (vi (x + n)))) st h
  | _ => none
def a_bin (f : Int32 → Int32 → Int32) (pc : Nat) : mA := fun _ L st h => match st with
  | .inl y :: .inl x :: r => nx_ pc L (vi (f x y) :: r) h
  | _ => none
/-- / and % -/
def a_div (f : Int32 → Int32 → Int32) (pc : Nat) : mA := fun _ L st h => match st with
  | .inl y :: .inl x :: r => if y = 0 then none else nx_ pc L (vi (f x y) :: r) h
  | _ => none
def a_un (f : Int32 → Int32) (pc : Nat) : mA := fun _ L st h => match st with
  | .inl x :: r => nx_ pc L (vi (f x) :: r) h
  | _ => none
def a_dup (pc : Nat) : mA := fun _ L st h => match st with
  | v :: r => nx_ pc L (v :: v :: r) h
  | _ => none
def a_dup2 (pc : Nat) : mA := fun _ L st h => match st with
  | v :: w :: r => nx_ pc L (v :: w :: v :: w :: r) h
  | _ => none
def a_pop (pc : Nat) : mA := fun _ L st h => match st with
  | _ :: r => nx_ pc L r h
  | _ => none
/-- a test against 0, of two ints; a jump -/
def a_if (f : Int32 → Bool) (tg pc : Nat) : mA := fun _ L st h => match st with
  | .inl x :: r => nx_ (if f x then tg else pc) L r h
  | _ => none
def a_cmp (f : Int32 → Int32 → Bool) (tg pc : Nat) : mA := fun _ L st h => match st with
  | .inl y :: .inl x :: r => nx_ (if f x y then tg else pc) L r h
  | _ => none
def a_nonnull (tg pc : Nat) : mA := fun _ L st h => match st with
  | .inr (.inl none) :: r => nx_ pc L r h
  | .inr (.inl (some _)) :: r => nx_ tg L r h
  | _ => none
def a_goto (tg : Nat) : mA := fun _ L st h => nx_ tg L st h
def a_sw (f : Int32 → Nat) : mA := fun _ L st h => match st with
  | .inl x :: r => nx_ (f x) L r h
  | _ => none
/-- the cell a is an object of class ci (of N fields); an array of kind t, and i is in it -/
def h_is (S : mS) (a ci N : Nat) : Bool := decide (a < S.2.1) && decide (S.1 a = (ci, N))
def h_ia (S : mS) (a t : Nat) (i : Int32) : Bool := decide (a < S.2.1 ∧ (S.1 a).1 = 100 + t ∧ 0 ≤ i.toInt ∧ i.toInt < ((S.1 a).2 : Int))
def h_bo (x : Int32) : Bool := decide (x = 0 ∨ x = 1)
/-- fields: of an int, of a reference; class ci, field k -/
def a_getI (ci N k pc : Nat) : mA := fun _ L st h => match st with
  | .inr (.inl (some a)) :: r => if h_is h.1 a ci N then nx_ pc L (vi (h.2.1 a k) :: r) h else none
  | _ => none
def a_getR (ci N k pc : Nat) : mA := fun _ L st h => match st with
  | .inr (.inl (some a)) :: r => if h_is h.1 a ci N then nx_ pc L (.inr (h.2.2 a k) :: r) h else none
  | _ => none
def a_putI (ci N k pc : Nat) : mA := fun _ L st h => match st with
  | .inl x :: .inr (.inl (some a)) :: r => if h_is h.1 a ci N then nx_ pc L r (h_wI h a k x) else none
  | _ => none
def a_putZ (ci N k pc : Nat) : mA := fun _ L st h => match st with
  | .inl x :: .inr (.inl (some a)) :: r => if h_is h.1 a ci N && h_bo x then nx_ pc L r (h_wI h a k x) else none
  | _ => none
def a_putR (ci N k pc : Nat) : mA := fun _ L st h => match st with
  | .inr x :: .inr (.inl (some a)) :: r => if h_is h.1 a ci N then nx_ pc L r (h_wR h a k x) else none
  | _ => none
/-- arrays: kind 100 + t -/
def a_ald (t pc : Nat) : mA := fun _ L st h => match st with
  | .inl i :: .inr (.inl (some a)) :: r => if h_ia h.1 a t i then nx_ pc L (vi (h.2.1 a i.toNatClampNeg) :: r) h else none
  | _ => none
def a_ast (t : Nat) (f : Int32 → Int32) (pc : Nat) : mA := fun _ L st h => match st with
  | .inl x :: .inl i :: .inr (.inl (some a)) :: r => if h_ia h.1 a t i then nx_ pc L r (h_wI h a i.toNatClampNeg (f x)) else none
  | _ => none
def a_aald (t pc : Nat) : mA := fun _ L st h => match st with
  | .inl i :: .inr (.inl (some a)) :: r => if h_ia h.1 a t i then
      match h.2.2 a i.toNatClampNeg with
      | .inl o => nx_ pc L (.inr (.inl o) :: r) h
      | .inr _ => none
    else none
  | _ => none
def a_aast (t ci N pc : Nat) : mA := fun _ L st h => match st with
  | .inr (.inl (some v)) :: .inl i :: .inr (.inl (some a)) :: r => if h_ia h.1 a t i && h_is h.1 v ci N then nx_ pc L r (h_wR h a i.toNatClampNeg (.inl (some v))) else none
  | _ => none
def a_alen (t pc : Nat) : mA := fun _ L st h => match st with
  | .inr (.inl (some a)) :: r => if h_is h.1 a (100 + t) (h.1.1 a).2 then nx_ pc L (vi (Int32.ofNat (h.1.1 a).2) :: r) h else none
  | _ => none
def a_new (ci N pc : Nat) : mA := fun _ L st h => nx_ pc L (vr h.1.2.1 :: st) (h_mk h ci N)
def a_newa (t pc : Nat) : mA := fun _ L st h => match st with
  | .inl n :: r => if 0 ≤ n.toInt ∧ n.toInt ≤ 100000 then nx_ pc L (vr h.1.2.1 :: r) (h_mk h (100 + t) n.toNatClampNeg) else none
  | _ => none
/-- the script (special 0), a constant row (special j) -/
def a_sld (Ls : Nat) (xs : Nat → Int32) (pc : Nat) : mA := fun _ L st h => match st with
  | .inl i :: .inr (.inr 0) :: r => if 0 ≤ i.toInt ∧ i.toInt < (Ls : Int) then nx_ pc L (vi (xs i.toNatClampNeg) :: r) h else none
  | _ => none
def a_slen (Ls : Nat) (pc : Nat) : mA := fun _ L st h => match st with
  | .inr (.inr 0) :: r => nx_ pc L (vi (Int32.ofNat Ls) :: r) h
  | _ => none
/-- Object.<init> -/
def a_obj (pc : Nat) : mA := fun d L st h => match d, st with
  | _ + 1, .inr (.inl (some _)) :: r => if r.length ≤ 8 then nx_ pc L r h else none
  | _, _ => none
/-- System.arraycopy of ints -/
def h_cp (S : mS) (a b : Nat) (sp dp n : Int32) : Bool := decide (((a < S.2.1 ∧ (S.1 a).1 = 100) ∧ (b < S.2.1 ∧ (S.1 b).1 = 100)) ∧ (0 ≤ sp.toInt ∧ 0 ≤ dp.toInt ∧ 0 ≤ n.toInt) ∧ sp.toInt + n.toInt ≤ ((S.1 a).2 : Int) ∧ dp.toInt + n.toInt ≤ ((S.1 b).2 : Int))
def a_copy (pc : Nat) : mA := fun d L st h => match d, st with
  | _ + 1, .inl n :: .inl dp :: .inr (.inl (some b)) :: .inl sp :: .inr (.inl (some a)) :: r =>
    if h_cp h.1 a b sp dp n && decide (r.length ≤ 8) then nx_ pc L r (h_wF h b (va_cpy (h.2.1 a) (h.2.1 b) sp.toNatClampNeg dp.toNatClampNeg n.toNatClampNeg)) else none
  | _, _ => none
/-- returns -/
def a_iret : mA := fun _ _ st h => match st with
  | [.inl x] => some (.inl (some (vi x), h))
  | _ => none
def a_zret : mA := fun _ _ st h => match st with
  | [.inl x] => if h_bo x then some (.inl (some (vi x), h)) else none
  | _ => none
def a_aret : mA := fun _ _ st h => match st with
  | [.inr x] => some (.inl (some (.inr x), h))
  | _ => none
def a_ret : mA := fun _ _ st h => match st with
  | [] => some (.inl (none, h))
  | _ => none
/-- calls: of n arguments (the receiver counts); what is left below them has room -/
def a_call (mi n pc : Nat) : mA := fun _ L st h => if n ≤ st.length ∧ st.length ≤ n + 8 then some (.inr (.inr (mi, (st.take n).reverse, pc, L, st.drop n, h))) else none
/-- a call on an object of class ci -/
def a_callO (ci N mi n pc : Nat) : mA := fun _ L st h => match st[n]? with
  | some (.inr (.inl (some a))) => if h_is h.1 a ci N && decide (st.length ≤ n + 9) then some (.inr (.inr (mi, (st.take (n + 1)).reverse, pc, L, st.drop (n + 1), h))) else none
  | _ => none
/-- the locals with which a method begins -/
def m_ent (n : Nat) (vs : List mV) : mL := vs.map some ++ List.replicate (n - vs.length) none
/-! the run of a program P (its actions), with its methods' numbers of locals nl; k bounds the steps, d the depth of calls -/
def m_ex (P : Nat → Nat → mA) (nl : Nat → Nat) : Nat → Nat → Nat → Nat → mL → List mV → mH → Option mRes
  | 0, _, _, _, _, _, _ => none
  | k + 1, d, mi, pc, L, st, h => match P mi pc d L st h with
    | none => none
    | some (.inl r) => some r
    | some (.inr (.inl (pc', L', st', h'))) => m_ex P nl k d mi pc' L' st' h'
    | some (.inr (.inr (mi', as, pc', L', st', h'))) => match d with
      | 0 => none
      | d' + 1 => match m_ex P nl k d' mi' 0 (m_ent (nl mi') as) [] h' with
        | none => none
        | some (v, h2) => m_ex P nl k (d' + 1) mi pc' L' (v.toList ++ st') h2
theorem m_mono (P : Nat → Nat → mA) (nl : Nat → Nat) : ∀ (k d mi pc : Nat) (L : mL) (st : List mV) (h : mH) (r : mRes), m_ex P nl k d mi pc L st h = some r → m_ex P nl (k + 1) d mi pc L st h = some r := by
  intro k
  induction k with
  | zero => intro d mi pc L st h r e; simp [m_ex] at e
  | succ k ih =>
    intro d mi pc L st h r e
    rw [m_ex] at e
    rw [m_ex]
    split at e
    · cases e
    · exact e
    · exact ih _ _ _ _ _ _ _ e
    · split at e
      · cases e
      · split at e
        · cases e
        · rename_i h1
          rw [ih _ _ _ _ _ _ _ h1]
          exact ih _ _ _ _ _ _ _ e
theorem m_mono_le (P : Nat → Nat → mA) (nl : Nat → Nat) {k k' d mi pc : Nat} {L : mL} {st : List mV} {h : mH} {r : mRes} (hk : k ≤ k') (e : m_ex P nl k d mi pc L st h = some r) : m_ex P nl k' d mi pc L st h = some r := by
  obtain ⟨j, rfl⟩ := Nat.le.dest hk
  induction j with
  | zero => exact e
  | succ j ih => exact m_mono P nl _ _ _ _ _ _ _ _ (ih (Nat.le_add_right _ _))
/-- what a run answers, if it answers -/
noncomputable def m_run (P : Nat → Nat → mA) (nl : Nat → Nat) (d mi pc : Nat) (L : mL) (st : List mV) (h : mH) : Option mRes :=
  @dite _ (∃ (k : Nat) (r : mRes), m_ex P nl k d mi pc L st h = some r) (Classical.propDecidable _) (fun q => some q.choose_spec.choose) (fun _ => none)
theorem m_run_iff {P : Nat → Nat → mA} {nl : Nat → Nat} {d mi pc : Nat} {L : mL} {st : List mV} {h : mH} {r : mRes} : m_run P nl d mi pc L st h = some r ↔ ∃ k, m_ex P nl k d mi pc L st h = some r := by
  unfold m_run
  constructor
  · intro e
    split at e
    · rename_i q
      cases e
      exact ⟨q.choose, q.choose_spec.choose_spec⟩
    · cases e
  · intro ⟨k, e⟩
    have q : ∃ (k : Nat) (r : mRes), m_ex P nl k d mi pc L st h = some r := ⟨k, r, e⟩
    rw [dif_pos q]
    have e2 := q.choose_spec.choose_spec
    have e3 := m_mono_le P nl (Nat.le_max_left k q.choose) e
    have e4 := m_mono_le P nl (Nat.le_max_right k q.choose) e2
    rw [e3] at e4
    exact e4.symm
theorem m_run_ext {P : Nat → Nat → mA} {nl : Nat → Nat} {d mi pc : Nat} {L : mL} {st : List mV} {h : mH} {y : Option mRes} (hy : ∀ r, (∃ k, m_ex P nl k d mi pc L st h = some r) ↔ y = some r) : m_run P nl d mi pc L st h = y := by
  cases hm : m_run P nl d mi pc L st h with
  | some r => exact ((hy r).mp (m_run_iff.mp hm)).symm
  | none =>
    cases y with
    | none => rfl
    | some r =>
      have h2 := m_run_iff.mpr ((hy r).mpr rfl)
      rw [hm] at h2
      cases h2
/-- one step of the run -/
theorem m_step {P : Nat → Nat → mA} {nl : Nat → Nat} {d mi pc : Nat} {L : mL} {st : List mV} {h : mH} : m_run P nl d mi pc L st h = match P mi pc d L st h with
    | none => none
    | some (.inl r) => some r
    | some (.inr (.inl (pc', L', st', h'))) => m_run P nl d mi pc' L' st' h'
    | some (.inr (.inr (mi', as, pc', L', st', h'))) => match d with
      | 0 => none
      | d' + 1 => match m_run P nl d' mi' 0 (m_ent (nl mi') as) [] h' with
        | none => none
        | some (v, h2) => m_run P nl (d' + 1) mi pc' L' (v.toList ++ st') h2 := by
  refine m_run_ext fun r => ⟨fun ⟨k, e⟩ => ?_, fun e => ?_⟩
  · cases k with
    | zero => simp [m_ex] at e
    | succ k =>
      rw [m_ex] at e
      split at e
      · cases e
      · exact e
      · exact m_run_iff.mpr ⟨k, e⟩
      · split at e
        · cases e
        · split at e
          · cases e
          · rename_i h1
            rw [m_run_iff.mpr ⟨k, h1⟩]
            exact m_run_iff.mpr ⟨k, e⟩
  · split at e
    · cases e
    · rename_i h1
      exact ⟨1, by rw [m_ex, h1]; exact e⟩
    · rename_i h1
      obtain ⟨k, e⟩ := m_run_iff.mp e
      exact ⟨k + 1, by rw [m_ex, h1]; exact e⟩
    · rename_i h1
      split at e
      · cases e
      · split at e
        · cases e
        · rename_i h2
          obtain ⟨k1, e1⟩ := m_run_iff.mp h2
          obtain ⟨k2, e2⟩ := m_run_iff.mp e
          refine ⟨max k1 k2 + 1, ?_⟩
          rw [m_ex, h1]
          simp only
          rw [m_mono_le P nl (Nat.le_max_left k1 k2) e1]
          exact m_mono_le P nl (Nat.le_max_right k1 k2) e2

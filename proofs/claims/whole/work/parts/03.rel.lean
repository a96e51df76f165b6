/-! THE SMALL MACHINE AND THE REAL ONE. B: the address of the first cell made; sp: the special values; D, cA: the classes' and the array classes' numbers -/
/-- the good words of the tables -/
def gtb : List Cond := lw_tbl.filter goodWord
theorem gtb_at {w : Cond} (i : Nat) (h : lw_tbl[i]? = some w) (hg : goodWord w = true) : w ∈ gtb := List.mem_filter.mpr ⟨List.mem_of_getElem? h, hg⟩
theorem gtb_good {w : Cond} (h : w ∈ gtb) : goodWord w = true := (List.mem_filter.mp h).2
def ty_ (ci : Nat) : Nat → FieldType := match ci with
  | 0 => tyX0
  | 1 => tyX1
  | 2 => tyX2
  | 3 => tyX3
  | 4 => tyX4
  | 5 => tyX5
  | 6 => tyX6
  | 7 => tyX7
  | 8 => tyX8
  | _ => tyX9
def fr_ (ci j : Nat) : Bool := (ty_ ci j).isReference
def tyA (t : Nat) : FieldType := match t with
  | 0 => .int
  | 1 => .boolean
  | 2 => .char
  | 3 => .byte
  | 4 => .object "WreckSky$Wreck"
  | 5 => .object "WreckSky$Text"
  | 6 => .object "WreckSky$Sheet"
  | _ => .object "WreckSky$Slot"
abbrev tys_ (cA : Nat → ClassId) : List (ClassId × FieldType) := [(cA 0, .int), (cA 1, .boolean), (cA 2, .char), (cA 3, .byte), (cA 4, .object "WreckSky$Wreck"), (cA 5, .object "WreckSky$Text"), (cA 6, .object "WreckSky$Sheet"), (cA 7, .object "WreckSky$Slot")]
def r_v (B : Nat) (sp : Nat → Value) : mV → Value
  | .inl x => .int x
  | .inr (.inl none) => .null
  | .inr (.inl (some k)) => .ref (B + k)
  | .inr (.inr j) => sp j
def r_o (B : Nat) : mr → Option Nat
  | .inl none => none
  | .inl (some k) => some (B + k)
  | .inr _ => none
/-- special values are references or null -/
def r_sp (sp : Nat → Value) : Prop := ∀ j, sp j = .null ∨ ∃ a, sp j = .ref a
theorem r_cat {B : Nat} {sp : Nat → Value} (hs : r_sp sp) (v : mV) : (r_v B sp v).category = 1 := by
  match v with
  | .inl x => rfl
  | .inr (.inl none) => rfl
  | .inr (.inl (some k)) => rfl
  | .inr (.inr j) =>
    show (sp j).category = 1
    rcases hs j with e | ⟨a, e⟩ <;> rw [e] <;> rfl
theorem r_ref {B : Nat} {sp : Nat → Value} (hs : r_sp sp) (x : mr) : r_v B sp (.inr x) = .null ∨ ∃ a, r_v B sp (.inr x) = .ref a := by
  match x with
  | .inl none => exact Or.inl rfl
  | .inl (some k) => exact Or.inr ⟨_, rfl⟩
  | .inr j => exact hs j
def r_e (B : Nat) (sp : Nat → Value) (cA : Nat → ClassId) (h : mH) (k : Nat) : va_E :=
  if h_kd h k < 100 then .inr (h_kd h k, (List.range (h_ln h k)).map (fun j => if fr_ (h_kd h k) j then r_v B sp (.inr (h_R h k j)) else .int (h_I h k j)))
  else .inl (cA (h_kd h k - 100), h_ln h k, if h_kd h k < 104 then .inl (h_I h k) else .inr (.inr (.inr (.inr (fun j => r_o B (h_R h k j))))))
def r_w (B : Nat) (sp : Nat → Value) (cA : Nat → ClassId) (h : mH) : va_W := (List.range (h_nx h)).map (fun k => (B + k, r_e B sp cA h k))
theorem r_w_at {B : Nat} {sp : Nat → Value} {cA : Nat → ClassId} {h : mH} {k : Nat} (hk : k < h_nx h) : (r_w B sp cA h)[k]? = some (B + k, r_e B sp cA h k) := by
  simp [r_w, hk]
theorem r_w_inv {B : Nat} {sp : Nat → Value} {cA : Nat → ClassId} {h : mH} {k : Nat} {q : Nat × va_E} (e : (r_w B sp cA h)[k]? = some q) : k < h_nx h ∧ q = (B + k, r_e B sp cA h k) := by
  have hk : k < h_nx h := by
    have := (List.getElem?_eq_some_iff.mp e).1
    simpa [r_w] using this
  rw [r_w_at hk] at e
  exact ⟨hk, (Option.some.inj e).symm⟩
theorem r_w_set {B : Nat} {sp : Nat → Value} {cA : Nat → ClassId} {h h' : mH} {k : Nat} {e : va_E} (hn : h_nx h' = h_nx h) (he : r_e B sp cA h' k = e) (ho : ∀ j, j ≠ k → r_e B sp cA h' j = r_e B sp cA h j) : (r_w B sp cA h).set k (B + k, e) = r_w B sp cA h' := by
  apply List.ext_getElem?
  intro j
  rw [List.getElem?_set]
  by_cases hj : k = j
  · subst hj
    rw [if_pos rfl]
    by_cases hk : k < h_nx h
    · rw [if_pos (by simpa [r_w] using hk), r_w_at (by rw [hn]; exact hk), he]
    · rw [if_neg (by simpa [r_w] using hk)]
      symm
      rw [List.getElem?_eq_none_iff]
      simp [r_w, hn]; omega
  · rw [if_neg hj]
    by_cases hk : j < h_nx h
    · rw [r_w_at hk, r_w_at (by rw [hn]; exact hk), ho j (Ne.symm hj)]
    · rw [List.getElem?_eq_none_iff.mpr (by simp [r_w]; omega), List.getElem?_eq_none_iff.mpr (by simp [r_w, hn]; omega)]
theorem r_w_push {B : Nat} {sp : Nat → Value} {cA : Nat → ClassId} {h h' : mH} {e : va_E} (hn : h_nx h' = h_nx h + 1) (he : r_e B sp cA h' (h_nx h) = e) (ho : ∀ j, j < h_nx h → r_e B sp cA h' j = r_e B sp cA h j) : r_w B sp cA h ++ [(B + h_nx h, e)] = r_w B sp cA h' := by
  unfold r_w
  rw [hn, List.range_succ, List.map_append]
  congr 1
  · apply List.map_congr_left
    intro j hj
    rw [ho j (List.mem_range.mp hj)]
  · simp [he]
/-- where the cells made lie -/
abbrev r_A (B : Nat) : Nat → Prop := fun q => B ≤ q
theorem r_w_D (B : Nat) (sp : Nat → Value) (cA : Nat → ClassId) (h : mH) : va_D (r_A B) (r_w B sp cA h) := by
  refine ⟨fun i j p q hp hq hpq => ?_, fun k q hq => ?_⟩
  · obtain ⟨-, rfl⟩ := r_w_inv hp
    obtain ⟨-, rfl⟩ := r_w_inv hq
    have : B + i = B + j := hpq
    omega
  · obtain ⟨-, rfl⟩ := r_w_inv hq
    exact Nat.le_add_right _ _
/-- the real locals hold what the small ones say -/
def r_L (B : Nat) (sp : Nat → Value) (ls : Array Slot) (nL : Nat) (L : mL) : Prop := ls.size = nL ∧ L.length = nL ∧ lv_wf ls ∧ ∀ (i : Nat) (v : mV), L[i]? = some (some v) → ls[i]? = some (.val (r_v B sp v))
def r_l (B : Nat) (sp : Nat → Value) (L : mL) : List (Nat × Value) := (List.range L.length).filterMap (fun i => match L[i]? with
  | some (some v) => some (i, r_v B sp v)
  | _ => none)
theorem r_l_mem {B : Nat} {sp : Nat → Value} {L : mL} {i : Nat} {v : mV} (h : L[i]? = some (some v)) : (i, r_v B sp v) ∈ r_l B sp L := by
  refine List.mem_filterMap.mpr ⟨i, List.mem_range.mpr (List.getElem?_eq_some_iff.mp h).1, ?_⟩
  rw [h]
theorem r_l_inv {B : Nat} {sp : Nat → Value} {L : mL} {q : Nat × Value} (h : q ∈ r_l B sp L) : ∃ v, L[q.1]? = some (some v) ∧ q.2 = r_v B sp v := by
  obtain ⟨i, -, e⟩ := List.mem_filterMap.mp h
  split at e
  · rename_i v hv
    cases e
    exact ⟨v, hv, rfl⟩
  · cases e
theorem r_L_has {B : Nat} {sp : Nat → Value} {ls : Array Slot} {nL : Nat} {L : mL} (h : r_L B sp ls nL L) : lv_has ls nL (r_l B sp L) := by
  refine ⟨h.1, h.2.2.1, fun q hq => ?_⟩
  obtain ⟨v, h1, h2⟩ := r_l_inv hq
  rw [h2]
  exact h.2.2.2 _ _ h1
theorem r_L_set {B : Nat} {sp : Nat → Value} (hs : r_sp sp) {ls ls' : Array Slot} {nL : Nat} {L : mL} {i : Nat} {v : mV} (h : r_L B sp ls nL L) (hi : i < nL) (h' : lv_has ls' nL ((i, r_v B sp v) :: (r_l B sp L).filter (fun q => !(q.1 == i) && !(q.1 + 1 == i && q.2.category == 2)))) : r_L B sp ls' nL (L.set i (some v)) := by
  refine ⟨h'.1, by rw [List.length_set]; exact h.2.1, h'.2.1, fun j w hw => ?_⟩
  rw [List.getElem?_set] at hw
  by_cases hj : i = j
  · subst hj
    rw [if_pos rfl, if_pos (by rw [h.2.1]; exact hi)] at hw
    cases hw
    exact h'.2.2 (i, r_v B sp v) List.mem_cons_self
  · rw [if_neg hj] at hw
    refine h'.2.2 (j, r_v B sp w) (List.mem_cons_of_mem _ (List.mem_filter.mpr ⟨r_l_mem hw, ?_⟩))
    simp [r_cat hs, Ne.symm hj]
theorem r_L_args {B : Nat} {sp : Nat → Value} (hs : r_sp sp) : ∀ (vs : List mV) (p i : Nat) (v : mV), vs[i]? = some v → (p + i, r_v B sp v) ∈ lv_args p (vs.map (r_v B sp))
  | [], _, _, _, h => by simp at h
  | w :: vs, p, 0, v, h => by
    simp at h
    subst h
    exact List.mem_cons_self
  | w :: vs, p, i + 1, v, h => by
    simp only [List.map_cons, lv_args]
    rw [if_neg (by rw [r_cat hs]; decide), show p + (i + 1) = p + 1 + i by omega]
    exact List.mem_cons_of_mem _ (r_L_args hs vs (p + 1) i v (by simpa using h))
theorem r_sl {B : Nat} {sp : Nat → Value} (hs : r_sp sp) : ∀ (vs : List mV), (lg_sl (vs.map (r_v B sp))).length = vs.length
  | [] => rfl
  | w :: vs => by
    have ih := r_sl (B := B) hs vs
    simp only [lg_sl, List.map_cons, List.flatMap_cons, List.length_append] at ih ⊢
    rw [ih, if_neg (by rw [r_cat hs]; decide)]
    simp; omega
theorem r_L_ent {B : Nat} {sp : Nat → Value} (hs : r_sp sp) {vs : List mV} {n : Nat} (hn : vs.length ≤ n) : r_L B sp ((lg_sl (vs.map (r_v B sp)) ++ List.replicate (n - (lg_sl (vs.map (r_v B sp))).length) Slot.unset).toArray) n (m_ent n vs) := by
  have h := lv_entry (vs.map (r_v B sp)) (n := n) (by rw [r_sl hs]; exact hn)
  refine ⟨h.1, by simp [m_ent]; omega, h.2.1, fun i v hv => ?_⟩
  unfold m_ent at hv
  rw [List.getElem?_append] at hv
  split at hv
  · rename_i hi
    have hi' : vs[i]? = some v := by
      simp only [List.getElem?_map] at hv
      cases e : vs[i]? with
      | none => rw [e] at hv; cases hv
      | some w => rw [e] at hv; cases hv; rfl
    have := r_L_args (B := B) hs vs 0 i v hi'
    rw [Nat.zero_add] at this
    exact h.2.2 _ this
  · rw [List.getElem?_replicate] at hv
    split at hv <;> cases hv
/-! the world: what the Statement gives of the start -/
def r_X (B : Nat) (sp : Nat → Value) (L : Nat) (xs : Nat → Int32) (U : State) : Prop := ∃ b, sp 0 = .ref b ∧ b < B ∧ va_X b L xs U U.heap
/-- a method's context -/
def r_C (B : Nat) (sp : Nat → Value) (D : va_G) (cA : Nat → ClassId) (SP : State → Prop) (y : MethodName) (cc : ByteArray) (nL : Nat) (rt : Option FieldType) (p : Program) (s : State) (m : MethodId) (args : Array Value) (meth : Method) (c : Code) : Prop :=
  p.tables.exec = Jvm.exec ∧ c.code = cc ∧ c.maxLocals = nL ∧ s.vm.findClass y.cls = some m.cls ∧ (∀ w ∈ gtb, w.before args s = true) ∧ meth.sig.returnType = rt ∧ meth.locks = false ∧ (y.name = "<init>" → meth.name = y.name) ∧ va_K D vwCl (tys_ cA) s ∧ SP s ∧ r_sp sp
/-- a method's start and end -/
def r_P (B : Nat) (sp : Nat → Value) (D : va_G) (cA : Nat → ClassId) (SP : State → Prop) (as : List mV) (h : mH) : Array Value → State → Prop := fun v U =>
  v = (as.map (r_v B sp)).toArray ∧ U.heap.size = B + h_nx h ∧ va_P D vwCl (r_w B sp cA h) U.heap ∧ va_K D vwCl (tys_ cA) U ∧ SP U
def r_Q (B : Nat) (sp : Nat → Value) (D : va_G) (cA : Nat → ClassId) (r : Option mV) (h : mH) : Array Value → State → Outcome → State → Prop := fun _ st o t =>
  o = .returned (r.map (r_v B sp)) ∧ va_P D vwCl (r_w B sp cA h) t.heap ∧ va_F (r_A B) st t
abbrev r_ws (y : MethodName) (cc : ByteArray) (nL : Nat) (rt : Option FieldType) : List Cond := Cond.code y cc nL rt :: gtb
/-- a step is sound -/
def r_N (B : Nat) (sp : Nat → Value) (D : va_G) (cA : Nat → ClassId) (SP : State → Prop) (y : MethodName) (cc : ByteArray) (nL : Nat) (rt : Option FieldType) (d pc : Nat) (L : mL) (st : List mV) (h : mH) (n : mNx) : Prop :=
  h_nx h ≤ h_nx n.2.2.2 ∧ h_su h ≤ h_su n.2.2.2 ∧ ∀ (l : Launch) (p : Program) (e : Env) (R : Room) (s : State) (m : MethodId) (args : Array Value) (below : List Frame) (meth : Method) (c : Code) (H : Heap) (locs : List Loc) (cells slots c0 : Nat) (ls : Array Slot) (Q : State → Prop),
    r_C B sp D cA SP y cc nL rt p s m args meth c → d ≤ R.frames → 41 * d ≤ R.locals → s.heap.size = B + c0 → cells + c0 = h_nx h → cells + (h_nx n.2.2.2 - h_nx h) ≤ R.cells → slots + (h_su n.2.2.2 - h_su h) ≤ R.slots →
    va_P D vwCl (r_w B sp cA h) H → va_S (r_A B) s.heap H locs → r_L B sp ls nL L →
    (∀ (H1 : Heap) (locs1 : List Loc) (ls1 : Array Slot), va_P D vwCl (r_w B sp cA n.2.2.2) H1 → va_S (r_A B) s.heap H1 locs1 → r_L B sp ls1 nL n.2.1 →
      W p l e R s m args below meth c H1 locs1 (cells + (h_nx n.2.2.2 - h_nx h)) (slots + (h_su n.2.2.2 - h_su h)) Q (F0 m n.1 ls1 (n.2.2.1.map (r_v B sp)))) →
    W p l e R s m args below meth c H locs cells slots Q (F0 m pc ls (st.map (r_v B sp)))
/-- a return is sound -/
def r_T (B : Nat) (sp : Nat → Value) (D : va_G) (cA : Nat → ClassId) (SP : State → Prop) (y : MethodName) (cc : ByteArray) (nL : Nat) (rt : Option FieldType) (pc : Nat) (st : List mV) (h : mH) (r : mRes) : Prop :=
  r.2 = h ∧ ∀ (l : Launch) (p : Program) (e : Env) (R : Room) (s : State) (m : MethodId) (args : Array Value) (below : List Frame) (meth : Method) (c : Code) (H : Heap) (locs : List Loc) (cells slots : Nat) (ls : Array Slot),
    r_C B sp D cA SP y cc nL rt p s m args meth c → va_P D vwCl (r_w B sp cA h) H → va_S (r_A B) s.heap H locs →
    W p l e R s m args below meth c H locs cells slots (MQ below (r_Q B sp D cA r.1 h) args s cells slots (r_A B)) (F0 m pc ls (st.map (r_v B sp)))
/-- a call is sound -/
def r_K (B : Nat) (sp : Nat → Value) (D : va_G) (cA : Nat → ClassId) (SP : State → Prop) (y : MethodName) (cc : ByteArray) (nL : Nat) (rt : Option FieldType) (y2 : MethodName) (cc2 : ByteArray) (nL2 : Nat) (rt2 : Option FieldType) (d pc : Nat) (L : mL) (st : List mV) (h : mH) (as : List mV) (pc2 : Nat) (L2 : mL) (st2 : List mV) : Prop :=
  as.length ≤ nL2 ∧ plainFor y2 = true ∧ L2 = L ∧ ∀ (l : Launch) (p : Program) (e : Env) (R : Room) (s : State) (m : MethodId) (args : Array Value) (below : List Frame) (meth : Method) (c : Code) (H : Heap) (locs : List Loc) (cells slots c0 d2 mc ms : Nat) (ls : Array Slot) (Q : State → Prop) (r : Option mV) (h2 : mH),
    r_C B sp D cA SP y cc nL rt p s m args meth c → d = d2 + 1 → d ≤ R.frames → 41 * d ≤ R.locals → s.heap.size = B + c0 → cells + c0 = h_nx h → cells + mc ≤ R.cells → slots + ms ≤ R.slots →
    va_P D vwCl (r_w B sp cA h) H → va_S (r_A B) s.heap H locs → r_L B sp ls nL L →
    Met l y2 (r_ws y2 cc2 nL2 rt2) ({ frames := d2, cells := mc, slots := ms, locals := 41 * d2 }) (r_P B sp D cA SP as h) (r_Q B sp D cA r h2) mc ms (r_A B) →
    (∀ (H1 : Heap) (locs1 : List Loc), va_P D vwCl (r_w B sp cA h2) H1 → va_S (r_A B) s.heap H1 locs1 →
      W p l e R s m args below meth c H1 locs1 (cells + mc) (slots + ms) Q (F0 m pc2 ls ((r.toList ++ st2).map (r_v B sp)))) →
    W p l e R s m args below meth c H locs cells slots Q (F0 m pc ls (st.map (r_v B sp)))
abbrev mM : Type := Nat → MethodName × ByteArray × Nat × Option FieldType
/-- what comes out of an instruction is sound -/
def r_O (B : Nat) (sp : Nat → Value) (D : va_G) (cA : Nat → ClassId) (SP : State → Prop) (M : mM) (y : MethodName) (cc : ByteArray) (nL : Nat) (rt : Option FieldType) (pc d : Nat) (L : mL) (st : List mV) (h : mH) : mRes ⊕ (mNx ⊕ mCl) → Prop
  | .inl r => r_T B sp D cA SP y cc nL rt pc st h r
  | .inr (.inl n) => r_N B sp D cA SP y cc nL rt d pc L st h n
  | .inr (.inr (mi, as, pc2, L2, st2, h2)) => h2 = h ∧ r_K B sp D cA SP y cc nL rt (M mi).1 (M mi).2.1 (M mi).2.2.1 (M mi).2.2.2 d pc L st h as pc2 L2 st2
/-- an instruction of the program is sound -/
def r_OK (B : Nat) (sp : Nat → Value) (D : va_G) (cA : Nat → ClassId) (SP : State → Prop) (M : mM) (y : MethodName) (cc : ByteArray) (nL : Nat) (rt : Option FieldType) (pc : Nat) (f : mA) : Prop := ∀ (d : Nat) (L : mL) (st : List mV) (h : mH) (out : mRes ⊕ (mNx ⊕ mCl)), f d L st h = some out → r_O B sp D cA SP M y cc nL rt pc d L st h out
/-- what a context may be moved over -/
def r_SP (B : Nat) (SP : State → Prop) : Prop := (∀ (s U : State), s.WarmedH U.vm → SP s → (∀ q, q < s.heap.size → ¬ r_A B q → U.heap[q]? = s.heap[q]?) → s.heap.size ≤ U.heap.size → SP U) ∧ ∀ (a : Array Value) (U : State) (g : JFrame) (mk : MethodId), SP U → SP (U.calling g mk a)

/-! THE INSTRUCTIONS THAT READ AND WRITE THE HEAP -/
/-- what is known of a class -/
def c_OK (ci : Nat) (C : String) (T : u_T) (N : Nat) : Prop := ci < 100 ∧ vwCl[ci]? = some (C, T, N) ∧ (∀ w ∈ u_ws C T N, w ∈ gtb) ∧ (∀ k, k < N → parseFieldDescriptor (T k).2.2.1 = some (ty_ ci k)) ∧ (∀ a, a < N → ∀ b, b < N → a ≠ b → (T a).2.1 ≠ (T b).2.1) ∧ ∀ k, k < N → (T k).1 = C
theorem h_is_iff {S : mS} {a ci N : Nat} : h_is S a ci N = true ↔ a < S.2.1 ∧ S.1 a = (ci, N) := by simp [h_is]
theorem h_ia_iff {S : mS} {a t : Nat} {i : Int32} : h_ia S a t i = true ↔ a < S.2.1 ∧ (S.1 a).1 = 100 + t ∧ 0 ≤ i.toInt ∧ i.toInt < ((S.1 a).2 : Int) := by simp [h_ia]
section OKH
variable {B : Nat} {sp : Nat → Value} {D : va_G} {cA : Nat → ClassId} {SP : State → Prop} {M : mM} {y : MethodName} {cc : ByteArray} {nL : Nat} {rt : Option FieldType} {pc pc' : Nat}
theorem r_e_obj {h : mH} {a ci N : Nat} (hc : ci < 100) (hi : h.1.1 a = (ci, N)) : r_e B sp cA h a = .inr (ci, (List.range N).map (fun j => if fr_ ci j then r_v B sp (.inr (h.2.2 a j)) else .int (h.2.1 a j))) := by
  unfold r_e
  rw [if_pos (by show (h.1.1 a).1 < 100; rw [hi]; exact hc), show h_kd h a = ci by show (h.1.1 a).1 = ci; rw [hi], show h_ln h a = N by show (h.1.1 a).2 = N; rw [hi]]
  rfl
theorem r_e_arr {h : mH} {a t : Nat} (ht : t < 4) (hi : (h.1.1 a).1 = 100 + t) : r_e B sp cA h a = .inl (cA t, (h.1.1 a).2, .inl (h.2.1 a)) := by
  unfold r_e
  rw [if_neg (by show ¬ (h.1.1 a).1 < 100; omega), if_pos (by show (h.1.1 a).1 < 104; omega), show h_kd h a - 100 = t by show (h.1.1 a).1 - 100 = t; omega]
  rfl
theorem r_e_arq {h : mH} {a t : Nat} (ht : 4 ≤ t) (hi : (h.1.1 a).1 = 100 + t) : r_e B sp cA h a = .inl (cA t, (h.1.1 a).2, .inr (.inr (.inr (.inr (fun j => r_o B (h.2.2 a j)))))) := by
  unfold r_e
  rw [if_neg (by show ¬ (h.1.1 a).1 < 100; omega), if_neg (by show ¬ (h.1.1 a).1 < 104; omega), show h_kd h a - 100 = t by show (h.1.1 a).1 - 100 = t; omega]
  rfl
/-- cells that aren't touched -/
theorem r_e_same {h h' : mH} {j : Nat} (h1 : h'.1.1 j = h.1.1 j) (h2 : h'.2.1 j = h.2.1 j) (h3 : h'.2.2 j = h.2.2 j) : r_e B sp cA h' j = r_e B sp cA h j := by
  unfold r_e h_kd h_ln h_I h_R
  rw [h1, h2, h3]
theorem va_up_s {α : Type} (f : Nat → α) (k : Nat) (v : α) : va_up f k v k = v := by simp [va_up]
theorem va_up_n {α : Type} (f : Nat → α) {k j : Nat} (v : α) (h : j ≠ k) : va_up f k v j = f j := by simp [va_up, h]
theorem r_fs_set {N k : Nat} {f g : Nat → Value} {v : Value} (hk : k < N) (h1 : g k = v) (h2 : ∀ j, j ≠ k → g j = f j) : ((List.range N).map f).set k v = (List.range N).map g := by
  apply List.ext_getElem?
  intro j
  rw [List.getElem?_set]
  by_cases hj : k = j
  · subst hj
    simp [hk, h1]
  · rw [if_neg hj]
    by_cases hjn : j < N
    · simp [hjn, h2 j (Ne.symm hj)]
    · simp [hjn]
theorem r_wI_obj {h : mH} {a ci N k : Nat} {x : Int32} (hc : ci < 100) (hi : h.1.1 a = (ci, N)) (hk : k < N) (hf : fr_ ci k = false) : (r_w B sp cA h).set a (B + a, .inr (ci, ((List.range N).map (fun j => if fr_ ci j then r_v B sp (.inr (h.2.2 a j)) else .int (h.2.1 a j))).set k (.int x))) = r_w B sp cA (h_wI h a k x) := by
  refine r_w_set rfl ?_ ?_
  · rw [r_e_obj hc (show (h_wI h a k x).1.1 a = (ci, N) from hi)]
    congr 2
    symm
    refine r_fs_set hk ?_ ?_
    · rw [if_neg (by rw [hf]; decide)]
      show Value.int (va_up h.2.1 a (upd (h.2.1 a) k x) a k) = _
      rw [va_up_s]; simp [upd]
    · intro j hj
      show (if fr_ ci j then _ else Value.int (va_up h.2.1 a (upd (h.2.1 a) k x) a j)) = _
      rw [va_up_s]
      simp only [upd, hj, if_false]
      rfl
  · intro j hj
    exact r_e_same rfl (va_up_n _ _ hj) rfl
theorem r_wR_obj {h : mH} {a ci N k : Nat} {x : mr} (hc : ci < 100) (hi : h.1.1 a = (ci, N)) (hk : k < N) (hf : fr_ ci k = true) : (r_w B sp cA h).set a (B + a, .inr (ci, ((List.range N).map (fun j => if fr_ ci j then r_v B sp (.inr (h.2.2 a j)) else .int (h.2.1 a j))).set k (r_v B sp (.inr x)))) = r_w B sp cA (h_wR h a k x) := by
  refine r_w_set rfl ?_ ?_
  · rw [r_e_obj hc (show (h_wR h a k x).1.1 a = (ci, N) from hi)]
    congr 2
    symm
    refine r_fs_set hk ?_ ?_
    · rw [if_pos hf]
      show r_v B sp (.inr (va_up h.2.2 a (va_up (h.2.2 a) k x) a k)) = _
      rw [va_up_s, va_up_s]
    · intro j hj
      show (if fr_ ci j then r_v B sp (.inr (va_up h.2.2 a (va_up (h.2.2 a) k x) a j)) else _) = _
      rw [va_up_s, va_up_n _ _ hj]
      rfl
  · intro j hj
    exact r_e_same rfl rfl (va_up_n _ _ hj)
theorem r_wI_arr {h : mH} {a t k : Nat} {x : Int32} (ht : t < 4) (hi : (h.1.1 a).1 = 100 + t) : (r_w B sp cA h).set a (B + a, .inl (cA t, (h.1.1 a).2, .inl (upd (h.2.1 a) k x))) = r_w B sp cA (h_wI h a k x) := by
  refine r_w_set rfl ?_ ?_
  · rw [r_e_arr ht (show ((h_wI h a k x).1.1 a).1 = 100 + t from hi)]
    show Sum.inl (cA t, (h.1.1 a).2, Sum.inl (va_up h.2.1 a (upd (h.2.1 a) k x) a)) = _
    rw [va_up_s]
  · intro j hj
    exact r_e_same rfl (va_up_n _ _ hj) rfl
theorem r_wF_arr {h : mH} {a t : Nat} {f : Nat → Int32} (ht : t < 4) (hi : (h.1.1 a).1 = 100 + t) : (r_w B sp cA h).set a (B + a, .inl (cA t, (h.1.1 a).2, .inl f)) = r_w B sp cA (h_wF h a f) := by
  refine r_w_set rfl ?_ ?_
  · rw [r_e_arr ht (show ((h_wF h a f).1.1 a).1 = 100 + t from hi)]
    show Sum.inl (cA t, (h.1.1 a).2, Sum.inl (va_up h.2.1 a f a)) = _
    rw [va_up_s]
  · intro j hj
    exact r_e_same rfl (va_up_n _ _ hj) rfl
theorem r_wR_arr {h : mH} {a t k v : Nat} (ht : 4 ≤ t) (hi : (h.1.1 a).1 = 100 + t) : (r_w B sp cA h).set a (B + a, .inl (cA t, (h.1.1 a).2, .inr (.inr (.inr (.inr (va_up (fun j => r_o B (h.2.2 a j)) k (some (B + v)))))))) = r_w B sp cA (h_wR h a k (.inl (some v))) := by
  refine r_w_set rfl ?_ ?_
  · rw [r_e_arq ht (show ((h_wR h a k (.inl (some v))).1.1 a).1 = 100 + t from hi)]
    show Sum.inl (cA t, (h.1.1 a).2, Sum.inr (Sum.inr (Sum.inr (Sum.inr (fun j => r_o B (va_up h.2.2 a (va_up (h.2.2 a) k (.inl (some v))) a j)))))) = _
    rw [va_up_s]
    have e : (fun j => r_o B (va_up (h.2.2 a) k (.inl (some v)) j)) = va_up (fun j => r_o B (h.2.2 a j)) k (some (B + v)) := by
      funext j
      by_cases hj : j = k
      · subst hj
        rw [va_up_s, va_up_s]; rfl
      · rw [va_up_n _ _ hj, va_up_n _ _ hj]
    rw [e]
  · intro j hj
    exact r_e_same rfl rfl (va_up_n _ _ hj)
/-- a step that writes, but makes no cell -/
theorem r_N1 {d pc pc' : Nat} {L L' : mL} {st st' : List mV} {h h' : mH} (hs : h'.1 = h.1) (k : ∀ (l : Launch) (p : Program) (e : Env) (R : Room) (s : State) (m : MethodId) (args : Array Value) (below : List Frame) (meth : Method) (c : Code) (H : Heap) (locs : List Loc) (cells slots : Nat) (ls : Array Slot) (Q : State → Prop),
    r_C B sp D cA SP y cc nL rt p s m args meth c → d ≤ R.frames → 41 * d ≤ R.locals → va_P D vwCl (r_w B sp cA h) H → va_S (r_A B) s.heap H locs → r_L B sp ls nL L →
    (∀ (H1 : Heap) (locs1 : List Loc), va_P D vwCl (r_w B sp cA h') H1 → va_S (r_A B) s.heap H1 locs1 → ∀ ls1 : Array Slot, r_L B sp ls1 nL L' → W p l e R s m args below meth c H1 locs1 cells slots Q (F0 m pc' ls1 (st'.map (r_v B sp)))) → W p l e R s m args below meth c H locs cells slots Q (F0 m pc ls (st.map (r_v B sp)))) : r_N B sp D cA SP y cc nL rt d pc L st h (pc', L', st', h') := by
  have e1 : h_nx h' = h_nx h := by show h'.1.2.1 = h.1.2.1; rw [hs]
  have e2 : h_su h' = h_su h := by show h'.1.2.2 = h.1.2.2; rw [hs]
  refine ⟨by rw [e1]; exact Nat.le_refl _, by rw [e2]; exact Nat.le_refl _, ?_⟩
  intro l p e R s m args below meth c H locs cells slots c0 ls Q C hd1 hd2 hB hc _ _ hp hS hL kk
  dsimp only at kk
  rw [e1, e2, Nat.sub_self, Nat.sub_self] at kk
  exact k l p e R s m args below meth c H locs cells slots ls Q C hd1 hd2 hp hS hL fun H1 locs1 p1 s1 ls1 h1 => kk H1 locs1 ls1 p1 s1 h1
theorem r_fs_at {N k : Nat} {f : Nat → Value} (hk : k < N) : ((List.range N).map f)[k]? = some (f k) := by simp [hk]
theorem ok_getI {C : String} {T : u_T} {N ci k idx : Nat} (hc : c_OK ci C T N) (hk : k < N) (hf : fr_ ci k = false) (hw : Cond.fieldLink y.cls idx C (T k).2.1 (T k).2.2.1 ∈ gtb) (hd : decode cc pc = .ok (.getfield idx, 3)) (hp : pc + 3 = pc') : r_OK B sp D cA SP M y cc nL rt pc (a_getI ci N k pc') := by
  intro d L st h out e
  subst hp
  unfold a_getI at e
  split at e
  · rename_i a r
    split at e
    · rename_i hi
      obtain ⟨hlt, hsh⟩ := h_is_iff.mp hi
      cases e
      refine r_N0 fun l p e R s m args below meth c H locs cells slots ls Q C' _ _ hP hS hL kk => ?_
      have he := r_w_at (B := B) (sp := sp) (cA := cA) (h := h) (k := a) hlt
      rw [r_e_obj hc.1 hsh] at he
      have hv := r_fs_at (f := fun j => if fr_ ci j then r_v B sp (.inr (h.2.2 a j)) else .int (h.2.1 a j)) hk
      rw [if_neg (by rw [hf]; decide)] at hv
      exact va_get C'.1 C'.2.1 C'.2.2.2.2.1 hc.2.2.1 C'.2.2.2.1 C'.2.2.2.2.2.2.2.2.1 hP a he hc.2.1 k hk (C'.2.2.2.2.1 _ hw) (fun x hx => by rw [hc.2.2.2.2.2 k hk] at hx; exact hx) hv hd (kk ls hL)
    · cases e
  · cases e
theorem ok_getR {C : String} {T : u_T} {N ci k idx : Nat} (hc : c_OK ci C T N) (hk : k < N) (hf : fr_ ci k = true) (hw : Cond.fieldLink y.cls idx C (T k).2.1 (T k).2.2.1 ∈ gtb) (hd : decode cc pc = .ok (.getfield idx, 3)) (hp : pc + 3 = pc') : r_OK B sp D cA SP M y cc nL rt pc (a_getR ci N k pc') := by
  intro d L st h out e
  subst hp
  unfold a_getR at e
  split at e
  · rename_i a r
    split at e
    · rename_i hi
      obtain ⟨hlt, hsh⟩ := h_is_iff.mp hi
      cases e
      refine r_N0 fun l p e R s m args below meth c H locs cells slots ls Q C' _ _ hP hS hL kk => ?_
      have he := r_w_at (B := B) (sp := sp) (cA := cA) (h := h) (k := a) hlt
      rw [r_e_obj hc.1 hsh] at he
      have hv := r_fs_at (f := fun j => if fr_ ci j then r_v B sp (.inr (h.2.2 a j)) else .int (h.2.1 a j)) hk
      rw [if_pos hf] at hv
      exact va_get C'.1 C'.2.1 C'.2.2.2.2.1 hc.2.2.1 C'.2.2.2.1 C'.2.2.2.2.2.2.2.2.1 hP a he hc.2.1 k hk (C'.2.2.2.2.1 _ hw) (fun x hx => by rw [hc.2.2.2.2.2 k hk] at hx; exact hx) hv hd (kk ls hL)
    · cases e
  · cases e
theorem ok_putI {C : String} {T : u_T} {N ci k idx : Nat} (hc : c_OK ci C T N) (hk : k < N) (hty : ty_ ci k = .int) (hfin : (T k).2.2.2 = false) (hw : Cond.fieldLink y.cls idx C (T k).2.1 (T k).2.2.1 ∈ gtb) (hd : decode cc pc = .ok (.putfield idx, 3)) (hp : pc + 3 = pc') : r_OK B sp D cA SP M y cc nL rt pc (a_putI ci N k pc') := by
  intro d L st h out e
  subst hp
  unfold a_putI at e
  split at e
  · rename_i x a r
    split at e
    · rename_i hi
      obtain ⟨hlt, hsh⟩ := h_is_iff.mp hi
      cases e
      refine r_N1 rfl fun l p e R s m args below meth c H locs cells slots ls Q C' _ _ hP hS hL kk => ?_
      have he := r_w_at (B := B) (sp := sp) (cA := cA) (h := h) (k := a) hlt
      rw [r_e_obj hc.1 hsh] at he
      refine va_put C'.1 C'.2.1 C'.2.2.2.2.1 hc.2.2.1 (ty_ ci) hc.2.2.2.1 hc.2.2.2.2.1 C'.2.2.2.1 C'.2.2.2.2.2.2.2.2.1 hP (r_w_D B sp cA h) hS a he hc.2.1 k hk (C'.2.2.2.2.1 _ hw) (fun x hx => by rw [hc.2.2.2.2.2 k hk] at hx; exact hx) hfin (ty := .int) (v := .int x) (by rw [hc.2.2.2.1 k hk, hty]) rfl rfl (by simpa using hk) hd (fun H1 locs1 p1 _ s1 => ?_)
      rw [r_wI_obj hc.1 hsh hk (by unfold fr_; rw [hty]; rfl)] at p1
      exact kk H1 locs1 p1 s1 ls hL
    · cases e
  · cases e
theorem ok_putIF {C : String} {T : u_T} {N ci k idx : Nat} (hc : c_OK ci C T N) (hk : k < N) (hty : ty_ ci k = .int) (hfin : (T k).2.2.2 = true) (hy : y.name = "<init>") (hyc : C = y.cls) (hw : Cond.fieldLink y.cls idx C (T k).2.1 (T k).2.2.1 ∈ gtb) (hd : decode cc pc = .ok (.putfield idx, 3)) (hp : pc + 3 = pc') : r_OK B sp D cA SP M y cc nL rt pc (a_putI ci N k pc') := by
  intro d L st h out e
  subst hp
  unfold a_putI at e
  split at e
  · rename_i x a r
    split at e
    · rename_i hi
      obtain ⟨hlt, hsh⟩ := h_is_iff.mp hi
      cases e
      refine r_N1 rfl fun l p e R s m args below meth c H locs cells slots ls Q C' _ _ hP hS hL kk => ?_
      have he := r_w_at (B := B) (sp := sp) (cA := cA) (h := h) (k := a) hlt
      rw [r_e_obj hc.1 hsh] at he
      refine va_putF C'.1 C'.2.1 C'.2.2.2.2.1 hc.2.2.1 (ty_ ci) hc.2.2.2.1 hc.2.2.2.2.1 C'.2.2.2.1 C'.2.2.2.2.2.2.2.2.1 hP (r_w_D B sp cA h) hS a he hc.2.1 k hk (C'.2.2.2.2.1 _ hw) (fun x hx => by rw [hc.2.2.2.2.2 k hk] at hx; exact hx) hfin ((C'.2.2.2.2.2.2.2.1 hy).trans hy) ((hc.2.2.2.2.2 k hk).trans hyc) (ty := .int) (v := .int x) (by rw [hc.2.2.2.1 k hk, hty]) rfl rfl (by simpa using hk) hd (fun H1 locs1 p1 _ s1 => ?_)
      rw [r_wI_obj hc.1 hsh hk (by unfold fr_; rw [hty]; rfl)] at p1
      exact kk H1 locs1 p1 s1 ls hL
    · cases e
  · cases e
theorem ok_putZ {C : String} {T : u_T} {N ci k idx : Nat} (hc : c_OK ci C T N) (hk : k < N) (hty : ty_ ci k = .boolean) (hfin : (T k).2.2.2 = false) (hw : Cond.fieldLink y.cls idx C (T k).2.1 (T k).2.2.1 ∈ gtb) (hd : decode cc pc = .ok (.putfield idx, 3)) (hp : pc + 3 = pc') : r_OK B sp D cA SP M y cc nL rt pc (a_putZ ci N k pc') := by
  intro d L st h out e
  subst hp
  unfold a_putZ at e
  split at e
  · rename_i x a r
    split at e
    · rename_i hi
      rw [Bool.and_eq_true] at hi
      obtain ⟨hi, hb⟩ := hi
      have hb : x = 0 ∨ x = 1 := by simpa [h_bo] using hb
      obtain ⟨hlt, hsh⟩ := h_is_iff.mp hi
      cases e
      refine r_N1 rfl fun l p e R s m args below meth c H locs cells slots ls Q C' _ _ hP hS hL kk => ?_
      have he := r_w_at (B := B) (sp := sp) (cA := cA) (h := h) (k := a) hlt
      rw [r_e_obj hc.1 hsh] at he
      refine va_put C'.1 C'.2.1 C'.2.2.2.2.1 hc.2.2.1 (ty_ ci) hc.2.2.2.1 hc.2.2.2.2.1 C'.2.2.2.1 C'.2.2.2.2.2.2.2.2.1 hP (r_w_D B sp cA h) hS a he hc.2.1 k hk (C'.2.2.2.2.1 _ hw) (fun x hx => by rw [hc.2.2.2.2.2 k hk] at hx; exact hx) hfin (ty := .boolean) (v := .int x) (by rw [hc.2.2.2.1 k hk, hty]) (by rcases hb with rfl | rfl <;> decide +kernel) (by rcases hb with rfl | rfl <;> decide +kernel) (by simpa using hk) hd (fun H1 locs1 p1 _ s1 => ?_)
      rw [r_wI_obj hc.1 hsh hk (by unfold fr_; rw [hty]; rfl)] at p1
      exact kk H1 locs1 p1 s1 ls hL
    · cases e
  · cases e
theorem r_nar {B : Nat} {sp : Nat → Value} (hs : r_sp sp) {ty : FieldType} (ht : ty.isReference = true) (x : mr) : narrow ty (r_v B sp (.inr x)) = r_v B sp (.inr x) ∧ fits ty (r_v B sp (.inr x)) = true := by
  rcases r_ref (B := B) hs x with e | ⟨a, e⟩ <;> rw [e] <;> cases ty <;> first | exact ⟨rfl, rfl⟩ | (cases ht; done)
theorem ok_putR {C : String} {T : u_T} {N ci k idx : Nat} (hc : c_OK ci C T N) (hk : k < N) (hty : (ty_ ci k).isReference = true) (hfin : (T k).2.2.2 = false) (hw : Cond.fieldLink y.cls idx C (T k).2.1 (T k).2.2.1 ∈ gtb) (hd : decode cc pc = .ok (.putfield idx, 3)) (hp : pc + 3 = pc') : r_OK B sp D cA SP M y cc nL rt pc (a_putR ci N k pc') := by
  intro d L st h out e
  subst hp
  unfold a_putR at e
  split at e
  · rename_i x a r
    split at e
    · rename_i hi
      obtain ⟨hlt, hsh⟩ := h_is_iff.mp hi
      cases e
      refine r_N1 rfl fun l p e R s m args below meth c H locs cells slots ls Q C' _ _ hP hS hL kk => ?_
      have he := r_w_at (B := B) (sp := sp) (cA := cA) (h := h) (k := a) hlt
      rw [r_e_obj hc.1 hsh] at he
      have hn := r_nar (B := B) C'.2.2.2.2.2.2.2.2.2.2 hty x
      refine va_put C'.1 C'.2.1 C'.2.2.2.2.1 hc.2.2.1 (ty_ ci) hc.2.2.2.1 hc.2.2.2.2.1 C'.2.2.2.1 C'.2.2.2.2.2.2.2.2.1 hP (r_w_D B sp cA h) hS a he hc.2.1 k hk (C'.2.2.2.2.1 _ hw) (fun x hx => by rw [hc.2.2.2.2.2 k hk] at hx; exact hx) hfin (ty := ty_ ci k) (v := r_v B sp (.inr x)) (hc.2.2.2.1 k hk) hn.1 hn.2 (by simpa using hk) hd (fun H1 locs1 p1 _ s1 => ?_)
      rw [r_wR_obj hc.1 hsh hk hty] at p1
      exact kk H1 locs1 p1 s1 ls hL
    · cases e
  · cases e
theorem ok_putRF {C : String} {T : u_T} {N ci k idx : Nat} (hc : c_OK ci C T N) (hk : k < N) (hty : (ty_ ci k).isReference = true) (hfin : (T k).2.2.2 = true) (hy : y.name = "<init>") (hyc : C = y.cls) (hw : Cond.fieldLink y.cls idx C (T k).2.1 (T k).2.2.1 ∈ gtb) (hd : decode cc pc = .ok (.putfield idx, 3)) (hp : pc + 3 = pc') : r_OK B sp D cA SP M y cc nL rt pc (a_putR ci N k pc') := by
  intro d L st h out e
  subst hp
  unfold a_putR at e
  split at e
  · rename_i x a r
    split at e
    · rename_i hi
      obtain ⟨hlt, hsh⟩ := h_is_iff.mp hi
      cases e
      refine r_N1 rfl fun l p e R s m args below meth c H locs cells slots ls Q C' _ _ hP hS hL kk => ?_
      have he := r_w_at (B := B) (sp := sp) (cA := cA) (h := h) (k := a) hlt
      rw [r_e_obj hc.1 hsh] at he
      have hn := r_nar (B := B) C'.2.2.2.2.2.2.2.2.2.2 hty x
      refine va_putF C'.1 C'.2.1 C'.2.2.2.2.1 hc.2.2.1 (ty_ ci) hc.2.2.2.1 hc.2.2.2.2.1 C'.2.2.2.1 C'.2.2.2.2.2.2.2.2.1 hP (r_w_D B sp cA h) hS a he hc.2.1 k hk (C'.2.2.2.2.1 _ hw) (fun x hx => by rw [hc.2.2.2.2.2 k hk] at hx; exact hx) hfin ((C'.2.2.2.2.2.2.2.1 hy).trans hy) ((hc.2.2.2.2.2 k hk).trans hyc) (ty := ty_ ci k) (v := r_v B sp (.inr x)) (hc.2.2.2.1 k hk) hn.1 hn.2 (by simpa using hk) hd (fun H1 locs1 p1 _ s1 => ?_)
      rw [r_wR_obj hc.1 hsh hk hty] at p1
      exact kk H1 locs1 p1 s1 ls hL
    · cases e
  · cases e
theorem r_vin {i : Int32} {n : Nat} (h1 : 0 ≤ i.toInt) (h2 : i.toInt < n) : vp_in i n := vp_in_iff.mpr ⟨h1, h2⟩
theorem ok_iald (hd : decode cc pc = .ok (.iaload, 1)) (hp : pc + 1 = pc') : r_OK B sp D cA SP M y cc nL rt pc (a_ald 0 pc') := by
  intro d L st h out e
  subst hp
  unfold a_ald at e
  split at e
  · rename_i i a r
    split at e
    · rename_i hi
      obtain ⟨hlt, hsh, h1, h2⟩ := h_ia_iff.mp hi
      cases e
      refine r_N0 fun l p e R s m args below meth c H locs cells slots ls Q C' _ _ hP hS hL kk => ?_
      have he := r_w_at (B := B) (sp := sp) (cA := cA) (h := h) (k := a) hlt
      rw [r_e_arr (by decide) hsh] at he
      exact va_iald C'.1 C'.2.1 C'.2.2.2.2.2.2.2.2.1 hP a 0 he rfl (r_vin h1 h2) hd (kk ls hL)
    · cases e
  · cases e
theorem ok_zald (hd : decode cc pc = .ok (.baload, 1)) (hp : pc + 1 = pc') : r_OK B sp D cA SP M y cc nL rt pc (a_ald 1 pc') := by
  intro d L st h out e
  subst hp
  unfold a_ald at e
  split at e
  · rename_i i a r
    split at e
    · rename_i hi
      obtain ⟨hlt, hsh, h1, h2⟩ := h_ia_iff.mp hi
      cases e
      refine r_N0 fun l p e R s m args below meth c H locs cells slots ls Q C' _ _ hP hS hL kk => ?_
      have he := r_w_at (B := B) (sp := sp) (cA := cA) (h := h) (k := a) hlt
      rw [r_e_arr (by decide) hsh] at he
      exact va_zald C'.1 C'.2.1 C'.2.2.2.2.2.2.2.2.1 hP a 1 he rfl (r_vin h1 h2) hd (kk ls hL)
    · cases e
  · cases e
theorem ok_cald (hd : decode cc pc = .ok (.caload, 1)) (hp : pc + 1 = pc') : r_OK B sp D cA SP M y cc nL rt pc (a_ald 2 pc') := by
  intro d L st h out e
  subst hp
  unfold a_ald at e
  split at e
  · rename_i i a r
    split at e
    · rename_i hi
      obtain ⟨hlt, hsh, h1, h2⟩ := h_ia_iff.mp hi
      cases e
      refine r_N0 fun l p e R s m args below meth c H locs cells slots ls Q C' _ _ hP hS hL kk => ?_
      have he := r_w_at (B := B) (sp := sp) (cA := cA) (h := h) (k := a) hlt
      rw [r_e_arr (by decide) hsh] at he
      exact va_cald C'.1 C'.2.1 C'.2.2.2.2.2.2.2.2.1 hP a 2 he rfl (r_vin h1 h2) hd (kk ls hL)
    · cases e
  · cases e
theorem ok_iast (hd : decode cc pc = .ok (.iastore, 1)) (hp : pc + 1 = pc') : r_OK B sp D cA SP M y cc nL rt pc (a_ast 0 (fun x => x) pc') := by
  intro d L st h out e
  subst hp
  unfold a_ast at e
  split at e
  · rename_i x i a r
    split at e
    · rename_i hi
      obtain ⟨hlt, hsh, h1, h2⟩ := h_ia_iff.mp hi
      cases e
      refine r_N1 rfl fun l p e R s m args below meth c H locs cells slots ls Q C' _ _ hP hS hL kk => ?_
      have he := r_w_at (B := B) (sp := sp) (cA := cA) (h := h) (k := a) hlt
      rw [r_e_arr (by decide) hsh] at he
      refine va_iast C'.1 C'.2.1 C'.2.2.2.2.2.2.2.2.1 hP (r_w_D B sp cA h) hS a 0 he rfl (r_vin h1 h2) hd (fun H1 locs1 p1 _ s1 => ?_)
      rw [r_wI_arr (by decide) hsh] at p1
      exact kk H1 locs1 p1 s1 ls hL
    · cases e
  · cases e
theorem ok_zast (hd : decode cc pc = .ok (.bastore, 1)) (hp : pc + 1 = pc') : r_OK B sp D cA SP M y cc nL rt pc (a_ast 1 (vp_nar .boolean) pc') := by
  intro d L st h out e
  subst hp
  unfold a_ast at e
  split at e
  · rename_i x i a r
    split at e
    · rename_i hi
      obtain ⟨hlt, hsh, h1, h2⟩ := h_ia_iff.mp hi
      cases e
      refine r_N1 rfl fun l p e R s m args below meth c H locs cells slots ls Q C' _ _ hP hS hL kk => ?_
      have he := r_w_at (B := B) (sp := sp) (cA := cA) (h := h) (k := a) hlt
      rw [r_e_arr (by decide) hsh] at he
      refine va_zast C'.1 C'.2.1 C'.2.2.2.2.2.2.2.2.1 hP (r_w_D B sp cA h) hS a 1 he rfl (r_vin h1 h2) hd (fun H1 locs1 p1 _ s1 => ?_)
      rw [r_wI_arr (by decide) hsh] at p1
      exact kk H1 locs1 p1 s1 ls hL
    · cases e
  · cases e
theorem ok_cast (hd : decode cc pc = .ok (.castore, 1)) (hp : pc + 1 = pc') : r_OK B sp D cA SP M y cc nL rt pc (a_ast 2 (vp_nar .char) pc') := by
  intro d L st h out e
  subst hp
  unfold a_ast at e
  split at e
  · rename_i x i a r
    split at e
    · rename_i hi
      obtain ⟨hlt, hsh, h1, h2⟩ := h_ia_iff.mp hi
      cases e
      refine r_N1 rfl fun l p e R s m args below meth c H locs cells slots ls Q C' _ _ hP hS hL kk => ?_
      have he := r_w_at (B := B) (sp := sp) (cA := cA) (h := h) (k := a) hlt
      rw [r_e_arr (by decide) hsh] at he
      refine va_cast C'.1 C'.2.1 C'.2.2.2.2.2.2.2.2.1 hP (r_w_D B sp cA h) hS a 2 he rfl (r_vin h1 h2) hd (fun H1 locs1 p1 _ s1 => ?_)
      rw [r_wI_arr (by decide) hsh] at p1
      exact kk H1 locs1 p1 s1 ls hL
    · cases e
  · cases e
theorem tys_obj {cA : Nat → ClassId} {t : Nat} {C : String} (h : (tys_ cA)[t]? = some (cA t, .object C)) : (tys_ cA)[t]? = some (cA t, .object C) := h
theorem ok_aald {t : Nat} {C : String} (ht : 4 ≤ t) (hC : ∀ cA : Nat → ClassId, (tys_ cA)[t]? = some (cA t, .object C)) (hd : decode cc pc = .ok (.aaload, 1)) (hp : pc + 1 = pc') : r_OK B sp D cA SP M y cc nL rt pc (a_aald t pc') := by
  intro d L st h out e
  subst hp
  unfold a_aald at e
  split at e
  · rename_i i a r
    split at e
    · rename_i hi
      obtain ⟨hlt, hsh, h1, h2⟩ := h_ia_iff.mp hi
      split at e
      · rename_i o ho
        cases e
        refine r_N0 fun l p e R s m args below meth c H locs cells slots ls Q C' _ _ hP hS hL kk => ?_
        have he := r_w_at (B := B) (sp := sp) (cA := cA) (h := h) (k := a) hlt
        rw [r_e_arq ht hsh] at he
        refine va_aldq C'.1 C'.2.1 C'.2.2.2.2.2.2.2.2.1 hP a t he (hC cA) (r_vin h1 h2) hd ?_
        have k2 := kk ls hL
        rw [ho]
        cases o <;> exact k2
      · cases e
    · cases e
  · cases e
theorem ok_aast {t ci N : Nat} {C : String} {T : u_T} (ht : 4 ≤ t) (hC : ∀ cA : Nat → ClassId, (tys_ cA)[t]? = some (cA t, .object C)) (hc : c_OK ci C T N) (hd : decode cc pc = .ok (.aastore, 1)) (hp : pc + 1 = pc') : r_OK B sp D cA SP M y cc nL rt pc (a_aast t ci N pc') := by
  intro d L st h out e
  subst hp
  unfold a_aast at e
  split at e
  · rename_i v i a r
    split at e
    · rename_i hi
      rw [Bool.and_eq_true] at hi
      obtain ⟨hlt, hsh, h1, h2⟩ := h_ia_iff.mp hi.1
      obtain ⟨hlt2, hsh2⟩ := h_is_iff.mp hi.2
      cases e
      refine r_N1 rfl fun l p e R s m args below meth c H locs cells slots ls Q C' _ _ hP hS hL kk => ?_
      have he := r_w_at (B := B) (sp := sp) (cA := cA) (h := h) (k := a) hlt
      rw [r_e_arq ht hsh] at he
      have he2 := r_w_at (B := B) (sp := sp) (cA := cA) (h := h) (k := v) hlt2
      rw [r_e_obj hc.1 hsh2] at he2
      refine va_astq C'.1 C'.2.1 C'.2.2.2.2.2.2.2.2.1 hP (r_w_D B sp cA h) hS a t v ci he (r := (C, T, N)) (hC cA) he2 hc.2.1 (r_vin h1 h2) hd (fun H1 locs1 p1 _ s1 => ?_)
      rw [r_wR_arr ht hsh] at p1
      exact kk H1 locs1 p1 s1 ls hL
    · cases e
  · cases e
theorem ok_alen {t : Nat} (ht : t < 4) (hd : decode cc pc = .ok (.arraylength, 1)) (hp : pc + 1 = pc') : r_OK B sp D cA SP M y cc nL rt pc (a_alen t pc') := by
  intro d L st h out e
  subst hp
  unfold a_alen at e
  split at e
  · rename_i a r
    split at e
    · rename_i hi
      obtain ⟨hlt, hsh⟩ := h_is_iff.mp hi
      cases e
      refine r_N0 fun l p e R s m args below meth c H locs cells slots ls Q C' _ _ hP hS hL kk => ?_
      have he := r_w_at (B := B) (sp := sp) (cA := cA) (h := h) (k := a) hlt
      rw [r_e_arr ht (by rw [hsh])] at he
      have hT : ∃ ty, (tys_ cA)[t]? = some (cA t, ty) := by
        rcases (show t = 0 ∨ t = 1 ∨ t = 2 ∨ t = 3 by omega) with rfl | rfl | rfl | rfl <;> exact ⟨_, rfl⟩
      obtain ⟨ty, hT⟩ := hT
      exact va_alen C'.1 C'.2.1 C'.2.2.2.2.2.2.2.2.1 hP a t he hT rfl hd (kk ls hL)
    · cases e
  · cases e
end OKH

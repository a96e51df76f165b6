/-! WHICH INSTRUCTIONS ARE WHICH ACTIONS -/
section OKS
variable {B : Nat} {sp : Nat → Value} {D : va_G} {cA : Nat → ClassId} {SP : State → Prop} {M : mM} {y : MethodName} {cc : ByteArray} {nL : Nat} {rt : Option FieldType} {pc pc' : Nat}
/-- a step that leaves the heap -/
theorem r_N0 {d pc pc' : Nat} {L L' : mL} {st st' : List mV} {h : mH} (k : ∀ (l : Launch) (p : Program) (e : Env) (R : Room) (s : State) (m : MethodId) (args : Array Value) (below : List Frame) (meth : Method) (c : Code) (H : Heap) (locs : List Loc) (cells slots : Nat) (ls : Array Slot) (Q : State → Prop),
    r_C B sp D cA SP y cc nL rt p s m args meth c → d ≤ R.frames → 41 * d ≤ R.locals → va_P D vwCl (r_w B sp cA h) H → va_S (r_A B) s.heap H locs → r_L B sp ls nL L →
    (∀ ls1 : Array Slot, r_L B sp ls1 nL L' → W p l e R s m args below meth c H locs cells slots Q (F0 m pc' ls1 (st'.map (r_v B sp)))) → W p l e R s m args below meth c H locs cells slots Q (F0 m pc ls (st.map (r_v B sp)))) : r_N B sp D cA SP y cc nL rt d pc L st h (pc', L', st', h) := by
  refine ⟨Nat.le_refl _, Nat.le_refl _, ?_⟩
  intro l p e R s m args below meth c H locs cells slots c0 ls Q C hd1 hd2 hB hc e1 e2 hp hS hL kk
  dsimp only at kk
  rw [Nat.sub_self, Nat.sub_self] at kk
  exact k l p e R s m args below meth c H locs cells slots ls Q C hd1 hd2 hp hS hL fun ls1 h1 => kk H locs ls1 hp hS h1
theorem ok_iconst {n : Int} {v : Int32} (hd : decode cc pc = .ok (.iconst n, 1)) (hv : Int32.ofInt n = v) (hp : pc + 1 = pc') : r_OK B sp D cA SP M y cc nL rt pc (a_push v pc') := by
  intro d L st h out e
  subst hp
  cases e
  exact r_N0 fun l p e R s m args below meth c H locs cells slots ls Q C _ _ _ _ hL k => lv_iconst C.1 C.2.1 hd hv (k ls hL)
theorem ok_bipush {n : Int} {v : Int32} (hd : decode cc pc = .ok (.bipush n, 2)) (hv : (Int8.ofInt n).toInt32 = v) (hp : pc + 2 = pc') : r_OK B sp D cA SP M y cc nL rt pc (a_push v pc') := by
  intro d L st h out e
  subst hp
  cases e
  exact r_N0 fun l p e R s m args below meth c H locs cells slots ls Q C _ _ _ _ hL k => lv_bipush C.1 C.2.1 hd hv (k ls hL)
theorem ok_sipush {n : Int} {v : Int32} (hd : decode cc pc = .ok (.sipush n, 3)) (hv : (Int16.ofInt n).toInt32 = v) (hp : pc + 3 = pc') : r_OK B sp D cA SP M y cc nL rt pc (a_push v pc') := by
  intro d L st h out e
  subst hp
  cases e
  exact r_N0 fun l p e R s m args below meth c H locs cells slots ls Q C _ _ _ _ hL k => lv_sipush C.1 C.2.1 hd hv (k ls hL)
theorem ok_ldc {i : Nat} {v : Int32} (hw : Cond.constant y.cls i v ∈ gtb) (hd : decode cc pc = .ok (.ldc i, 2)) (hp : pc + 2 = pc') : r_OK B sp D cA SP M y cc nL rt pc (a_push v pc') := by
  intro d L st h out e
  subst hp
  cases e
  exact r_N0 fun l p e R s m args below meth c H locs cells slots ls Q C _ _ _ _ hL k => lv_ldc C.1 C.2.1 C.2.2.2.1 (C.2.2.2.2.1 _ hw) hd (k ls hL)
theorem ok_ldc_w {i : Nat} {v : Int32} (hw : Cond.constant y.cls i v ∈ gtb) (hd : decode cc pc = .ok (.ldc_w i, 3)) (hp : pc + 3 = pc') : r_OK B sp D cA SP M y cc nL rt pc (a_push v pc') := by
  intro d L st h out e
  subst hp
  cases e
  exact r_N0 fun l p e R s m args below meth c H locs cells slots ls Q C _ _ _ _ hL k => lv_ldcw C.1 C.2.1 C.2.2.2.1 (C.2.2.2.2.1 _ hw) hd (k ls hL)
theorem ok_null (hd : decode cc pc = .ok (.aconst_null, 1)) (hp : pc + 1 = pc') : r_OK B sp D cA SP M y cc nL rt pc (a_null pc') := by
  intro d L st h out e
  subst hp
  cases e
  exact r_N0 fun l p e R s m args below meth c H locs cells slots ls Q C _ _ _ _ hL k => lv_null C.1 C.2.1 hd (k ls hL)
theorem ok_iload_n {i : Nat} {k : Fin 4} (hd : decode cc pc = .ok (.iload_n k, 1)) (hi : (k : Nat) = i) (hp : pc + 1 = pc') : r_OK B sp D cA SP M y cc nL rt pc (a_iload i pc') := by
  intro d L st h out e
  subst hp
  unfold a_iload at e
  split at e
  · rename_i x hx
    cases e
    exact r_N0 fun l p e R s m args below meth c H locs cells slots ls Q C _ _ _ _ hL k => lv_iload_n C.1 C.2.1 hd hi (hL.2.2.2 _ _ hx) (k ls hL)
  · cases e
theorem ok_iload {i : Nat} (hd : decode cc pc = .ok (.iload i, 2)) (hp : pc + 2 = pc') : r_OK B sp D cA SP M y cc nL rt pc (a_iload i pc') := by
  intro d L st h out e
  subst hp
  unfold a_iload at e
  split at e
  · rename_i x hx
    cases e
    exact r_N0 fun l p e R s m args below meth c H locs cells slots ls Q C _ _ _ _ hL k => lv_iload C.1 C.2.1 hd (hL.2.2.2 _ _ hx) (k ls hL)
  · cases e
section AL
variable {p : Program} {l : Launch} {e : Env} {R : Room} {s : State} {m : MethodId} {args : Array Value} {below : List Frame} {meth : Method} {c : Code} {H : Heap} {locs : List Loc} {cells slots : Nat} {Q : State → Prop} {ls : Array Slot} {rest : List Value} {v : Value}
theorem lx_aload_n (hexec : p.tables.exec = Jvm.exec) (hb : c.code = cc) (hv : v = .null ∨ ∃ a, v = .ref a) {k : Fin 4} {i : Nat} (hdg : decode cc pc = .ok (.aload_n k, 1)) (hi : (k : Nat) = i) (hl : ls[i]? = some (.val v))
    (kk : W p l e R s m args below meth c H locs cells slots Q (F0 m (pc + 1) ls (v :: rest))) : W p l e R s m args below meth c H locs cells slots Q (F0 m pc ls rest) := by
  rcases hv with rfl | ⟨a, rfl⟩
  · intro T hT X
    obtain ⟨t, a, b⟩ := kk T hT X
    refine ⟨t, ?_, b⟩
    subst hi
    jvm_step X.here [X.here.top, hexec, hb, hdg, hl, Value.isRef]
    exact a
  · exact lv_aload_n hexec hb hdg hi hl kk
theorem lx_aload (hexec : p.tables.exec = Jvm.exec) (hb : c.code = cc) (hv : v = .null ∨ ∃ a, v = .ref a) {i : Nat} (hdg : decode cc pc = .ok (.aload i, 2)) (hl : ls[i]? = some (.val v))
    (kk : W p l e R s m args below meth c H locs cells slots Q (F0 m (pc + 2) ls (v :: rest))) : W p l e R s m args below meth c H locs cells slots Q (F0 m pc ls rest) := by
  rcases hv with rfl | ⟨a, rfl⟩
  · intro T hT X
    obtain ⟨t, a, b⟩ := kk T hT X
    refine ⟨t, ?_, b⟩
    jvm_step X.here [X.here.top, hexec, hb, hdg, hl, Value.isRef]
    exact a
  · exact lv_aload hexec hb hdg hl kk
theorem lx_astore_n (hexec : p.tables.exec = Jvm.exec) (hb : c.code = cc) (hv : v = .null ∨ ∃ a, v = .ref a) {k : Fin 4} {i nL : Nat} {lv : List (Nat × Value)} (hdg : decode cc pc = .ok (.astore_n k, 1)) (hi : (k : Nat) = i) (h : lv_has ls nL lv) (hn : i < nL)
    (kk : ∀ ls' : Array Slot, lv_has ls' nL ((i, v) :: lv.filter (fun q => !(q.1 == i) && !(q.1 + 1 == i && q.2.category == 2))) → W p l e R s m args below meth c H locs cells slots Q (F0 m (pc + 1) ls' rest)) : W p l e R s m args below meth c H locs cells slots Q (F0 m pc ls (v :: rest)) := by
  rcases hv with rfl | ⟨a, rfl⟩
  · subst hi
    obtain ⟨ls', e', h'⟩ := lv_store1 (v := .null) h hn rfl
    intro T hT X
    obtain ⟨t, a, b⟩ := kk ls' h' T hT X
    refine ⟨t, ?_, b⟩
    jvm_step X.here [X.here.top, ↓top_set X.here.top, hexec, hb, hdg, e', Value.isRef]
    exact a
  · exact lv_astore_n hexec hb hdg hi h hn rfl kk
theorem lx_astore (hexec : p.tables.exec = Jvm.exec) (hb : c.code = cc) (hv : v = .null ∨ ∃ a, v = .ref a) {i nL : Nat} {lv : List (Nat × Value)} (hdg : decode cc pc = .ok (.astore i, 2)) (h : lv_has ls nL lv) (hn : i < nL)
    (kk : ∀ ls' : Array Slot, lv_has ls' nL ((i, v) :: lv.filter (fun q => !(q.1 == i) && !(q.1 + 1 == i && q.2.category == 2))) → W p l e R s m args below meth c H locs cells slots Q (F0 m (pc + 2) ls' rest)) : W p l e R s m args below meth c H locs cells slots Q (F0 m pc ls (v :: rest)) := by
  rcases hv with rfl | ⟨a, rfl⟩
  · obtain ⟨ls', e', h'⟩ := lv_store1 (v := .null) h hn rfl
    intro T hT X
    obtain ⟨t, a, b⟩ := kk ls' h' T hT X
    refine ⟨t, ?_, b⟩
    jvm_step X.here [X.here.top, ↓top_set X.here.top, hexec, hb, hdg, e', Value.isRef]
    exact a
  · exact lv_astore hexec hb hdg h hn rfl kk
end AL
theorem ok_aload_n {i : Nat} {k : Fin 4} (hd : decode cc pc = .ok (.aload_n k, 1)) (hi : (k : Nat) = i) (hp : pc + 1 = pc') : r_OK B sp D cA SP M y cc nL rt pc (a_aload i pc') := by
  intro d L st h out e
  subst hp
  unfold a_aload at e
  split at e
  · rename_i x hx
    cases e
    exact r_N0 fun l p e R s m args below meth c H locs cells slots ls Q C _ _ _ _ hL k => lx_aload_n C.1 C.2.1 (r_ref C.2.2.2.2.2.2.2.2.2.2 x) hd hi (hL.2.2.2 _ _ hx) (k ls hL)
  · cases e
theorem ok_aload {i : Nat} (hd : decode cc pc = .ok (.aload i, 2)) (hp : pc + 2 = pc') : r_OK B sp D cA SP M y cc nL rt pc (a_aload i pc') := by
  intro d L st h out e
  subst hp
  unfold a_aload at e
  split at e
  · rename_i x hx
    cases e
    exact r_N0 fun l p e R s m args below meth c H locs cells slots ls Q C _ _ _ _ hL k => lx_aload C.1 C.2.1 (r_ref C.2.2.2.2.2.2.2.2.2.2 x) hd (hL.2.2.2 _ _ hx) (k ls hL)
  · cases e
theorem ok_istore_n {i : Nat} {k : Fin 4} (hd : decode cc pc = .ok (.istore_n k, 1)) (hi : (k : Nat) = i) (hp : pc + 1 = pc') : r_OK B sp D cA SP M y cc nL rt pc (a_istore i pc') := by
  intro d L st h out e
  subst hp
  unfold a_istore at e
  split at e
  · rename_i x r
    split at e
    · rename_i hlt
      cases e
      exact r_N0 fun l p e R s m args below meth c H locs cells slots ls Q C _ _ _ _ hL k => lv_istore_n C.1 C.2.1 hd hi (r_L_has hL) (by rw [← hL.2.1]; exact hlt) rfl (fun ls' h' => k ls' (r_L_set C.2.2.2.2.2.2.2.2.2.2 hL (by rw [← hL.2.1]; exact hlt) h'))
    · cases e
  · cases e
theorem ok_istore {i : Nat} (hd : decode cc pc = .ok (.istore i, 2)) (hp : pc + 2 = pc') : r_OK B sp D cA SP M y cc nL rt pc (a_istore i pc') := by
  intro d L st h out e
  subst hp
  unfold a_istore at e
  split at e
  · rename_i x r
    split at e
    · rename_i hlt
      cases e
      exact r_N0 fun l p e R s m args below meth c H locs cells slots ls Q C _ _ _ _ hL k => lv_istore C.1 C.2.1 hd (r_L_has hL) (by rw [← hL.2.1]; exact hlt) rfl (fun ls' h' => k ls' (r_L_set C.2.2.2.2.2.2.2.2.2.2 hL (by rw [← hL.2.1]; exact hlt) h'))
    · cases e
  · cases e
theorem ok_astore_n {i : Nat} {k : Fin 4} (hd : decode cc pc = .ok (.astore_n k, 1)) (hi : (k : Nat) = i) (hp : pc + 1 = pc') : r_OK B sp D cA SP M y cc nL rt pc (a_astore i pc') := by
  intro d L st h out e
  subst hp
  unfold a_astore at e
  split at e
  · rename_i x r
    split at e
    · rename_i hlt
      cases e
      exact r_N0 fun l p e R s m args below meth c H locs cells slots ls Q C _ _ _ _ hL k => lx_astore_n C.1 C.2.1 (r_ref C.2.2.2.2.2.2.2.2.2.2 x) hd hi (r_L_has hL) (by rw [← hL.2.1]; exact hlt) (fun ls' h' => k ls' (r_L_set C.2.2.2.2.2.2.2.2.2.2 hL (by rw [← hL.2.1]; exact hlt) h'))
    · cases e
  · cases e
theorem ok_astore {i : Nat} (hd : decode cc pc = .ok (.astore i, 2)) (hp : pc + 2 = pc') : r_OK B sp D cA SP M y cc nL rt pc (a_astore i pc') := by
  intro d L st h out e
  subst hp
  unfold a_astore at e
  split at e
  · rename_i x r
    split at e
    · rename_i hlt
      cases e
      exact r_N0 fun l p e R s m args below meth c H locs cells slots ls Q C _ _ _ _ hL k => lx_astore C.1 C.2.1 (r_ref C.2.2.2.2.2.2.2.2.2.2 x) hd (r_L_has hL) (by rw [← hL.2.1]; exact hlt) (fun ls' h' => k ls' (r_L_set C.2.2.2.2.2.2.2.2.2.2 hL (by rw [← hL.2.1]; exact hlt) h'))
    · cases e
  · cases e
theorem ok_iinc {i : Nat} {n : Int} {v : Int32} (hd : decode cc pc = .ok (.iinc i n, 3)) (hv : Int32.ofInt n = v) (hp : pc + 3 = pc') : r_OK B sp D cA SP M y cc nL rt pc (a_iinc i v pc') := by
  intro d L st h out e
  subst hp
  unfold a_iinc at e
  split at e
  · rename_i x hx
    cases e
    refine r_N0 fun l p e R s m args below meth c H locs cells slots ls Q C _ _ _ _ hL k => ?_
    obtain ⟨j, hj⟩ := List.getElem?_of_mem (r_l_mem (B := B) (sp := sp) hx)
    have hlt : i < nL := by rw [← hL.2.1]; exact (List.getElem?_eq_some_iff.mp hx).1
    exact lv_iinc C.1 C.2.1 hd (r_L_has hL) hj (by rw [hv]) hlt rfl (fun ls' h' => k ls' (r_L_set C.2.2.2.2.2.2.2.2.2.2 hL hlt h'))
  · cases e
theorem ok_iadd (hd : decode cc pc = .ok (.iadd, 1)) (hp : pc + 1 = pc') : r_OK B sp D cA SP M y cc nL rt pc (a_bin (fun x y => x + y) pc') := by
  intro d L st h out e
  subst hp
  unfold a_bin at e
  split at e
  · cases e
    exact r_N0 fun l p e R s m args below meth c H locs cells slots ls Q C _ _ _ _ hL k => lv_iadd C.1 C.2.1 hd (k ls hL)
  · cases e
theorem ok_isub (hd : decode cc pc = .ok (.isub, 1)) (hp : pc + 1 = pc') : r_OK B sp D cA SP M y cc nL rt pc (a_bin (fun x y => x - y) pc') := by
  intro d L st h out e
  subst hp
  unfold a_bin at e
  split at e
  · cases e
    exact r_N0 fun l p e R s m args below meth c H locs cells slots ls Q C _ _ _ _ hL k => lv_isub C.1 C.2.1 hd (k ls hL)
  · cases e
theorem ok_imul (hd : decode cc pc = .ok (.imul, 1)) (hp : pc + 1 = pc') : r_OK B sp D cA SP M y cc nL rt pc (a_bin (fun x y => x * y) pc') := by
  intro d L st h out e
  subst hp
  unfold a_bin at e
  split at e
  · cases e
    exact r_N0 fun l p e R s m args below meth c H locs cells slots ls Q C _ _ _ _ hL k => lv_imul C.1 C.2.1 hd (k ls hL)
  · cases e
theorem ok_iand (hd : decode cc pc = .ok (.iand, 1)) (hp : pc + 1 = pc') : r_OK B sp D cA SP M y cc nL rt pc (a_bin (fun x y => x &&& y) pc') := by
  intro d L st h out e
  subst hp
  unfold a_bin at e
  split at e
  · cases e
    exact r_N0 fun l p e R s m args below meth c H locs cells slots ls Q C _ _ _ _ hL k => lv_iand C.1 C.2.1 hd (k ls hL)
  · cases e
theorem ok_ior (hd : decode cc pc = .ok (.ior, 1)) (hp : pc + 1 = pc') : r_OK B sp D cA SP M y cc nL rt pc (a_bin (fun x y => x ||| y) pc') := by
  intro d L st h out e
  subst hp
  unfold a_bin at e
  split at e
  · cases e
    exact r_N0 fun l p e R s m args below meth c H locs cells slots ls Q C _ _ _ _ hL k => lv_ior C.1 C.2.1 hd (k ls hL)
  · cases e
theorem ok_ixor (hd : decode cc pc = .ok (.ixor, 1)) (hp : pc + 1 = pc') : r_OK B sp D cA SP M y cc nL rt pc (a_bin (fun x y => x ^^^ y) pc') := by
  intro d L st h out e
  subst hp
  unfold a_bin at e
  split at e
  · cases e
    exact r_N0 fun l p e R s m args below meth c H locs cells slots ls Q C _ _ _ _ hL k => lv_ixor C.1 C.2.1 hd (k ls hL)
  · cases e
theorem ok_ishl (hd : decode cc pc = .ok (.ishl, 1)) (hp : pc + 1 = pc') : r_OK B sp D cA SP M y cc nL rt pc (a_bin (fun x y => x <<< (y &&& 31)) pc') := by
  intro d L st h out e
  subst hp
  unfold a_bin at e
  split at e
  · cases e
    exact r_N0 fun l p e R s m args below meth c H locs cells slots ls Q C _ _ _ _ hL k => lv_ishl C.1 C.2.1 hd (k ls hL)
  · cases e
theorem ok_ishr (hd : decode cc pc = .ok (.ishr, 1)) (hp : pc + 1 = pc') : r_OK B sp D cA SP M y cc nL rt pc (a_bin (fun x y => x >>> (y &&& 31)) pc') := by
  intro d L st h out e
  subst hp
  unfold a_bin at e
  split at e
  · cases e
    exact r_N0 fun l p e R s m args below meth c H locs cells slots ls Q C _ _ _ _ hL k => lv_ishr C.1 C.2.1 hd (k ls hL)
  · cases e
theorem ok_iushr (hd : decode cc pc = .ok (.iushr, 1)) (hp : pc + 1 = pc') : r_OK B sp D cA SP M y cc nL rt pc (a_bin (fun x y => (x.toUInt32 >>> (y.toUInt32 &&& Int32.toUInt32 31)).toInt32) pc') := by
  intro d L st h out e
  subst hp
  unfold a_bin at e
  split at e
  · cases e
    exact r_N0 fun l p e R s m args below meth c H locs cells slots ls Q C _ _ _ _ hL k => lv_iushr C.1 C.2.1 hd rfl (k ls hL)
  · cases e
theorem ok_idiv (hd : decode cc pc = .ok (.idiv, 1)) (hp : pc + 1 = pc') : r_OK B sp D cA SP M y cc nL rt pc (a_div (fun x y => x / y) pc') := by
  intro d L st h out e
  subst hp
  unfold a_div at e
  split at e
  · split at e
    · cases e
    · rename_i hne
      cases e
      exact r_N0 fun l p e R s m args below meth c H locs cells slots ls Q C _ _ _ _ hL k => lv_idiv C.1 C.2.1 hd hne (k ls hL)
  · cases e
theorem ok_irem (hd : decode cc pc = .ok (.irem, 1)) (hp : pc + 1 = pc') : r_OK B sp D cA SP M y cc nL rt pc (a_div (fun x y => x - x / y * y) pc') := by
  intro d L st h out e
  subst hp
  unfold a_div at e
  split at e
  · split at e
    · cases e
    · rename_i hne
      cases e
      exact r_N0 fun l p e R s m args below meth c H locs cells slots ls Q C _ _ _ _ hL k => lv_irem C.1 C.2.1 hd hne (k ls hL)
  · cases e
theorem ok_ineg (hd : decode cc pc = .ok (.ineg, 1)) (hp : pc + 1 = pc') : r_OK B sp D cA SP M y cc nL rt pc (a_un (fun x => -x) pc') := by
  intro d L st h out e
  subst hp
  unfold a_un at e
  split at e
  · cases e
    exact r_N0 fun l p e R s m args below meth c H locs cells slots ls Q C _ _ _ _ hL k => lv_ineg C.1 C.2.1 hd (k ls hL)
  · cases e
theorem ok_i2s (hd : decode cc pc = .ok (.i2s, 1)) (hp : pc + 1 = pc') : r_OK B sp D cA SP M y cc nL rt pc (a_un (fun x => x.toInt16.toInt32) pc') := by
  intro d L st h out e
  subst hp
  unfold a_un at e
  split at e
  · cases e
    exact r_N0 fun l p e R s m args below meth c H locs cells slots ls Q C _ _ _ _ hL k => lv_i2s C.1 C.2.1 hd rfl (k ls hL)
  · cases e
theorem ok_i2c (hd : decode cc pc = .ok (.i2c, 1)) (hp : pc + 1 = pc') : r_OK B sp D cA SP M y cc nL rt pc (a_un (fun x => (x.toUInt32 % 65536).toInt32) pc') := by
  intro d L st h out e
  subst hp
  unfold a_un at e
  split at e
  · cases e
    exact r_N0 fun l p e R s m args below meth c H locs cells slots ls Q C _ _ _ _ hL k => lv_i2c C.1 C.2.1 hd rfl (k ls hL)
  · cases e
theorem ok_i2b (hd : decode cc pc = .ok (.i2b, 1)) (hp : pc + 1 = pc') : r_OK B sp D cA SP M y cc nL rt pc (a_un (fun x => x.toInt8.toInt32) pc') := by
  intro d L st h out e
  subst hp
  unfold a_un at e
  split at e
  · cases e
    exact r_N0 fun l p e R s m args below meth c H locs cells slots ls Q C _ _ _ _ hL k => lv_i2b C.1 C.2.1 hd rfl (k ls hL)
  · cases e
theorem ok_dup (hd : decode cc pc = .ok (.dup, 1)) (hp : pc + 1 = pc') : r_OK B sp D cA SP M y cc nL rt pc (a_dup pc') := by
  intro d L st h out e
  subst hp
  unfold a_dup at e
  split at e
  · cases e
    exact r_N0 fun l p e R s m args below meth c H locs cells slots ls Q C _ _ _ _ hL k => lv_dup C.1 C.2.1 hd (r_cat C.2.2.2.2.2.2.2.2.2.2 _) (k ls hL)
  · cases e
theorem ok_dup2 (hd : decode cc pc = .ok (.dup2, 1)) (hp : pc + 1 = pc') : r_OK B sp D cA SP M y cc nL rt pc (a_dup2 pc') := by
  intro d L st h out e
  subst hp
  unfold a_dup2 at e
  split at e
  · cases e
    exact r_N0 fun l p e R s m args below meth c H locs cells slots ls Q C _ _ _ _ hL k => lv_dup2_11 C.1 C.2.1 hd (r_cat C.2.2.2.2.2.2.2.2.2.2 _) (r_cat C.2.2.2.2.2.2.2.2.2.2 _) (k ls hL)
  · cases e
theorem ok_pop (hd : decode cc pc = .ok (.pop, 1)) (hp : pc + 1 = pc') : r_OK B sp D cA SP M y cc nL rt pc (a_pop pc') := by
  intro d L st h out e
  subst hp
  unfold a_pop at e
  split at e
  · cases e
    exact r_N0 fun l p e R s m args below meth c H locs cells slots ls Q C _ _ _ _ hL k => lv_pop C.1 C.2.1 hd (r_cat C.2.2.2.2.2.2.2.2.2.2 _) (k ls hL)
  · cases e
theorem ok_if_eq {off : Int} {tg : Nat} (hd : decode cc pc = .ok (.ifCond .eq off, 3)) (ht : (pc : Int) + off = (tg : Int)) (hp : pc + 3 = pc') : r_OK B sp D cA SP M y cc nL rt pc (a_if (fun x => decide (x = 0)) tg pc') := by
  intro d L st h out e
  subst hp
  unfold a_if at e
  split at e
  · rename_i x r
    cases e
    refine r_N0 fun l p e R s m args below meth c H locs cells slots ls Q C _ _ _ _ hL k => lv_if_eq C.1 C.2.1 hd ht (fun q => ?_) (fun q => ?_)
    · have := k ls hL
      rwa [if_pos (by simpa using q)] at this
    · have := k ls hL
      rwa [if_neg (by simpa using q)] at this
  · cases e
theorem ok_cmp_eq {off : Int} {tg : Nat} (hd : decode cc pc = .ok (.if_icmp .eq off, 3)) (ht : (pc : Int) + off = (tg : Int)) (hp : pc + 3 = pc') : r_OK B sp D cA SP M y cc nL rt pc (a_cmp (fun x y => decide (x = y)) tg pc') := by
  intro d L st h out e
  subst hp
  unfold a_cmp at e
  split at e
  · rename_i x r
    cases e
    refine r_N0 fun l p e R s m args below meth c H locs cells slots ls Q C _ _ _ _ hL k => lv_icmp_eq C.1 C.2.1 hd ht (fun q => ?_) (fun q => ?_)
    · have := k ls hL
      rwa [if_pos (by simpa using q)] at this
    · have := k ls hL
      rwa [if_neg (by simpa using q)] at this
  · cases e
theorem ok_if_ne {off : Int} {tg : Nat} (hd : decode cc pc = .ok (.ifCond .ne off, 3)) (ht : (pc : Int) + off = (tg : Int)) (hp : pc + 3 = pc') : r_OK B sp D cA SP M y cc nL rt pc (a_if (fun x => decide (x ≠ 0)) tg pc') := by
  intro d L st h out e
  subst hp
  unfold a_if at e
  split at e
  · rename_i x r
    cases e
    refine r_N0 fun l p e R s m args below meth c H locs cells slots ls Q C _ _ _ _ hL k => lv_if_ne C.1 C.2.1 hd ht (fun q => ?_) (fun q => ?_)
    · have := k ls hL
      rwa [if_pos (by simpa using q)] at this
    · have := k ls hL
      rwa [if_neg (by simpa using q)] at this
  · cases e
theorem ok_cmp_ne {off : Int} {tg : Nat} (hd : decode cc pc = .ok (.if_icmp .ne off, 3)) (ht : (pc : Int) + off = (tg : Int)) (hp : pc + 3 = pc') : r_OK B sp D cA SP M y cc nL rt pc (a_cmp (fun x y => decide (x ≠ y)) tg pc') := by
  intro d L st h out e
  subst hp
  unfold a_cmp at e
  split at e
  · rename_i x r
    cases e
    refine r_N0 fun l p e R s m args below meth c H locs cells slots ls Q C _ _ _ _ hL k => lv_icmp_ne C.1 C.2.1 hd ht (fun q => ?_) (fun q => ?_)
    · have := k ls hL
      rwa [if_pos (by simpa using q)] at this
    · have := k ls hL
      rwa [if_neg (by simpa using q)] at this
  · cases e
theorem ok_if_lt {off : Int} {tg : Nat} (hd : decode cc pc = .ok (.ifCond .lt off, 3)) (ht : (pc : Int) + off = (tg : Int)) (hp : pc + 3 = pc') : r_OK B sp D cA SP M y cc nL rt pc (a_if (fun x => decide (x < 0)) tg pc') := by
  intro d L st h out e
  subst hp
  unfold a_if at e
  split at e
  · rename_i x r
    cases e
    refine r_N0 fun l p e R s m args below meth c H locs cells slots ls Q C _ _ _ _ hL k => lv_if_lt C.1 C.2.1 hd ht (fun q => ?_) (fun q => ?_)
    · have := k ls hL
      rwa [if_pos (by simpa using q)] at this
    · have := k ls hL
      rwa [if_neg (by simpa using q)] at this
  · cases e
theorem ok_cmp_lt {off : Int} {tg : Nat} (hd : decode cc pc = .ok (.if_icmp .lt off, 3)) (ht : (pc : Int) + off = (tg : Int)) (hp : pc + 3 = pc') : r_OK B sp D cA SP M y cc nL rt pc (a_cmp (fun x y => decide (x < y)) tg pc') := by
  intro d L st h out e
  subst hp
  unfold a_cmp at e
  split at e
  · rename_i x r
    cases e
    refine r_N0 fun l p e R s m args below meth c H locs cells slots ls Q C _ _ _ _ hL k => lv_icmp_lt C.1 C.2.1 hd ht (fun q => ?_) (fun q => ?_)
    · have := k ls hL
      rwa [if_pos (by simpa using q)] at this
    · have := k ls hL
      rwa [if_neg (by simpa using q)] at this
  · cases e
theorem ok_if_ge {off : Int} {tg : Nat} (hd : decode cc pc = .ok (.ifCond .ge off, 3)) (ht : (pc : Int) + off = (tg : Int)) (hp : pc + 3 = pc') : r_OK B sp D cA SP M y cc nL rt pc (a_if (fun x => decide (0 ≤ x)) tg pc') := by
  intro d L st h out e
  subst hp
  unfold a_if at e
  split at e
  · rename_i x r
    cases e
    refine r_N0 fun l p e R s m args below meth c H locs cells slots ls Q C _ _ _ _ hL k => lv_if_ge C.1 C.2.1 hd ht (fun q => ?_) (fun q => ?_)
    · have := k ls hL
      rwa [if_pos (by simpa using q)] at this
    · have := k ls hL
      rwa [if_neg (by simpa using q)] at this
  · cases e
theorem ok_cmp_ge {off : Int} {tg : Nat} (hd : decode cc pc = .ok (.if_icmp .ge off, 3)) (ht : (pc : Int) + off = (tg : Int)) (hp : pc + 3 = pc') : r_OK B sp D cA SP M y cc nL rt pc (a_cmp (fun x y => decide (y ≤ x)) tg pc') := by
  intro d L st h out e
  subst hp
  unfold a_cmp at e
  split at e
  · rename_i x r
    cases e
    refine r_N0 fun l p e R s m args below meth c H locs cells slots ls Q C _ _ _ _ hL k => lv_icmp_ge C.1 C.2.1 hd ht (fun q => ?_) (fun q => ?_)
    · have := k ls hL
      rwa [if_pos (by simpa using q)] at this
    · have := k ls hL
      rwa [if_neg (by simpa using q)] at this
  · cases e
theorem ok_if_gt {off : Int} {tg : Nat} (hd : decode cc pc = .ok (.ifCond .gt off, 3)) (ht : (pc : Int) + off = (tg : Int)) (hp : pc + 3 = pc') : r_OK B sp D cA SP M y cc nL rt pc (a_if (fun x => decide (0 < x)) tg pc') := by
  intro d L st h out e
  subst hp
  unfold a_if at e
  split at e
  · rename_i x r
    cases e
    refine r_N0 fun l p e R s m args below meth c H locs cells slots ls Q C _ _ _ _ hL k => lv_if_gt C.1 C.2.1 hd ht (fun q => ?_) (fun q => ?_)
    · have := k ls hL
      rwa [if_pos (by simpa using q)] at this
    · have := k ls hL
      rwa [if_neg (by simpa using q)] at this
  · cases e
theorem ok_cmp_gt {off : Int} {tg : Nat} (hd : decode cc pc = .ok (.if_icmp .gt off, 3)) (ht : (pc : Int) + off = (tg : Int)) (hp : pc + 3 = pc') : r_OK B sp D cA SP M y cc nL rt pc (a_cmp (fun x y => decide (y < x)) tg pc') := by
  intro d L st h out e
  subst hp
  unfold a_cmp at e
  split at e
  · rename_i x r
    cases e
    refine r_N0 fun l p e R s m args below meth c H locs cells slots ls Q C _ _ _ _ hL k => lv_icmp_gt C.1 C.2.1 hd ht (fun q => ?_) (fun q => ?_)
    · have := k ls hL
      rwa [if_pos (by simpa using q)] at this
    · have := k ls hL
      rwa [if_neg (by simpa using q)] at this
  · cases e
theorem ok_if_le {off : Int} {tg : Nat} (hd : decode cc pc = .ok (.ifCond .le off, 3)) (ht : (pc : Int) + off = (tg : Int)) (hp : pc + 3 = pc') : r_OK B sp D cA SP M y cc nL rt pc (a_if (fun x => decide (x ≤ 0)) tg pc') := by
  intro d L st h out e
  subst hp
  unfold a_if at e
  split at e
  · rename_i x r
    cases e
    refine r_N0 fun l p e R s m args below meth c H locs cells slots ls Q C _ _ _ _ hL k => lv_if_le C.1 C.2.1 hd ht (fun q => ?_) (fun q => ?_)
    · have := k ls hL
      rwa [if_pos (by simpa using q)] at this
    · have := k ls hL
      rwa [if_neg (by simpa using q)] at this
  · cases e
theorem ok_cmp_le {off : Int} {tg : Nat} (hd : decode cc pc = .ok (.if_icmp .le off, 3)) (ht : (pc : Int) + off = (tg : Int)) (hp : pc + 3 = pc') : r_OK B sp D cA SP M y cc nL rt pc (a_cmp (fun x y => decide (x ≤ y)) tg pc') := by
  intro d L st h out e
  subst hp
  unfold a_cmp at e
  split at e
  · rename_i x r
    cases e
    refine r_N0 fun l p e R s m args below meth c H locs cells slots ls Q C _ _ _ _ hL k => lv_icmp_le C.1 C.2.1 hd ht (fun q => ?_) (fun q => ?_)
    · have := k ls hL
      rwa [if_pos (by simpa using q)] at this
    · have := k ls hL
      rwa [if_neg (by simpa using q)] at this
  · cases e
theorem ok_goto {off : Int} {tg : Nat} (hd : decode cc pc = .ok (.goto off, 3)) (ht : (pc : Int) + off = (tg : Int)) : r_OK B sp D cA SP M y cc nL rt pc (a_goto tg) := by
  intro d L st h out e
  cases e
  exact r_N0 fun l p e R s m args below meth c H locs cells slots ls Q C _ _ _ _ hL k => lv_goto C.1 C.2.1 hd ht (k ls hL)
theorem ok_nonnull {off : Int} {tg : Nat} (hd : decode cc pc = .ok (.ifnonnull off, 3)) (ht : (pc : Int) + off = (tg : Int)) (hp : pc + 3 = pc') : r_OK B sp D cA SP M y cc nL rt pc (a_nonnull tg pc') := by
  intro d L st h out e
  subst hp
  unfold a_nonnull at e
  split at e
  · cases e
    exact r_N0 fun l p e R s m args below meth c H locs cells slots ls Q C _ _ _ _ hL k => lv_ifnonnullN C.1 C.2.1 hd (k ls hL)
  · cases e
    exact r_N0 fun l p e R s m args below meth c H locs cells slots ls Q C _ _ _ _ hL k => lv_ifnonnull C.1 C.2.1 hd ht (k ls hL)
  · cases e
end OKS

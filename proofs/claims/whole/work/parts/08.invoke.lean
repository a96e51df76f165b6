/-! CALLS -/
section OKV
variable {B : Nat} {sp : Nat → Value} {D : va_G} {cA : Nat → ClassId} {SP : State → Prop} {M : mM} {y : MethodName} {cc : ByteArray} {nL : Nat} {rt : Option FieldType} {pc pc' : Nat}
theorem r_go {p : Program} {l : Launch} {e : Env} {R : Room} {s : State} {m : MethodId} {args : Array Value} {below : List Frame} {meth : Method} {c : Code} {H : Heap} {locs : List Loc} {cells slots mc ms : Nat} {Q : State → Prop} {ls : Array Slot} {st0 rest : List Value} {r : Option mV} {h2 : mH} {a : Array Value}
    (hr : va_Run p l e R s m args below meth c H locs cells slots mc ms (F0 m pc ls st0) rest (r_Q B sp D cA r h2 a) (r_A B)) (hS : va_S (r_A B) s.heap H locs)
    (kk : ∀ (H1 : Heap) (locs1 : List Loc), va_P D vwCl (r_w B sp cA h2) H1 → va_S (r_A B) s.heap H1 locs1 → W p l e R s m args below meth c H1 locs1 (cells + mc) (slots + ms) Q (F0 m (pc + 3) ls ((r.map (r_v B sp)).toList ++ rest))) : W p l e R s m args below meth c H locs cells slots Q (F0 m pc ls st0) := by
  intro T hT X
  obtain ⟨v, st₀, t, T', L, h0, X', hL, e1, e2, ⟨hv, hp, hz, hk⟩, st⟩ := hr T hT X
  cases hv
  rw [h0] at hz hk
  obtain ⟨t2, a1, b1⟩ := kk T'.heap (locs ++ L) (by rw [e1]; exact hp)
    ⟨Nat.le_trans hS.1 (by rw [e1]; exact hz), fun q h1 h2 => by rw [e1, hk q (Nat.lt_of_lt_of_le h1 hS.1) h2]; exact hS.2.1 q h1 h2, fun q hq => by
      rcases List.mem_append.mp hq with h | h
      · exact hS.2.2 q h
      · exact hL q h⟩ T' rfl X'
  exact ⟨t2, st t2 a1, b1⟩
theorem r_good {y2 : MethodName} {cc2 : ByteArray} {nL2 : Nat} {rt2 : Option FieldType} (h : Cond.code y2 cc2 nL2 rt2 ∈ gtb) : GoodIn gtb (r_ws y2 cc2 nL2 rt2) := by
  intro w hw
  rcases List.mem_cons.mp hw with e | hw
  · subst e
    exact ⟨h, good_of_word (gtb_good h)⟩
  · exact ⟨hw, good_of_word (gtb_good hw)⟩
theorem r_blind (hSP : r_SP B SP) {as : List mV} {h : mH} : FrameBlind (r_P B sp D cA SP as h) := by
  intro a U g mk ⟨h1, h2, h3, h4, h5⟩
  exact ⟨h1, h2, h3, va_K.moved (u := U) (U := U.calling g mk a) (Vm.Alike.refl U.vm) h4, hSP.2 a U g mk h5⟩
theorem r_pre (hSP : r_SP B SP) {p : Program} {s : State} {m : MethodId} {args : Array Value} {meth : Method} {c : Code} {H : Heap} {locs : List Loc} {as : List mV} {h : mH} (C : r_C B sp D cA SP y cc nL rt p s m args meth c) (hP : va_P D vwCl (r_w B sp cA h) H) (hS : va_S (r_A B) s.heap H locs) (hz : H.size = B + h_nx h) : ∀ U : State, U.heap = H → s.WarmedH U.vm → r_P B sp D cA SP as h (as.map (r_v B sp)).toArray U := by
  intro U hU hW
  exact ⟨rfl, by rw [hU]; exact hz, by rw [hU]; exact hP, va_K.moved hW.alike C.2.2.2.2.2.2.2.2.1, hSP.1 s U hW C.2.2.2.2.2.2.2.2.2.1 (by rw [hU]; exact hS.2.1) (by rw [hU]; exact hS.1)⟩
theorem r_stk {n : Nat} {st : List mV} : st.map (r_v B sp) = (((st.take n).reverse).map (r_v B sp)).reverse ++ (st.drop n).map (r_v B sp) := by
  rw [List.map_reverse, List.reverse_reverse, ← List.map_append, List.take_append_drop]
theorem r_ans {r : Option mV} {st : List mV} : (r.toList ++ st).map (r_v B sp) = (r.map (r_v B sp)).toList ++ st.map (r_v B sp) := by
  cases r <;> simp
/-- what is asked of a callee -/
def c_M (y2 : MethodName) (cc2 : ByteArray) (nL2 : Nat) (rt2 : Option FieldType) (n : Nat) : Prop := Cond.code y2 cc2 nL2 rt2 ∈ gtb ∧ Cond.initialized y2.cls ∈ gtb ∧ (y2.cls ≠ "java/lang/invoke/MethodHandle" ∧ y2.cls ≠ "java/lang/invoke/VarHandle" ∧ (parseMethodDescriptor y2.desc).map (fun d => d.parameters.length) = some n) ∧ nL2 ≤ 22 ∧ plainFor y2 = true
theorem ok_callS (hSP : r_SP B SP) {mi n idx : Nat} {y2 : MethodName} {cc2 : ByteArray} {nL2 : Nat} {rt2 : Option FieldType} (hM : M mi = (y2, cc2, nL2, rt2)) (hc : c_M y2 cc2 nL2 rt2 n) (hn : n ≤ nL2) (hw1 : Cond.methodLink y.cls idx y2 ∈ gtb) (hw2 : Cond.static y2 ∈ gtb) (hd : decode cc pc = .ok (.invokestatic idx, 3)) (hp : pc + 3 = pc') : r_OK B sp D cA SP M y cc nL rt pc (a_call mi n pc') := by
  intro d L st h out e
  subst hp
  unfold a_call at e
  split at e
  · rename_i hl
    cases e
    refine ⟨rfl, ?_⟩
    rw [hM]
    refine ⟨by simp; omega, hc.2.2.2.2, rfl, ?_⟩
    intro l p e R s m args below meth c H locs cells slots c0 d2 mc ms ls Q r h2 C hd hd1 hd2 hB hcl e1 e2 hP hS hL hMt kk
    subst hd
    refine w_sized fun hz => ?_
    have hsz := r_size hP hS hB hcl hz
    refine W.eq (g2 := F0 m pc ls ((((st.take n).reverse).map (r_v B sp)).reverse ++ (st.drop n).map (r_v B sp))) (by rw [← r_stk]) ?_
    refine r_go (rest := (st.drop n).map (r_v B sp)) (va_runS (As := ((st.take n).reverse).map (r_v B sp)) (rest := (st.drop n).map (r_v B sp)) ⟨C.1, C.2.1, C.2.2.1, C.2.2.2.1, C.2.2.2.2.1⟩ hMt
      ⟨callB_of n C.2.2.2.2.1 (r_good hc.1) rfl rfl rfl (C.2.2.2.2.1 _ hc.2.1) (C.2.2.2.2.1 _ hw1) hc.2.2.1 ⟨hd1, by show 8 + (nL2 + 11) + 41 * d2 ≤ R.locals; have := hc.2.2.2.1; omega⟩, C.2.2.2.2.1 _ hw2⟩
      ⟨r_blind hSP, r_pre hSP C hP hS hsz⟩ rfl (by simp; omega) hL.1 rfl (lv_room (by rw [r_catsum C.2.2.2.2.2.2.2.2.2.2]; simp; omega)) ‹decode cc pc = _› ⟨e1, e2⟩) hS fun H1 locs1 p1 s1 => ?_
    rw [← r_ans]
    exact kk H1 locs1 p1 s1
  · cases e
theorem ok_callN (hSP : r_SP B SP) {mi n idx : Nat} {host : String} {y2 : MethodName} {cc2 : ByteArray} {nL2 : Nat} {rt2 : Option FieldType} (hM : M mi = (y2, cc2, nL2, rt2)) (hc : c_M y2 cc2 nL2 rt2 n) (hn : n ≤ nL2) (hw1 : ∀ s, SP s → va_Nw (.methodLinkNest y.cls idx y2 host) s) (hw2 : Cond.static y2 ∈ gtb) (hd : decode cc pc = .ok (.invokestatic idx, 3)) (hp : pc + 3 = pc') : r_OK B sp D cA SP M y cc nL rt pc (a_call mi n pc') := by
  intro d L st h out e
  subst hp
  unfold a_call at e
  split at e
  · rename_i hl
    cases e
    refine ⟨rfl, ?_⟩
    rw [hM]
    refine ⟨by simp; omega, hc.2.2.2.2, rfl, ?_⟩
    intro l p e R s m args below meth c H locs cells slots c0 d2 mc ms ls Q r h2 C hd hd1 hd2 hB hcl e1 e2 hP hS hL hMt kk
    subst hd
    refine w_sized fun hz => ?_
    have hsz := r_size hP hS hB hcl hz
    refine W.eq (g2 := F0 m pc ls ((((st.take n).reverse).map (r_v B sp)).reverse ++ (st.drop n).map (r_v B sp))) (by rw [← r_stk]) ?_
    refine r_go (rest := (st.drop n).map (r_v B sp)) (va_runSN (As := ((st.take n).reverse).map (r_v B sp)) (rest := (st.drop n).map (r_v B sp)) ⟨C.1, C.2.1, C.2.2.1, C.2.2.2.1, C.2.2.2.2.1⟩ hMt
      ⟨va_cnB n C.2.2.2.2.1 (r_good hc.1) rfl rfl rfl (hw1 s C.2.2.2.2.2.2.2.2.2.1) (C.2.2.2.2.1 _ hc.2.1) hc.2.2.1 ⟨hd1, by show 8 + (nL2 + 11) + 41 * d2 ≤ R.locals; have := hc.2.2.2.1; omega⟩, C.2.2.2.2.1 _ hw2, trivial⟩
      ⟨r_blind hSP, r_pre hSP C hP hS hsz⟩ rfl (by simp; omega) hL.1 rfl (lv_room (by rw [r_catsum C.2.2.2.2.2.2.2.2.2.2]; simp; omega)) ‹decode cc pc = _› ⟨e1, e2⟩) hS fun H1 locs1 p1 s1 => ?_
    rw [← r_ans]
    exact kk H1 locs1 p1 s1
  · cases e
theorem r_stkO {n a : Nat} {st : List mV} (h : st[n]? = some (vr a)) : st.map (r_v B sp) = (((st.take n).reverse).map (r_v B sp)).reverse ++ .ref (B + a) :: (st.drop (n + 1)).map (r_v B sp) ∧ (st.take (n + 1)).reverse = vr a :: (st.take n).reverse := by
  have hn := (List.getElem?_eq_some_iff.mp h).1
  have hg : st[n] = vr a := (List.getElem?_eq_some_iff.mp h).2
  have e : st.drop n = vr a :: st.drop (n + 1) := by rw [List.drop_eq_getElem_cons hn, hg]
  refine ⟨?_, ?_⟩
  · rw [List.map_reverse, List.reverse_reverse]
    show _ = _ ++ (r_v B sp (vr a) :: _)
    rw [← List.map_cons, ← e, ← List.map_append, List.take_append_drop]
  · rw [List.take_succ_eq_append_getElem hn, hg, List.reverse_append]
    rfl
theorem ok_callV (hSP : r_SP B SP) {ci N mi n idx : Nat} {C0 : String} {T0 : u_T} {y2 : MethodName} {cc2 : ByteArray} {nL2 : Nat} {rt2 : Option FieldType} (hM : M mi = (y2, cc2, nL2, rt2)) (hc : c_M y2 cc2 nL2 rt2 n) (hn : n + 1 ≤ nL2) (hcl : c_OK ci C0 T0 N) (hw1 : Cond.methodLink y.cls idx y2 ∈ gtb) (hw2 : Cond.instanceMethod y2 ∈ gtb) (hw3 : Cond.selects C0 y2 y2 ∈ gtb) (hd : decode cc pc = .ok (.invokevirtual idx, 3)) (hp : pc + 3 = pc') : r_OK B sp D cA SP M y cc nL rt pc (a_callO ci N mi n pc') := by
  intro d L st h out e
  subst hp
  unfold a_callO at e
  split at e
  · rename_i a ha
    split at e
    · rename_i hi
      rw [Bool.and_eq_true] at hi
      obtain ⟨hi, hl⟩ := hi
      have hl : st.length ≤ n + 9 := by simpa using hl
      obtain ⟨hlt, hsh⟩ := h_is_iff.mp hi
      cases e
      refine ⟨rfl, ?_⟩
      rw [hM]
      refine ⟨by simp; omega, hc.2.2.2.2, rfl, ?_⟩
      intro l p e R s m args below meth c H locs cells slots c0 d2 mc ms ls Q r h2 C hd hd1 hd2 hB hcl' e1 e2 hP hS hL hMt kk
      subst hd
      refine w_sized fun hz => ?_
      have hsz := r_size hP hS hB hcl' hz
      obtain ⟨k1, k2⟩ := r_stkO (B := B) (sp := sp) ha
      have hlen := (List.getElem?_eq_some_iff.mp ha).1
      have he := r_w_at (B := B) (sp := sp) (cA := cA) (h := h) (k := a) hlt
      rw [r_e_obj hcl.1 hsh] at he
      rw [k2] at hMt
      refine W.eq (g2 := F0 m pc ls ((((st.take n).reverse).map (r_v B sp)).reverse ++ .ref (B + a) :: (st.drop (n + 1)).map (r_v B sp))) (by rw [← k1]) ?_
      refine r_go (rest := (st.drop (n + 1)).map (r_v B sp)) (va_runV (C := C0) (b := B + a) (As := ((st.take n).reverse).map (r_v B sp)) (rest := (st.drop (n + 1)).map (r_v B sp)) ⟨C.1, C.2.1, C.2.2.1, C.2.2.2.1, C.2.2.2.2.1⟩ hMt
        ⟨callB_of n C.2.2.2.2.1 (r_good hc.1) rfl rfl rfl (C.2.2.2.2.1 _ hc.2.1) (C.2.2.2.2.1 _ hw1) hc.2.2.1 ⟨hd1, by show 8 + (nL2 + 11) + 41 * d2 ≤ R.locals; have := hc.2.2.2.1; omega⟩, C.2.2.2.2.1 _ hw2, C.2.2.2.2.1 _ hw3⟩
        ⟨r_blind hSP, va_recv C.2.2.2.2.2.2.2.2.1 hP hcl.2.1 he, r_pre hSP C hP hS hsz⟩ rfl (by simp; omega) hL.1 rfl (lv_room (by rw [r_catsum C.2.2.2.2.2.2.2.2.2.2]; simp; omega)) ‹decode cc pc = _› ⟨e1, e2⟩) hS fun H1 locs1 p1 s1 => ?_
      rw [← r_ans]
      exact kk H1 locs1 p1 s1
    · cases e
  · cases e
theorem ok_callI (hSP : r_SP B SP) {ci N mi n idx : Nat} {y2 : MethodName} {cc2 : ByteArray} {nL2 : Nat} (hM : M mi = (y2, cc2, nL2, none)) (hc : c_M y2 cc2 nL2 none n) (hn : n + 1 ≤ nL2) (hy1 : y2.name = "<init>") (hw1 : Cond.methodLink y.cls idx y2 ∈ gtb) (hw2 : Cond.instanceMethod y2 ∈ gtb) (hd : decode cc pc = .ok (.invokespecial idx, 3)) (hp : pc + 3 = pc') : r_OK B sp D cA SP M y cc nL rt pc (a_callO ci N mi n pc') := by
  intro d L st h out e
  subst hp
  unfold a_callO at e
  split at e
  · rename_i a ha
    split at e
    · rename_i hi
      rw [Bool.and_eq_true] at hi
      obtain ⟨hi, hl⟩ := hi
      have hl : st.length ≤ n + 9 := by simpa using hl
      cases e
      refine ⟨rfl, ?_⟩
      rw [hM]
      refine ⟨by simp; omega, hc.2.2.2.2, rfl, ?_⟩
      intro l p e R s m args below meth c H locs cells slots c0 d2 mc ms ls Q r h2 C hd hd1 hd2 hB hcl' e1 e2 hP hS hL hMt kk
      subst hd
      refine w_sized fun hz => ?_
      have hsz := r_size hP hS hB hcl' hz
      obtain ⟨k1, k2⟩ := r_stkO (B := B) (sp := sp) ha
      have hlen := (List.getElem?_eq_some_iff.mp ha).1
      rw [k2] at hMt
      refine W.eq (g2 := F0 m pc ls ((((st.take n).reverse).map (r_v B sp)).reverse ++ .ref (B + a) :: (st.drop (n + 1)).map (r_v B sp))) (by rw [← k1]) ?_
      refine r_go (rest := (st.drop (n + 1)).map (r_v B sp)) (va_runI (b := B + a) (As := ((st.take n).reverse).map (r_v B sp)) (rest := (st.drop (n + 1)).map (r_v B sp)) ⟨C.1, C.2.1, C.2.2.1, C.2.2.2.1, C.2.2.2.2.1⟩ hMt
        ⟨callB_of n C.2.2.2.2.1 (r_good hc.1) rfl rfl rfl (C.2.2.2.2.1 _ hc.2.1) (C.2.2.2.2.1 _ hw1) hc.2.2.1 ⟨hd1, by show 8 + (nL2 + 11) + 41 * d2 ≤ R.locals; have := hc.2.2.2.1; omega⟩, hy1, C.2.2.2.2.1 _ hw2⟩
        ⟨r_blind hSP, r_pre hSP C hP hS hsz⟩ rfl (by simp; omega) hL.1 rfl (lv_room (by rw [r_catsum C.2.2.2.2.2.2.2.2.2.2]; simp; omega)) ‹decode cc pc = _› ⟨e1, e2⟩) hS fun H1 locs1 p1 s1 => ?_
      rw [← r_ans]
      exact kk H1 locs1 p1 s1
    · cases e
  · cases e
end OKV

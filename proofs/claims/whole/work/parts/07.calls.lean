/-! MAKING CELLS, SWITCHES, RETURNS, CALLS -/
section OKC
variable {B : Nat} {sp : Nat → Value} {D : va_G} {cA : Nat → ClassId} {SP : State → Prop} {M : mM} {y : MethodName} {cc : ByteArray} {nL : Nat} {rt : Option FieldType} {pc pc' : Nat}
theorem w_sized {p : Program} {l : Launch} {e : Env} {R : Room} {s : State} {m : MethodId} {args : Array Value} {below : List Frame} {meth : Method} {c : Code} {H : Heap} {locs : List Loc} {cells slots : Nat} {Q : State → Prop} {g : JFrame} (k : H.size ≤ s.heap.size + cells → W p l e R s m args below meth c H locs cells slots Q g) : W p l e R s m args below meth c H locs cells slots Q g :=
  fun T hT X => k (by rw [← hT]; exact X.heapSize) T hT X
theorem r_size {h : mH} {H H0 : Heap} {locs : List Loc} {cells c0 : Nat} (hP : va_P D vwCl (r_w B sp cA h) H) (hS : va_S (r_A B) H0 H locs) (hB : H0.size = B + c0) (hc : cells + c0 = h_nx h) (hz : H.size ≤ H0.size + cells) : H.size = B + h_nx h := by
  have h1 := hS.1
  by_cases h0 : h_nx h = 0
  · omega
  · have hlt := (hP _ _ (r_w_at (B := B) (sp := sp) (cA := cA) (h := h) (k := h_nx h - 1) (by omega))).lt
    dsimp only at hlt
    omega
theorem r_e_mk {h : mH} {kd n j : Nat} (hj : j < h_nx h) : r_e B sp cA (h_mk h kd n) j = r_e B sp cA h j := by
  have hj : j ≠ h.1.2.1 := Nat.ne_of_lt hj
  exact r_e_same (va_up_n _ _ hj) (va_up_n _ _ hj) (va_up_n _ _ hj)
theorem ok_new {C : String} {T : u_T} {N ci idx : Nat} (hc : c_OK ci C T N) (hdf : ∀ j, j < N → defaultValue (ty_ ci j) = if fr_ ci j then .null else .int 0) (hw1 : Cond.classLink y.cls idx C ∈ gtb) (hw2 : Cond.instantiable C N ∈ gtb) (hw3 : Cond.initialized C ∈ gtb) (hd : decode cc pc = .ok (.new idx, 3)) (hp : pc + 3 = pc') : r_OK B sp D cA SP M y cc nL rt pc (a_new ci N pc') := by
  intro d L st h out e
  subst hp
  cases e
  refine ⟨Nat.le_succ _, Nat.le_add_right _ _, ?_⟩
  intro l p e R s m args below meth c H locs cells slots c0 ls Q C' hd1 hd2 hB hcl e1 e2 hP hS hL kk
  dsimp only at e1 e2 kk
  have n1 : h_nx (h_mk h ci N) - h_nx h = 1 := by show h.1.2.1 + 1 - h.1.2.1 = 1; omega
  have n2 : h_su (h_mk h ci N) - h_su h = N := by show h.1.2.2 + N - h.1.2.2 = N; omega
  rw [n1] at e1 kk
  rw [n2] at e2 kk
  refine w_sized fun hz => ?_
  have hsz := r_size hP hS hB hcl hz
  have hKn := C'.2.2.2.2.2.2.2.2.1.1 ci _ hc.2.1
  refine W.newcK C'.1 C'.2.1 C'.2.2.2.1 (C'.2.2.2.2.1 _ hw1) (C'.2.2.2.2.1 _ hw2) (C'.2.2.2.2.1 _ hw3) rfl hd e1 e2 hKn.2.1 hsz fun H1 kC hkC q1 z1 o1 => ?_
  have hk : ∀ (k : Nat) (x : Nat × va_E), (r_w B sp cA h)[k]? = some x → H1[x.1]? = H[x.1]? := fun k x hx => o1 x.1 (by rw [← hsz]; exact (hP k x hx).lt)
  have hsh : (h_mk h ci N).1.1 (h_nx h) = (ci, N) := va_up_s _ _ _
  have hre := r_e_obj (B := B) (sp := sp) (cA := cA) hc.1 hsh
  refine kk H1 locs ls ?_ ⟨Nat.le_trans hS.1 (by omega), fun x h1 h2 => (o1 x (by have := hS.1; omega)).trans (hS.2.1 x h1 h2), hS.2.2⟩ hL
  rw [← r_w_push (h := h) (h' := h_mk h ci N) rfl rfl (fun j hj => r_e_mk hj), hre]
  refine (hP.kept hk).app (fun k x hx => ?_)
  have hz : k < 1 := (List.getElem?_eq_some_iff.mp hx).1
  rw [show k = 0 by omega] at hx
  cases hx
  refine ⟨_, hc.2.1, (u_born (ty_ ci) C'.2.2.2.2.1 hc.2.2.1 hKn hkC q1 hc.2.2.2.1).to (fun j hj => ?_)⟩
  rw [hdf j hj]
  have e1 : (h_mk h ci N).2.2 (h_nx h) j = .inl none := congrFun (va_up_s h.2.2 h.1.2.1 (fun _ => .inl none)) j
  have e2 : (h_mk h ci N).2.1 (h_nx h) j = 0 := congrFun (va_up_s h.2.1 h.1.2.1 (fun _ => 0)) j
  have hj : j < N := hj
  simp only [vp_V, List.getD_eq_getElem?_getD, List.getElem?_map, List.getElem?_range hj, Option.map_some, Option.getD_some, e1, e2]
  rfl
theorem va_K_arr {s : State} (hK : va_K D vwCl (tys_ cA) s) {t : Nat} {ty : FieldType} (ht : (tys_ cA)[t]? = some (cA t, ty)) : ArrOfT s (cA t) ty ∧ va_RA s (cA t) ty := hK.2 t _ ht
theorem ok_newa {t : Nat} {atype : ArrayType} {ty : FieldType} (ht : t < 4) (hty : newarray.typeOf atype = ty) (hT : ∀ cA : Nat → ClassId, (tys_ cA)[t]? = some (cA t, ty)) (hra : ∀ s (c : ClassId), va_RA s c ty = (s.vm.findClass ("[" ++ ty.toString) = some c)) (hdv : defaultValue ty = .int 0) (hby : componentBytes ty ≤ 4) (hw : Cond.arrayClass ty ∈ gtb) (hd : decode cc pc = .ok (.newarray atype, 2)) (hp : pc + 2 = pc') : r_OK B sp D cA SP M y cc nL rt pc (a_newa t pc') := by
  intro d L st h out e
  subst hp
  subst hty
  unfold a_newa at e
  split at e
  · rename_i n r
    split at e
    · rename_i hn
      cases e
      refine ⟨Nat.le_succ _, Nat.le_add_right _ _, ?_⟩
      intro l p e R s m args below meth c H locs cells slots c0 ls Q C' hd1 hd2 hB hcl e1 e2 hP hS hL kk
      dsimp only at e1 e2 kk
      have n1 : h_nx (h_mk h (100 + t) n.toNatClampNeg) - h_nx h = 1 := by show h.1.2.1 + 1 - h.1.2.1 = 1; omega
      have n2 : h_su (h_mk h (100 + t) n.toNatClampNeg) - h_su h = n.toNatClampNeg := by show h.1.2.2 + n.toNatClampNeg - h.1.2.2 = n.toNatClampNeg; omega
      rw [n1] at e1 kk
      rw [n2] at e2 kk
      refine w_sized fun hz => ?_
      have hsz := r_size hP hS hB hcl hz
      have hcl2 : n.toNatClampNeg ≤ 100000 := by
        have : n.toNatClampNeg = n.toInt.toNat := rfl
        omega
      refine va_newaK C'.1 C'.2.1 (C'.2.2.2.2.1 _ hw) rfl hd rfl (by rw [Int32.lt_iff_toInt_lt, Int32.toInt_zero]; omega) rfl (by have := Nat.mul_le_mul hcl2 hby; omega) e1 e2 hsz fun H1 cA' q1 z1 o1 hAr hNm => ?_
      have hR := (C'.2.2.2.2.2.2.2.2.1.2 t _ (hT cA)).2
      rw [hra] at hR
      have ec : cA' = cA t := Option.some.inj (hNm.symm.trans hR)
      subst ec
      have hk : ∀ (k : Nat) (x : Nat × va_E), (r_w B sp cA h)[k]? = some x → H1[x.1]? = H[x.1]? := fun k x hx => o1 x.1 (by rw [← hsz]; exact (hP k x hx).lt)
      have hsh : (h_mk h (100 + t) n.toNatClampNeg).1.1 (h_nx h) = (100 + t, n.toNatClampNeg) := va_up_s _ _ _
      have hre := r_e_arr (B := B) (sp := sp) (cA := cA) (h := h_mk h (100 + t) n.toNatClampNeg) (a := h_nx h) ht (by rw [hsh])
      refine kk H1 locs ls ?_ ⟨Nat.le_trans hS.1 (by omega), fun x h1 h2 => (o1 x (by have := hS.1; omega)).trans (hS.2.1 x h1 h2), hS.2.2⟩ hL
      rw [← r_w_push (h := h) (h' := h_mk h (100 + t) n.toNatClampNeg) rfl rfl (fun j hj => r_e_mk hj), hre]
      refine (hP.kept hk).app (fun k x hx => ?_)
      have hz : k < 1 := (List.getElem?_eq_some_iff.mp hx).1
      rw [show k = 0 by omega] at hx
      cases hx
      show H1[B + h_nx h]? = some (vp_cell _ _)
      have e2 : (h_mk h (100 + t) n.toNatClampNeg).2.1 (h_nx h) = fun _ => 0 := by show va_up _ _ _ _ = _; rw [show h_nx h = h.1.2.1 from rfl, va_up_s]
      rw [hsh, e2, vp_cell_i, q1, hdv]
    · cases e
  · cases e
theorem ok_anew {t idx : Nat} {C : String} (ht : 4 ≤ t) (hT : ∀ cA : Nat → ClassId, (tys_ cA)[t]? = some (cA t, .object C)) (hw1 : Cond.classLink y.cls idx C ∈ gtb) (hw2 : ∀ s, SP s → va_AO C s) (hd : decode cc pc = .ok (.anewarray idx, 3)) (hp : pc + 3 = pc') : r_OK B sp D cA SP M y cc nL rt pc (a_newa t pc') := by
  intro d L st h out e
  subst hp
  unfold a_newa at e
  split at e
  · rename_i n r
    split at e
    · rename_i hn
      cases e
      refine ⟨Nat.le_succ _, Nat.le_add_right _ _, ?_⟩
      intro l p e R s m args below meth c H locs cells slots c0 ls Q C' hd1 hd2 hB hcl e1 e2 hP hS hL kk
      dsimp only at e1 e2 kk
      have n1 : h_nx (h_mk h (100 + t) n.toNatClampNeg) - h_nx h = 1 := by show h.1.2.1 + 1 - h.1.2.1 = 1; omega
      have n2 : h_su (h_mk h (100 + t) n.toNatClampNeg) - h_su h = n.toNatClampNeg := by show h.1.2.2 + n.toNatClampNeg - h.1.2.2 = n.toNatClampNeg; omega
      rw [n1] at e1 kk
      rw [n2] at e2 kk
      refine w_sized fun hz => ?_
      have hsz := r_size hP hS hB hcl hz
      have hcl2 : n.toNatClampNeg ≤ 100000 := by
        have : n.toNatClampNeg = n.toInt.toNat := rfl
        omega
      refine W.anew C'.1 C'.2.1 C'.2.2.2.1 (C'.2.2.2.2.1 _ hw1) (va_AO.use (hw2 s C'.2.2.2.2.2.2.2.2.2.1)) rfl hd rfl (by rw [Int32.lt_iff_toInt_lt, Int32.toInt_zero]; omega) (by omega) e1 e2 fun cA' kA comp f1 f2 f3 f4 => ?_
      generalize hH1 : H.push ({ cls := cA', slots := Array.replicate n.toNatClampNeg .null, vm := .none } : Cell) = H1
      have z1 : H1.size = H.size + 1 := by rw [← hH1, Array.size_push]
      have q1 : H1[H.size]? = some (arrV cA' n.toNatClampNeg (fun _ => .null)) := by rw [← hH1, Array.getElem?_push_size, ← arrV_new]
      have o1 : ∀ q : Nat, q < H.size → H1[q]? = H[q]? := fun q hq => by rw [← hH1, Array.getElem?_push, if_neg (Nat.ne_of_lt hq)]
      obtain ⟨kA2, comp2, g1, g2, g3, g4⟩ := (C'.2.2.2.2.2.2.2.2.1.2 t _ (hT cA)).2
      have ec : cA' = cA t := Option.some.inj (f1.symm.trans g4)
      subst ec
      have hk : ∀ (k : Nat) (x : Nat × va_E), (r_w B sp cA h)[k]? = some x → H1[x.1]? = H[x.1]? := fun k x hx => o1 x.1 ((hP k x hx).lt)
      have hsh : (h_mk h (100 + t) n.toNatClampNeg).1.1 (h_nx h) = (100 + t, n.toNatClampNeg) := va_up_s _ _ _
      have hre := r_e_arq (B := B) (sp := sp) (cA := cA) (h := h_mk h (100 + t) n.toNatClampNeg) (a := h_nx h) ht (by rw [hsh])
      refine W.eq (g2 := F0 m (pc + 3) ls (.ref (B + h_nx h) :: r.map (r_v B sp))) (by rw [hsz]) ?_
      refine kk H1 locs ls ?_ ⟨Nat.le_trans hS.1 (by omega), fun x h1 h2 => (o1 x (by have := hS.1; omega)).trans (hS.2.1 x h1 h2), hS.2.2⟩ hL
      rw [← r_w_push (h := h) (h' := h_mk h (100 + t) n.toNatClampNeg) rfl rfl (fun j hj => r_e_mk hj), hre]
      refine (hP.kept hk).app (fun k x hx => ?_)
      have hz : k < 1 := (List.getElem?_eq_some_iff.mp hx).1
      rw [show k = 0 by omega] at hx
      cases hx
      show H1[B + h_nx h]? = some (vp_cell _ _)
      have e2 : (h_mk h (100 + t) n.toNatClampNeg).2.2 (h_nx h) = fun _ => .inl none := by show va_up _ _ _ _ = _; rw [show h_nx h = h.1.2.1 from rfl, va_up_s]
      rw [hsh, e2, ← hsz, q1]
      rfl
    · cases e
  · cases e
theorem ok_table {dflt lo hi : Int} {offs : Array Int} {len : Nat} {f : Int32 → Nat} (hd : decode cc pc = .ok (.tableswitch dflt lo hi offs, len)) (h1 : ∀ x : Int32, (x.toInt < lo ∨ hi < x.toInt) → (pc : Int) + dflt = (f x : Int)) (h2 : ∀ x : Int32, ¬ x.toInt < lo → ¬ hi < x.toInt → ∃ off, offs[(x.toInt - lo).toNat]? = some off ∧ (pc : Int) + off = (f x : Int)) : r_OK B sp D cA SP M y cc nL rt pc (a_sw f) := by
  intro d L st h out e
  unfold a_sw at e
  split at e
  · rename_i x r
    cases e
    refine r_N0 fun l p e R s m args below meth c H locs cells slots ls Q C' _ _ hP hS hL kk => ?_
    by_cases hq : x.toInt < lo ∨ hi < x.toInt
    · exact lv_tableOut C'.1 C'.2.1 hd hq (h1 x hq) (kk ls hL)
    · obtain ⟨off, g1, g2⟩ := h2 x (fun q => hq (Or.inl q)) (fun q => hq (Or.inr q))
      exact lv_tableIn C'.1 C'.2.1 hd (fun q => hq (Or.inl q)) (fun q => hq (Or.inr q)) g1 g2 (kk ls hL)
  · cases e
theorem ok_look {dflt : Int} {ps : Array (Int × Int)} {len : Nat} {f : Int32 → Nat} (hd : decode cc pc = .ok (.lookupswitch dflt ps, len)) (hs : (ps.toList.zip (ps.toList.drop 1)).all (fun (a, next) => a.1 < next.1) = true) (hf : ∀ x : Int32, (pc : Int) + Op.lookupswitch.offset ps.toList dflt x.toInt = (f x : Int)) : r_OK B sp D cA SP M y cc nL rt pc (a_sw f) := by
  intro d L st h out e
  unfold a_sw at e
  split at e
  · rename_i x r
    cases e
    refine r_N0 fun l p e R s m args below meth c H locs cells slots ls Q C' _ _ hP hS hL kk => ?_
    exact lv_lookup C'.1 C'.2.1 hd hs rfl (hf x) (kk ls hL)
  · cases e
theorem r_catsum {B : Nat} {sp : Nat → Value} (hs : r_sp sp) : ∀ (st : List mV), ((st.map (r_v B sp)).map fun v => v.category).sum = st.length
  | [] => rfl
  | v :: st => by
    have ih := r_catsum (B := B) hs st
    simp only [List.map_cons, List.sum_cons, List.length_cons, r_cat hs, ih]
    omega
theorem ok_obj {idx : Nat} (hw1 : Cond.methodLink y.cls idx Lib.objectInit ∈ gtb) (hw2 : Cond.instanceMethod Lib.objectInit ∈ gtb) (hw3 : Cond.code Lib.objectInit ⟨#[0xb1]⟩ 1 none ∈ gtb) (hd : decode cc pc = .ok (.invokespecial idx, 3)) (hp : pc + 3 = pc') : r_OK B sp D cA SP M y cc nL rt pc (a_obj pc') := by
  intro d L st h out e
  subst hp
  unfold a_obj at e
  split at e
  · rename_i d2 a r
    split at e
    · rename_i hr
      cases e
      refine r_N0 fun l p e R s m args below meth c H locs cells slots ls Q C' hd1 hd2 hP hS hL kk => ?_
      have h8 := lv_room (m := m) (pc := pc) (ls := ls) (rest := (List.map (r_v B sp) (.inr (.inl (some a)) :: r))) (st := r.map (r_v B sp)) (by rw [r_catsum C'.2.2.2.2.2.2.2.2.2.2]; exact hr)
      exact W.objInit C'.1 C'.2.1 C'.2.2.2.1 (C'.2.2.2.2.1 _ hw1) (C'.2.2.2.2.1 _ hw2) (C'.2.2.2.2.1 _ hw3) rfl (by rw [C'.2.2.1]; exact hL.1) rfl hd (by omega) (by omega) (kk ls hL)
    · cases e
  · cases e
theorem ok_copy {idx : Nat} (hw1 : Cond.methodLink y.cls idx arraycopyName ∈ gtb) (hw2 : Cond.native arraycopyName ∈ gtb) (hw3 : Cond.static arraycopyName ∈ gtb) (hw4 : Cond.initialized "java/lang/System" ∈ gtb) (hd : decode cc pc = .ok (.invokestatic idx, 3)) (hp : pc + 3 = pc') : r_OK B sp D cA SP M y cc nL rt pc (a_copy pc') := by
  intro d L st h out e
  subst hp
  unfold a_copy at e
  split at e
  · rename_i d2 n dp b sp' a r
    split at e
    · rename_i hi
      rw [Bool.and_eq_true] at hi
      obtain ⟨hi, hr⟩ := hi
      have hr : r.length ≤ 8 := by simpa using hr
      obtain ⟨⟨⟨a1, a2⟩, b1, b2⟩, ⟨c1, c2, c3⟩, d1, d2'⟩ : ((a < h.1.2.1 ∧ (h.1.1 a).1 = 100) ∧ (b < h.1.2.1 ∧ (h.1.1 b).1 = 100)) ∧ (0 ≤ sp'.toInt ∧ 0 ≤ dp.toInt ∧ 0 ≤ n.toInt) ∧ sp'.toInt + n.toInt ≤ ((h.1.1 a).2 : Int) ∧ dp.toInt + n.toInt ≤ ((h.1.1 b).2 : Int) := by simpa [h_cp] using hi
      cases e
      refine r_N1 rfl fun l p e R s m args below meth c H locs cells slots ls Q C' hd1 hd2 hP hS hL kk => ?_
      have hea := r_w_at (B := B) (sp := sp) (cA := cA) (h := h) (k := a) a1
      rw [r_e_arr (t := 0) (by decide) a2] at hea
      have heb := r_w_at (B := B) (sp := sp) (cA := cA) (h := h) (k := b) b1
      rw [r_e_arr (t := 0) (by decide) b2] at heb
      have nn : ∀ z : Int32, 0 ≤ z.toInt → ¬ z < 0 := fun z hz => by rw [Int32.lt_iff_toInt_lt, Int32.toInt_zero]; omega
      have q1 : sp'.toNatClampNeg = sp'.toInt.toNat := rfl
      have q2 : dp.toNatClampNeg = dp.toInt.toNat := rfl
      have q3 : n.toNatClampNeg = n.toInt.toNat := rfl
      have hnf : nativeFrameWords "java/lang/System" "arraycopy" 5 ≤ 20 := by decide +kernel
      refine va_copyi C'.1 C'.2.1 (by rw [C'.2.2.1]; exact hL.1.symm) C'.2.2.2.1 (C'.2.2.2.2.1 _ hw1) (C'.2.2.2.2.1 _ hw2) (C'.2.2.2.2.1 _ hw3) (C'.2.2.2.2.1 _ hw4) C'.2.2.2.2.2.2.2.2.1 hP (r_w_D B sp cA h) hS a b 0 0 hea heb rfl rfl rfl (nn _ c1) (nn _ c2) (nn _ c3) (by omega) (by omega) (fun _ _ => rfl) (by omega) (by rw [r_catsum C'.2.2.2.2.2.2.2.2.2.2]; omega) hd (fun H1 locs1 p1 _ s1 => ?_)
      rw [r_wF_arr (t := 0) (by decide) b2] at p1
      exact kk H1 locs1 p1 s1 ls hL
    · cases e
  · cases e
/-- returns -/
theorem r_q {s : State} {args : Array Value} {H : Heap} {locs : List Loc} {r : Option mV} {h : mH} (hP : va_P D vwCl (r_w B sp cA h) H) (hS : va_S (r_A B) s.heap H locs) (t : State) (ht : t.heap = H) : r_Q B sp D cA r h args s (.returned (r.map (r_v B sp))) t := ⟨rfl, by rw [ht]; exact hP, hS.F ht⟩
theorem ok_iret (hr : rt = some .int) (hd : decode cc pc = .ok (.ireturn, 1)) : r_OK B sp D cA SP M y cc nL rt pc a_iret := by
  intro d L st h out e
  unfold a_iret at e
  split at e
  · rename_i x
    cases e
    refine ⟨rfl, fun l p e R s m args below meth c H locs cells slots ls C' hP hS => ?_⟩
    have hlk := C'.2.2.2.2.2.2.1
    exact W.iret (v := x) C'.1 C'.2.1 (C'.2.2.2.2.2.1.trans hr) (fun t ht _ => r_q (r := some (vi x)) hP hS t ht) hS.2.2 hd hlk
  · cases e
theorem ok_zret (hr : rt = some .boolean) (hd : decode cc pc = .ok (.ireturn, 1)) : r_OK B sp D cA SP M y cc nL rt pc a_zret := by
  intro d L st h out e
  unfold a_zret at e
  split at e
  · rename_i x
    split at e
    · rename_i hb
      have hb : x = 0 ∨ x = 1 := by simpa [h_bo] using hb
      cases e
      refine ⟨rfl, fun l p e R s m args below meth c H locs cells slots ls C' hP hS => ?_⟩
      have hlk := C'.2.2.2.2.2.2.1
      exact W.zret (v := x) C'.1 C'.2.1 (C'.2.2.2.2.2.1.trans hr) (by rcases hb with rfl | rfl <;> decide +kernel) (fun t ht _ => r_q (r := some (vi x)) hP hS t ht) hS.2.2 hd hlk
    · cases e
  · cases e
theorem ok_aret {t : FieldType} (hr : rt = some t) (ht : (∃ n, t = .object n) ∨ ∃ u, t = .array u) (hd : decode cc pc = .ok (.areturn, 1)) : r_OK B sp D cA SP M y cc nL rt pc a_aret := by
  intro d L st h out e
  unfold a_aret at e
  split at e
  · rename_i x
    cases e
    refine ⟨rfl, fun l p e R s m args below meth c H locs cells slots ls C' hP hS => ?_⟩
    have hlk := C'.2.2.2.2.2.2.1
    exact W.aret C'.1 C'.2.1 (C'.2.2.2.2.2.1.trans hr) ht (r_ref C'.2.2.2.2.2.2.2.2.2.2 x) (fun t ht _ => r_q (r := some (.inr x)) hP hS t ht) hS.2.2 hd hlk
  · cases e
theorem ok_ret (hr : rt = none) (hd : decode cc pc = .ok (.return_, 1)) : r_OK B sp D cA SP M y cc nL rt pc a_ret := by
  intro d L st h out e
  unfold a_ret at e
  split at e
  · cases e
    refine ⟨rfl, fun l p e R s m args below meth c H locs cells slots ls C' hP hS => ?_⟩
    have hlk := C'.2.2.2.2.2.2.1
    exact W.vret C'.1 C'.2.1 (C'.2.2.2.2.2.1.trans hr) (fun t ht _ => r_q (r := none) hP hS t ht) hS.2.2 hd hlk
  · cases e
end OKC

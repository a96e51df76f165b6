/-! THE SPECIAL VALUES: 0 the script, 1 Wreck.ABOVE, 2 a formatter, 10 + i the i-th String, 20 + i its bytes -/
def c_above (j : Nat) : Int32 := ([-1, 0, 0, 1, 2, 0] : List Int32).getD j 0
def c_len : List Nat := [0, 3, 3, 2, 4, 2, 4]
def c_byt : List (List Int32) := [[], [109, 104, 112], [102, 101, 101], [98, 117], [102, 105, 110, 101], [109, 112], [104, 97, 114, 100]]
def c_sw (n : Nat) (x : Int32) (g : Nat → Nat) (dflt : Nat) : Nat := if 0 ≤ x.toInt ∧ x.toInt < n then g x.toNatClampNeg else dflt
abbrev n_within : MethodName := ⟨"WreckSky", "within", "(III)Z"⟩
abbrev n_held : MethodName := ⟨"WreckSky", "held", "(III)I"⟩
abbrev n_wayRound : MethodName := ⟨"WreckSky", "wayRound", "(II)I"⟩
def SPf (B : Nat) (sp : Nat → Value) (Ls : Nat) (xs : Nat → Int32) (adK adV : Nat → Nat) (U : State) : Prop :=
  (∃ b : Nat, sp 0 = .ref b ∧ b < B ∧ b < U.heap.size ∧ va_X b Ls xs U U.heap) ∧
  (∃ t : Nat, sp 1 = .ref t ∧ va_Z "WreckSky$Wreck" "ABOVE" "[I" (.ref t) (r_A B) U U.heap ∧ va_T .int t 6 (fun j => .int (c_above j)) (r_A B) U U.heap) ∧
  va_Z "jdk/internal/util/Preconditions" "SIOOBE_FORMATTER" "Ljava/util/function/BiFunction;" (sp 2) (r_A B) U U.heap ∧
  va_Z "java/lang/String" "COMPACT_STRINGS" "Z" (.int 1) (r_A B) U U.heap ∧
  (vk_S 7 c_len c_byt adK adV (r_A B) U U.heap ∧ ∀ i, i < 7 → sp (10 + i) = .ref (adK i) ∧ sp (20 + i) = .ref (adV i)) ∧
  (vk_R "WreckSky$Reader" 15 "" (adK 0) U ∧ vk_R "WreckSky$Reader" 91 "mhp" (adK 1) U ∧ vk_R "WreckSky$Reader" 93 "fee" (adK 2) U ∧ vk_R "WreckSky$Reader" 99 "bu" (adK 3) U ∧ vk_R "WreckSky$Reader" 101 "fine" (adK 4) U ∧ vk_R "WreckSky$Reader" 103 "mp" (adK 5) U ∧ vk_R "WreckSky$Reader" 105 "hard" (adK 6) U) ∧
  va_Nw (.methodLinkNest "WreckSky$Sky" 57 n_within "WreckSky") U ∧ va_Nw (.methodLinkNest "WreckSky$Sky" 91 n_held "WreckSky") U ∧ va_Nw (.methodLinkNest "WreckSky$Foresight" 69 n_within "WreckSky") U ∧ va_Nw (.methodLinkNest "WreckSky$Foresight" 100 n_wayRound "WreckSky") U ∧ va_Nw (.methodLinkNest "WreckSky$Sheet" 34 n_within "WreckSky") U ∧
  va_AO "WreckSky$Wreck" U ∧ va_AO "WreckSky$Text" U ∧ va_AO "WreckSky$Sheet" U ∧ va_AO "WreckSky$Slot" U
theorem SPf_ok (B : Nat) (sp : Nat → Value) (Ls : Nat) (xs : Nat → Int32) (adK adV : Nat → Nat) : r_SP B (SPf B sp Ls xs adK adV) := by
  refine ⟨fun s U hW h hq hz => ?_, fun a U g mk h => ?_⟩
  · obtain ⟨⟨b, x1, x2, x3, x4⟩, ⟨t, t1, t2, t3⟩, f1, f2, ⟨k1, k2⟩, ⟨r0, r1, r2, r3, r4, r5, r6⟩, n1, n2, n3, n4, n5, o1, o2, o3, o4⟩ := h
    have hal := hW.alike
    refine ⟨⟨b, x1, x2, by omega, va_X.moved hal (x4.kept (hq b x3 (by show ¬ B ≤ b; omega)))⟩, ⟨t, t1, va_Z.moved hal (t2.kept hq), va_T.moved hal (t3.kept hq)⟩, va_Z.moved hal (f1.kept hq), va_Z.moved hal (f2.kept hq), ⟨vk_S.moved hal (k1.kept hq), k2⟩,
      ⟨r0.warm hW, r1.warm hW, r2.warm hW, r3.warm hW, r4.warm hW, r5.warm hW, r6.warm hW⟩, va_Nw.warmM hW n1, va_Nw.warmM hW n2, va_Nw.warmM hW n3, va_Nw.warmM hW n4, va_Nw.warmM hW n5, va_AO.moved hal o1, va_AO.moved hal o2, va_AO.moved hal o3, va_AO.moved hal o4⟩
  · obtain ⟨⟨b, x1, x2, x3, x4⟩, ⟨t, t1, t2, t3⟩, f1, f2, ⟨k1, k2⟩, ⟨r0, r1, r2, r3, r4, r5, r6⟩, n1, n2, n3, n4, n5, o1, o2, o3, o4⟩ := h
    have hal : U.vm.Alike (U.calling g mk a).vm := Vm.Alike.refl U.vm
    refine ⟨⟨b, x1, x2, x3, va_X.moved hal x4⟩, ⟨t, t1, va_Z.moved hal t2, va_T.moved hal t3⟩, va_Z.moved hal f1, va_Z.moved hal f2, ⟨vk_S.moved hal k1, k2⟩,
      ⟨r0.same rfl, r1.same rfl, r2.same rfl, r3.same rfl, r4.same rfl, r5.same rfl, r6.same rfl⟩, va_Nw.same rfl rfl n1, va_Nw.same rfl rfl n2, va_Nw.same rfl rfl n3, va_Nw.same rfl rfl n4, va_Nw.same rfl rfl n5, va_AO.moved hal o1, va_AO.moved hal o2, va_AO.moved hal o3, va_AO.moved hal o4⟩
/-! actions on them -/
def a_tld (pc : Nat) : mA := fun _ L st h => match st with
  | .inl i :: .inr (.inr 1) :: r => if 0 ≤ i.toInt ∧ i.toInt < 6 then nx_ pc L (vi (c_above i.toNatClampNeg) :: r) h else none
  | _ => none
def a_strV (pc : Nat) : mA := fun _ L st h => match st with
  | .inr (.inr k) :: r => if 10 ≤ k ∧ k < 17 then nx_ pc L (vs (k + 10) :: r) h else none
  | _ => none
def a_strC (pc : Nat) : mA := fun _ L st h => match st with
  | .inr (.inr k) :: r => if 10 ≤ k ∧ k < 17 then nx_ pc L (vi 0 :: r) h else none
  | _ => none
def a_blen (pc : Nat) : mA := fun _ L st h => match st with
  | .inr (.inr k) :: r => if 20 ≤ k ∧ k < 27 then nx_ pc L (vi (Int32.ofNat (c_len.getD (k - 20) 0)) :: r) h else none
  | _ => none
def a_bald (pc : Nat) : mA := fun _ L st h => match st with
  | .inl i :: .inr (.inr k) :: r => if (20 ≤ k ∧ k < 27) ∧ 0 ≤ i.toInt ∧ i.toInt < (c_len.getD (k - 20) 0 : Int) then nx_ pc L (vi ((c_byt.getD (k - 20) []).getD i.toNatClampNeg 0) :: r) h else none
  | _ => none
def a_callT (mi n pc : Nat) : mA := fun _ L st h => match st[n]? with
  | some (.inr (.inr k)) => if (10 ≤ k ∧ k < 17) ∧ st.length ≤ n + 9 then some (.inr (.inr (mi, (st.take (n + 1)).reverse, pc, L, st.drop (n + 1), h))) else none
  | _ => none
def a_cret : mA := fun _ _ st h => match st with
  | [.inl x] => if 0 ≤ x.toInt ∧ x.toInt < 65536 then some (.inl (some (vi x), h)) else none
  | _ => none
section OKX
variable {B : Nat} {sp : Nat → Value} {D : va_G} {cA : Nat → ClassId} {Ls : Nat} {xs : Nat → Int32} {adK adV : Nat → Nat} {M : mM} {y : MethodName} {cc : ByteArray} {nL : Nat} {rt : Option FieldType} {pc pc' : Nat}
theorem ok_sld (hd : decode cc pc = .ok (.iaload, 1)) (hp : pc + 1 = pc') : r_OK B sp D cA (SPf B sp Ls xs adK adV) M y cc nL rt pc (a_sld Ls xs pc') := by
  intro d L st h out e
  subst hp
  unfold a_sld at e
  split at e
  · rename_i i r
    split at e
    · rename_i hi
      cases e
      refine r_N0 fun l p e R s m args below meth c H locs cells slots ls Q C' _ _ hP hS hL kk => ?_
      obtain ⟨b, x1, x2, x3, x4⟩ := C'.2.2.2.2.2.2.2.2.2.1.1
      refine W.eq (g2 := F0 m pc ls (.int i :: .ref b :: r.map (r_v B sp))) (by rw [← x1]; rfl) ?_
      exact va_sld C'.1 C'.2.1 x4 x3 (by show ¬ B ≤ b; omega) hS (r_vin hi.1 hi.2) hd (kk ls hL)
    · cases e
  · cases e
theorem ok_slen (hd : decode cc pc = .ok (.arraylength, 1)) (hp : pc + 1 = pc') : r_OK B sp D cA (SPf B sp Ls xs adK adV) M y cc nL rt pc (a_slen Ls pc') := by
  intro d L st h out e
  subst hp
  unfold a_slen at e
  split at e
  · rename_i r
    cases e
    refine r_N0 fun l p e R s m args below meth c H locs cells slots ls Q C' _ _ hP hS hL kk => ?_
    obtain ⟨b, x1, x2, x3, x4⟩ := C'.2.2.2.2.2.2.2.2.2.1.1
    refine W.eq (g2 := F0 m pc ls (.ref b :: r.map (r_v B sp))) (by rw [← x1]; rfl) ?_
    exact va_slen C'.1 C'.2.1 x4 x3 (by show ¬ B ≤ b; omega) hS hd (kk ls hL)
  · cases e
theorem ok_above {idx : Nat} (hw : Cond.fieldLink y.cls idx "WreckSky$Wreck" "ABOVE" "[I" ∈ gtb) (hd : decode cc pc = .ok (.getstatic idx, 3)) (hp : pc + 3 = pc') : r_OK B sp D cA (SPf B sp Ls xs adK adV) M y cc nL rt pc (a_spec 1 pc') := by
  intro d L st h out e
  subst hp
  cases e
  refine r_N0 fun l p e R s m args below meth c H locs cells slots ls Q C' _ _ hP hS hL kk => ?_
  obtain ⟨t, t1, t2, t3⟩ := C'.2.2.2.2.2.2.2.2.2.1.2.1
  refine va_gets C'.1 C'.2.1 t2 hS C'.2.2.2.1 (C'.2.2.2.2.1 _ hw) (fun _ h => h) hd ?_
  rw [← t1]
  exact kk ls hL
theorem ok_tld (hd : decode cc pc = .ok (.iaload, 1)) (hp : pc + 1 = pc') : r_OK B sp D cA (SPf B sp Ls xs adK adV) M y cc nL rt pc (a_tld pc') := by
  intro d L st h out e
  subst hp
  unfold a_tld at e
  split at e
  · rename_i i r
    split at e
    · rename_i hi
      cases e
      refine r_N0 fun l p e R s m args below meth c H locs cells slots ls Q C' _ _ hP hS hL kk => ?_
      obtain ⟨t, t1, t2, t3⟩ := C'.2.2.2.2.2.2.2.2.2.1.2.1
      refine W.eq (g2 := F0 m pc ls (.int i :: .ref t :: r.map (r_v B sp))) (by rw [← t1]; rfl) ?_
      exact va_ti C'.1 C'.2.1 t3 hS (r_vin hi.1 hi.2) rfl hd (kk ls hL)
    · cases e
  · cases e
theorem ok_form {idx : Nat} (hw : Cond.fieldLink y.cls idx "jdk/internal/util/Preconditions" "SIOOBE_FORMATTER" "Ljava/util/function/BiFunction;" ∈ gtb) (hd : decode cc pc = .ok (.getstatic idx, 3)) (hp : pc + 3 = pc') : r_OK B sp D cA (SPf B sp Ls xs adK adV) M y cc nL rt pc (a_spec 2 pc') := by
  intro d L st h out e
  subst hp
  cases e
  refine r_N0 fun l p e R s m args below meth c H locs cells slots ls Q C' _ _ hP hS hL kk => ?_
  exact va_gets C'.1 C'.2.1 C'.2.2.2.2.2.2.2.2.2.1.2.2.1 hS C'.2.2.2.1 (C'.2.2.2.2.1 _ hw) (fun _ h => h) hd (kk ls hL)
theorem ok_comp {idx : Nat} (hw : Cond.fieldLink y.cls idx "java/lang/String" "COMPACT_STRINGS" "Z" ∈ gtb) (hd : decode cc pc = .ok (.getstatic idx, 3)) (hp : pc + 3 = pc') : r_OK B sp D cA (SPf B sp Ls xs adK adV) M y cc nL rt pc (a_push 1 pc') := by
  intro d L st h out e
  subst hp
  cases e
  refine r_N0 fun l p e R s m args below meth c H locs cells slots ls Q C' _ _ hP hS hL kk => ?_
  exact va_gets C'.1 C'.2.1 C'.2.2.2.2.2.2.2.2.2.1.2.2.2.1 hS C'.2.2.2.1 (C'.2.2.2.2.1 _ hw) (fun _ h => h) hd (kk ls hL)
theorem ok_str {i k : Nat} {tx : String} (hi : i < 7) (hr : ∀ U, SPf B sp Ls xs adK adV U → vk_R y.cls k tx (adK i) U) (hd : decode cc pc = .ok (.ldc k, 2)) (hp : pc + 2 = pc') : r_OK B sp D cA (SPf B sp Ls xs adK adV) M y cc nL rt pc (a_spec (10 + i) pc') := by
  intro d L st h out e
  subst hp
  cases e
  refine r_N0 fun l p e R s m args below meth c H locs cells slots ls Q C' _ _ hP hS hL kk => ?_
  have hs := C'.2.2.2.2.2.2.2.2.2.1
  refine va_ldcS C'.1 C'.2.1 C'.2.2.2.1 (hr s hs) hd ?_
  rw [← (hs.2.2.2.2.1.2 i hi).1]
  exact kk ls hL
theorem ok_strV {idx : Nat} (hw : Cond.fieldLink y.cls idx "java/lang/String" "value" "[B" ∈ gtb) (hd : decode cc pc = .ok (.getfield idx, 3)) (hp : pc + 3 = pc') : r_OK B sp D cA (SPf B sp Ls xs adK adV) M y cc nL rt pc (a_strV pc') := by
  intro d L st h out e
  subst hp
  unfold a_strV at e
  split at e
  · rename_i k r
    split at e
    · rename_i hi
      cases e
      obtain ⟨i, rfl⟩ : ∃ i, k = 10 + i := ⟨k - 10, by omega⟩
      refine r_N0 fun l p e R s m args below meth c H locs cells slots ls Q C' _ _ hP hS hL kk => ?_
      have hs := C'.2.2.2.2.2.2.2.2.2.1.2.2.2.2.1
      refine W.eq (g2 := F0 m pc ls (.ref (adK i) :: r.map (r_v B sp))) (by rw [← (hs.2 i (by omega)).1]; rfl) ?_
      refine vk_getf C'.1 C'.2.1 (hs.1.1 i (by omega)).2.2.1 hS C'.2.2.2.1 (C'.2.2.2.2.1 _ hw) (fun _ h => h) hd ?_
      have k2 := kk ls hL
      rw [show 10 + i + 10 = 20 + i by omega] at k2
      rw [← (hs.2 i (by omega)).2]
      exact k2
    · cases e
  · cases e
theorem ok_strC {idx : Nat} (hw : Cond.fieldLink y.cls idx "java/lang/String" "coder" "B" ∈ gtb) (hd : decode cc pc = .ok (.getfield idx, 3)) (hp : pc + 3 = pc') : r_OK B sp D cA (SPf B sp Ls xs adK adV) M y cc nL rt pc (a_strC pc') := by
  intro d L st h out e
  subst hp
  unfold a_strC at e
  split at e
  · rename_i k r
    split at e
    · rename_i hi
      cases e
      obtain ⟨i, rfl⟩ : ∃ i, k = 10 + i := ⟨k - 10, by omega⟩
      refine r_N0 fun l p e R s m args below meth c H locs cells slots ls Q C' _ _ hP hS hL kk => ?_
      have hs := C'.2.2.2.2.2.2.2.2.2.1.2.2.2.2.1
      refine W.eq (g2 := F0 m pc ls (.ref (adK i) :: r.map (r_v B sp))) (by rw [← (hs.2 i (by omega)).1]; rfl) ?_
      exact vk_getf C'.1 C'.2.1 (hs.1.1 i (by omega)).2.1 hS C'.2.2.2.1 (C'.2.2.2.2.1 _ hw) (fun _ h => h) hd (kk ls hL)
    · cases e
  · cases e
theorem ok_blen (hd : decode cc pc = .ok (.arraylength, 1)) (hp : pc + 1 = pc') : r_OK B sp D cA (SPf B sp Ls xs adK adV) M y cc nL rt pc (a_blen pc') := by
  intro d L st h out e
  subst hp
  unfold a_blen at e
  split at e
  · rename_i k r
    split at e
    · rename_i hi
      cases e
      obtain ⟨i, rfl⟩ : ∃ i, k = 20 + i := ⟨k - 20, by omega⟩
      refine r_N0 fun l p e R s m args below meth c H locs cells slots ls Q C' _ _ hP hS hL kk => ?_
      have hs := C'.2.2.2.2.2.2.2.2.2.1.2.2.2.2.1
      refine W.eq (g2 := F0 m pc ls (.ref (adV i) :: r.map (r_v B sp))) (by rw [← (hs.2 i (by omega)).2]; rfl) ?_
      exact va_tlen C'.1 C'.2.1 (hs.1.1 i (by omega)).2.2.2 hS (by rw [show 20 + i - 20 = i by omega]) hd (kk ls hL)
    · cases e
  · cases e
theorem ok_bald (hd : decode cc pc = .ok (.baload, 1)) (hp : pc + 1 = pc') : r_OK B sp D cA (SPf B sp Ls xs adK adV) M y cc nL rt pc (a_bald pc') := by
  intro d L st h out e
  subst hp
  unfold a_bald at e
  split at e
  · rename_i j k r
    split at e
    · rename_i hi
      cases e
      obtain ⟨i, rfl⟩ : ∃ i, k = 20 + i := ⟨k - 20, by omega⟩
      refine r_N0 fun l p e R s m args below meth c H locs cells slots ls Q C' _ _ hP hS hL kk => ?_
      have hs := C'.2.2.2.2.2.2.2.2.2.1.2.2.2.2.1
      have e0 : 20 + i - 20 = i := by omega
      rw [e0] at hi kk
      refine W.eq (g2 := F0 m pc ls (.int j :: .ref (adV i) :: r.map (r_v B sp))) (by rw [← (hs.2 i (by omega)).2]; rfl) ?_
      exact va_tb C'.1 C'.2.1 (hs.1.1 i (by omega)).2.2.2 hS (r_vin hi.2.1 hi.2.2) rfl hd (kk ls hL)
    · cases e
  · cases e
theorem ok_bret (hr : rt = some .byte) (hd : decode cc pc = .ok (.ireturn, 1)) : r_OK B sp D cA (SPf B sp Ls xs adK adV) M y cc nL rt pc a_zret := by
  intro d L st h out e
  unfold a_zret at e
  split at e
  · rename_i x
    split at e
    · rename_i hb
      have hb : x = 0 ∨ x = 1 := by simpa [h_bo] using hb
      cases e
      refine ⟨rfl, fun l p e R s m args below meth c H locs cells slots ls C' hP hS => ?_⟩
      have hlk := C'.2.2.2.2.2.2.1
      exact W.zret (v := x) C'.1 C'.2.1 (C'.2.2.2.2.2.1.trans hr) (by rcases hb with rfl | rfl <;> decide +kernel) (fun t ht _ => r_q (r := some (vi x)) hP hS t ht) hS.2.2 hd hlk
    · cases e
  · cases e
theorem ok_cret (hr : rt = some .char) (hd : decode cc pc = .ok (.ireturn, 1)) : r_OK B sp D cA (SPf B sp Ls xs adK adV) M y cc nL rt pc a_cret := by
  intro d L st h out e
  unfold a_cret at e
  split at e
  · rename_i x
    split at e
    · rename_i hb
      cases e
      refine ⟨rfl, fun l p e R s m args below meth c H locs cells slots ls C' hP hS => ?_⟩
      have hlk := C'.2.2.2.2.2.2.1
      obtain ⟨j, hj, rfl⟩ : ∃ j, j < 65536 ∧ x = nI j := vp_in_of (r_vin hb.1 hb.2) (by decide)
      exact W.zret (v := nI j) C'.1 C'.2.1 (C'.2.2.2.2.2.1.trans hr) (pk_charN hj).1 (fun t ht _ => r_q (r := some (vi (nI j))) hP hS t ht) hS.2.2 hd hlk
    · cases e
  · cases e
theorem r_stkT {n k : Nat} {q : Nat} {st : List mV} (hq : sp k = .ref q) (h : st[n]? = some (vs k)) : st.map (r_v B sp) = (((st.take n).reverse).map (r_v B sp)).reverse ++ .ref q :: (st.drop (n + 1)).map (r_v B sp) ∧ (st.take (n + 1)).reverse = vs k :: (st.take n).reverse := by
  have hn := (List.getElem?_eq_some_iff.mp h).1
  have hg : st[n] = vs k := (List.getElem?_eq_some_iff.mp h).2
  have e : st.drop n = vs k :: st.drop (n + 1) := by rw [List.drop_eq_getElem_cons hn, hg]
  refine ⟨?_, ?_⟩
  · rw [List.map_reverse, List.reverse_reverse, ← hq]
    show _ = _ ++ (r_v B sp (vs k) :: _)
    rw [← List.map_cons, ← e, ← List.map_append, List.take_append_drop]
  · rw [List.take_succ_eq_append_getElem hn, hg, List.reverse_append]
    rfl
theorem ok_callT {mi n idx : Nat} {y2 : MethodName} {cc2 : ByteArray} {nL2 : Nat} {rt2 : Option FieldType} (hM : M mi = (y2, cc2, nL2, rt2)) (hc : c_M y2 cc2 nL2 rt2 n) (hn : n + 1 ≤ nL2) (hw1 : Cond.methodLink y.cls idx y2 ∈ gtb) (hw2 : Cond.instanceMethod y2 ∈ gtb) (hw3 : Cond.selects "java/lang/String" y2 y2 ∈ gtb) (hd : decode cc pc = .ok (.invokevirtual idx, 3)) (hp : pc + 3 = pc') : r_OK B sp D cA (SPf B sp Ls xs adK adV) M y cc nL rt pc (a_callT mi n pc') := by
  have hSP := SPf_ok B sp Ls xs adK adV
  intro d L st h out e
  subst hp
  unfold a_callT at e
  split at e
  · rename_i k ha
    split at e
    · rename_i hi
      obtain ⟨hi, hl⟩ := hi
      obtain ⟨i, rfl⟩ : ∃ i, k = 10 + i := ⟨k - 10, by omega⟩
      cases e
      refine ⟨rfl, ?_⟩
      rw [hM]
      refine ⟨by simp; omega, hc.2.2.2.2, rfl, ?_⟩
      intro l p e R s m args below meth c H locs cells slots c0 d2 mc ms ls Q r h2 C hd hd1 hd2 hB hcl' e1 e2 hP hS hL hMt kk
      subst hd
      refine w_sized fun hz => ?_
      have hsz := r_size hP hS hB hcl' hz
      have hs := C.2.2.2.2.2.2.2.2.2.1.2.2.2.2.1
      obtain ⟨k1, k2⟩ := r_stkT (B := B) (sp := sp) (hs.2 i (by omega)).1 ha
      have hlen := (List.getElem?_eq_some_iff.mp ha).1
      rw [k2] at hMt
      have hpre := r_pre hSP (as := vs (10 + i) :: (st.take n).reverse) C hP hS hsz
      have ev : r_v B sp (vs (10 + i)) = .ref (adK i) := (hs.2 i (by omega)).1
      rw [List.map_cons, ev] at hpre
      refine W.eq (g2 := F0 m pc ls ((((st.take n).reverse).map (r_v B sp)).reverse ++ .ref (adK i) :: (st.drop (n + 1)).map (r_v B sp))) (by rw [← k1]) ?_
      refine r_go (rest := (st.drop (n + 1)).map (r_v B sp)) (va_runV (C := "java/lang/String") (b := adK i) (As := ((st.take n).reverse).map (r_v B sp)) (rest := (st.drop (n + 1)).map (r_v B sp)) ⟨C.1, C.2.1, C.2.2.1, C.2.2.2.1, C.2.2.2.2.1⟩ hMt
        ⟨callB_of n C.2.2.2.2.1 (r_good hc.1) rfl rfl rfl (C.2.2.2.2.1 _ hc.2.1) (C.2.2.2.2.1 _ hw1) hc.2.2.1 ⟨hd1, by show 8 + (nL2 + 11) + 41 * d2 ≤ R.locals; have := hc.2.2.2.1; omega⟩, C.2.2.2.2.1 _ hw2, C.2.2.2.2.1 _ hw3⟩
        ⟨r_blind hSP, vk_recv hs.1 (by omega) hS, hpre⟩ rfl (by simp; omega) hL.1 rfl (lv_room (by rw [r_catsum C.2.2.2.2.2.2.2.2.2.2]; simp; omega)) ‹decode cc pc = _› ⟨e1, e2⟩) hS fun H1 locs1 p1 s1 => ?_
      rw [← r_ans]
      exact kk H1 locs1 p1 s1
    · cases e
  · cases e
end OKX

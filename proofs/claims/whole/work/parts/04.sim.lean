theorem met_ofW {l : Launch} {y : MethodName} {ws ws' : List Cond} {rm : Room} {Pc : Array Value → State → Prop} {Qc : Array Value → State → Outcome → State → Prop} {mc ms : Nat} {free : Addr → Prop} {cc : ByteArray} {maxL : Nat} {ret : Option FieldType}
    (hy : plainFor y = true) (hw : ws = Cond.code y cc maxL ret :: ws')
    (body : ∀ p e s m args below meth c s₁, BodyLoose p l y (headSpec ws rm) cc maxL ret e s m args below meth c s₁ → c.maxLocals = maxL → Pc args s →
      W p l e (headSpec ws rm).room s m args below meth c s.heap [] 0 0 (MQ below Qc args s mc ms free) (entryFrame m args maxL)) : Met l y ws rm Pc Qc mc ms free := by
  refine MetFree.of_bodySF (code := cc) (maxLocals := maxL) (ret := ret) hy ?_ ?_
  · intro args s m h hn
    obtain ⟨meth, c, h1, h2, h3, h4, h5, h6, -, -⟩ := Cond.code_spec hn (atoms_spec (ws := ws) h _ (by rw [hw]; exact List.mem_cons_self))
    exact ⟨meth, c, h1, h2, h3, h4, h5, h6⟩
  · intro p e s m args below meth c s₁ B hml hP _
    have hh0 : s₁.heap = s.heap := by rw [B.state]; rfl
    obtain ⟨t, a1, o, b1, b2, b3⟩ := body p e s m args below meth c s₁ B hml hP s₁ hh0 (Stand.of_body B)
    exact ⟨t, o, a1, b1, b2, ⟨b3.1, b3.2⟩⟩
/-- THE SIMULATION: a run of the small machine is a run of the real one -/
theorem r_sim {B : Nat} {sp : Nat → Value} {D : va_G} {cA : Nat → ClassId} {SP : State → Prop} {M : mM} {P : Nat → Nat → mA} (hSP : r_SP B SP)
    (hP : ∀ mi pc, r_OK B sp D cA SP M (M mi).1 (M mi).2.1 (M mi).2.2.1 (M mi).2.2.2 pc (P mi pc)) : ∀ (k d mi pc : Nat) (L : mL) (st : List mV) (h : mH) (r : mRes), m_ex P (fun mi => (M mi).2.2.1) k d mi pc L st h = some r →
    h_nx h ≤ h_nx r.2 ∧ h_su h ≤ h_su r.2 ∧ ∀ (l : Launch) (p : Program) (e : Env) (R : Room) (s : State) (m : MethodId) (args : Array Value) (below : List Frame) (meth : Method) (c : Code) (H : Heap) (locs : List Loc) (cells slots c0 mc ms : Nat) (ls : Array Slot),
      r_C B sp D cA SP (M mi).1 (M mi).2.1 (M mi).2.2.1 (M mi).2.2.2 p s m args meth c → d ≤ R.frames → 41 * d ≤ R.locals → s.heap.size = B + c0 → cells + c0 = h_nx h → cells + (h_nx r.2 - h_nx h) = mc → slots + (h_su r.2 - h_su h) = ms → mc ≤ R.cells → ms ≤ R.slots →
      va_P D vwCl (r_w B sp cA h) H → va_S (r_A B) s.heap H locs → r_L B sp ls (M mi).2.2.1 L →
      W p l e R s m args below meth c H locs cells slots (MQ below (r_Q B sp D cA r.1 r.2) args s mc ms (r_A B)) (F0 m pc ls (st.map (r_v B sp))) := by
  intro k
  induction k with
  | zero => intro d mi pc L st h r e; simp [m_ex] at e
  | succ k ih =>
    intro d mi pc L st h r e
    have hok := hP mi pc d L st h
    rw [m_ex] at e
    split at e
    · cases e
    · rename_i r' h1
      cases e
      obtain ⟨rfl, hT⟩ := hok _ h1
      refine ⟨Nat.le_refl _, Nat.le_refl _, ?_⟩
      intro l p e R s m args below meth c H locs cells slots c0 mc ms ls C _ _ _ _ e1 e2 _ _ hp hS _
      rw [Nat.sub_self, Nat.add_zero] at e1 e2
      subst e1; subst e2
      exact hT l p e R s m args below meth c H locs cells slots ls C hp hS
    · rename_i pc' L' st' h' h1
      obtain ⟨n1, n2, hN⟩ := hok _ h1
      obtain ⟨i1, i2, hI⟩ := ih _ _ _ _ _ _ _ e
      dsimp only at n1 n2 hN
      refine ⟨Nat.le_trans n1 i1, Nat.le_trans n2 i2, ?_⟩
      intro l p e R s m args below meth c H locs cells slots c0 mc ms ls C hd1 hd2 hB hc e1 e2 r1 r2 hp hS hL
      refine hN l p e R s m args below meth c H locs cells slots c0 ls _ C hd1 hd2 hB hc (by omega) (by omega) hp hS hL fun H1 locs1 ls1 hp1 hS1 hL1 => ?_
      exact hI l p e R s m args below meth c H1 locs1 _ _ c0 mc ms ls1 C hd1 hd2 hB (by omega) (by omega) (by omega) r1 r2 hp1 hS1 hL1
    · rename_i mi' as pc' L' st' h' h1
      obtain ⟨rfl, a1, a2, rfl, hK⟩ := hok _ h1
      split at e
      · cases e
      · rename_i d'
        split at e
        · cases e
        · rename_i v h2 h3
          obtain ⟨j1, j2, hJ⟩ := ih _ _ _ _ _ _ _ h3
          obtain ⟨i1, i2, hI⟩ := ih _ _ _ _ _ _ _ e
          dsimp only at j1 j2 hJ
          refine ⟨Nat.le_trans j1 i1, Nat.le_trans j2 i2, ?_⟩
          intro l p e R s m args below meth c H locs cells slots c0 mc ms ls C hd1 hd2 hB hc e1 e2 r1 r2 hp hS hL
          refine hK l p e R s m args below meth c H locs cells slots c0 d' (h_nx h2 - h_nx h') (h_su h2 - h_su h') ls _ v h2 C rfl hd1 hd2 hB hc (by omega) (by omega) hp hS hL ?_ fun H1 locs1 hp1 hS1 => ?_
          · refine met_ofW (cc := (M mi').2.1) (maxL := (M mi').2.2.1) (ret := (M mi').2.2.2) a2 rfl ?_
            intro p e s m args below meth c s₁ Bd hml hv
            obtain ⟨rfl, hsz, hp2, hK2, hs2⟩ := hv
            have hts := atoms_spec (ws := r_ws (M mi').1 (M mi').2.1 (M mi').2.2.1 (M mi').2.2.2) Bd.pre
            rw [lg_entry_eq]
            exact hJ l p e _ s m _ below meth c s.heap [] 0 0 (h_nx h') _ _ _ ⟨Bd.exec, Bd.bytes, hml, findClass_of_methodNamed Bd.named, fun w hw => hts w (List.mem_cons_of_mem _ hw), Bd.returns, Bd.notSynchronized, fun _ => (name_of_methodNamed Bd.named Bd.method).1, hK2, hs2, C.2.2.2.2.2.2.2.2.2.2⟩
              (Nat.le_refl _) (Nat.le_refl _) hsz (Nat.zero_add _) (Nat.zero_add _) (Nat.zero_add _) (Nat.le_refl _) (Nat.le_refl _) hp2 va_S.rf (r_L_ent C.2.2.2.2.2.2.2.2.2.2 a1)
          · exact hI l p e R s m args below meth c H1 locs1 _ _ c0 mc ms ls C hd1 hd2 hB (by omega) (by omega) (by omega) r1 r2 hp1 hS1 hL

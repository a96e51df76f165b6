/-- YOUR PART: from the entry, for every script of at most 3072 ints, the law comes to its end with true ('hflags': the launch's flags, for a law that throws: no stack traces) -/
theorem whole_start {p : Program} {e : Env} {s : State} {m : MethodId} {below : List Frame} {meth : Method} {c : Code} (l : Launch) (hflags : l.flags = flags0) {b L : Nat} {xs : Nat → Int32} (hL : L ≤ 3072) (C0 : lw_At p s m meth c b L xs) : W p l e room_1 s m #[Value.ref b] below meth c s.heap [] 0 0 (lw_Z below #[Value.ref b] s) (entryFrame m ([Value.ref b] : List Value).toArray 4) := by
  obtain ⟨sp, adK, adV, e0, hsp, hSP⟩ := sp_of C0
  obtain ⟨D, cA, hK⟩ := ka_of C0
  obtain ⟨S2, I2, R2, ⟨q1, q2⟩, hrun⟩ := law_all (xs := xs) hL
  obtain ⟨k, hex⟩ := m_run_iff.mp hrun
  obtain ⟨hx, hb, hr, hml, hown, hts, hX, hbl, hlocks, hgv⟩ := C0
  have sim := (r_sim (B := s.heap.size) (sp := sp) (D := D) (cA := cA) (M := MT) (P := PT L xs) (SPf_ok s.heap.size sp L xs adK adV) (fun mi pc => P_ok mi pc) k 200 0 0 _ _ _ _ hex).2.2
  have hC : r_C s.heap.size sp D cA (SPf s.heap.size sp L xs adK adV) (MT 0).1 (MT 0).2.1 (MT 0).2.2.1 (MT 0).2.2.2 p s m #[Value.ref b] meth c :=
    ⟨hx, hb, hml, hown, fun w hw => hts w (List.mem_filter.mp hw).1, hr, hlocks, fun q => absurd q (by decide), hK, hSP, hsp⟩
  have hl := r_L_ent (B := s.heap.size) hsp (vs := [.inr (.inr 0)]) (n := 4) (by decide)
  have ev : ([.inr (.inr 0)] : List mV).map (r_v s.heap.size sp) = [Value.ref b] := by
    show [sp 0] = [Value.ref b]
    rw [e0]
  rw [ev] at hl
  have hp : va_P D vwCl (r_w s.heap.size sp cA H0) s.heap := fun k q h => (by cases h)
  have w := sim l p e room_1 s m #[Value.ref b] below meth c s.heap [] 0 0 0 _ _ _ hC (Nat.le_of_ble_eq_true rfl) (Nat.le_of_ble_eq_true rfl) (Nat.add_zero _).symm rfl rfl rfl
    (by show 0 + (S2.2.1 - 0) ≤ 600000; omega) (by show 0 + (S2.2.2 - 0) ≤ 7302250; omega) hp va_S.rf hl
  rw [lg_entry_eq]
  intro T hT X
  obtain ⟨t, a1, o, b1, b2, ⟨b3, b4, b5⟩, Lc, ⟨d1, d2, d3⟩, d4⟩ := w T hT X
  exact ⟨t, a1, o, b1, b2, b3, d1, d2, d3.weaken (fun x hx hlt => absurd hlt (Nat.not_lt.mpr (d4 x hx))) (by show 0 + (S2.2.1 - 0) ≤ 600000; omega) (by show 0 + (S2.2.2 - 0) ≤ 7302250; omega)⟩

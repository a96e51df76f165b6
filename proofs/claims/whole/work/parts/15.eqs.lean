/-! RUNS OF THE PROGRAM, by equations -/
abbrev mI : Type := Nat → Nat → Int32
abbrev mR : Type := Nat → Nat → mr
noncomputable def rn (Ls : Nat) (xs : Nat → Int32) (d mi pc : Nat) (L : mL) (st : List mV) (h : mH) : Option mRes := m_run (PT Ls xs) (fun mi => (MT mi).2.2.1) d mi pc L st h
/-- behind a call -/
noncomputable def rb (Ls : Nat) (xs : Nat → Int32) (d mi pc : Nat) (L : mL) (st : List mV) : Option mRes → Option mRes
  | none => none
  | some (v, h) => rn Ls xs d mi pc L (v.toList ++ st) h
section RNS
variable {Ls : Nat} {xs : Nat → Int32} {d mi pc pc' tg : Nat} {L : mL} {st : List mV} {H : mH} {S : mS} {I : mI} {R : mR} {x y i : Int32} {a b k ci N t : Nat}
theorem rb_some {v : Option mV} {h : mH} : rb Ls xs d mi pc L st (some (v, h)) = rn Ls xs d mi pc L (v.toList ++ st) h := rfl
theorem rb_none : rb Ls xs d mi pc L st none = none := rfl
theorem rb_i {h : mH} : rb Ls xs d mi pc L st (some (some (.inl x), h)) = rn Ls xs d mi pc L (.inl x :: st) h := rfl
theorem rb_r {v : mr} {h : mH} : rb Ls xs d mi pc L st (some (some (.inr v), h)) = rn Ls xs d mi pc L (.inr v :: st) h := rfl
theorem rb_v {h : mH} : rb Ls xs d mi pc L st (some (none, h)) = rn Ls xs d mi pc L st h := rfl
theorem rn_nx {f : mA} {L' : mL} {st' : List mV} {H' : mH} (h : PT Ls xs mi pc = f) (e : f d L st H = some (.inr (.inl (pc', L', st', H')))) : rn Ls xs d mi pc L st H = rn Ls xs d mi pc' L' st' H' := by
  unfold rn
  rw [m_step, h, e]
theorem rn_no {f : mA} (h : PT Ls xs mi pc = f) (e : f d L st H = none) : rn Ls xs d mi pc L st H = none := by
  unfold rn
  rw [m_step, h, e]
theorem rn_done {f : mA} {r : mRes} (h : PT Ls xs mi pc = f) (e : f d L st H = some (.inl r)) : rn Ls xs d mi pc L st H = some r := by
  unfold rn
  rw [m_step, h, e]
theorem rn_cl {f : mA} {mi' pc' : Nat} {as : List mV} {L' : mL} {st' : List mV} {H' : mH} (h : PT Ls xs mi pc = f) (e : f (d + 1) L st H = some (.inr (.inr (mi', as, pc', L', st', H')))) : rn Ls xs (d + 1) mi pc L st H = rb Ls xs (d + 1) mi pc' L' st' (rn Ls xs d mi' 0 (m_ent (MT mi').2.2.1 as) [] H') := by
  unfold rn
  rw [m_step, h, e]
  dsimp only
  cases m_run (PT Ls xs) (fun mi => (MT mi).2.2.1) d mi' 0 (m_ent (MT mi').2.2.1 as) [] H' with
  | none => rfl
  | some r => rfl
theorem rn_div {f : Int32 → Int32 → Int32} (h : PT Ls xs mi pc = a_div f pc') : rn Ls xs d mi pc L (.inl y :: .inl x :: st) H = if y = 0 then none else rn Ls xs d mi pc' L (.inl (f x y) :: st) H := by
  by_cases hy : y = 0
  · rw [if_pos hy]; exact rn_no h (by unfold a_div; simp [hy])
  · rw [if_neg hy]; exact rn_nx h (by unfold a_div; simp [hy])
theorem rn_if {p : Int32 → Prop} [DecidablePred p] (h : PT Ls xs mi pc = a_if (fun x => decide (p x)) tg pc') : rn Ls xs d mi pc L (.inl x :: st) H = if p x then rn Ls xs d mi tg L st H else rn Ls xs d mi pc' L st H := by
  by_cases hy : p x
  · rw [if_pos hy]; exact rn_nx h (by unfold a_if; simp [hy])
  · rw [if_neg hy]; exact rn_nx h (by unfold a_if; simp [hy])
theorem rn_cmp {p : Int32 → Int32 → Prop} [∀ x y, Decidable (p x y)] (h : PT Ls xs mi pc = a_cmp (fun x y => decide (p x y)) tg pc') : rn Ls xs d mi pc L (.inl y :: .inl x :: st) H = if p x y then rn Ls xs d mi tg L st H else rn Ls xs d mi pc' L st H := by
  by_cases hy : p x y
  · rw [if_pos hy]; exact rn_nx h (by unfold a_cmp; simp [hy])
  · rw [if_neg hy]; exact rn_nx h (by unfold a_cmp; simp [hy])
theorem rn_bc {f : mA} {c : Bool} {L' : mL} {st' : List mV} {H' : mH} (h : PT Ls xs mi pc = f) (e : f d L st H = if c then some (.inr (.inl (pc', L', st', H'))) else none) : rn Ls xs d mi pc L st H = if c then rn Ls xs d mi pc' L' st' H' else none := by
  cases c
  · exact rn_no h e
  · exact rn_nx h e
theorem rn_pc {f : mA} {c : Prop} [Decidable c] {L' : mL} {st' : List mV} {H' : mH} (h : PT Ls xs mi pc = f) (e : f d L st H = if c then some (.inr (.inl (pc', L', st', H'))) else none) : rn Ls xs d mi pc L st H = if c then rn Ls xs d mi pc' L' st' H' else none := by
  by_cases hc : c
  · rw [if_pos hc] at e ⊢; exact rn_nx h e
  · rw [if_neg hc] at e ⊢; exact rn_no h e
theorem rn_aald (h : PT Ls xs mi pc = a_aald t pc') : rn Ls xs d mi pc L (.inl i :: .inr (.inl (some a)) :: st) (S, I, R) = if h_ia S a t i then (match R a i.toNatClampNeg with
    | .inl o => rn Ls xs d mi pc' L (.inr (.inl o) :: st) (S, I, R)
    | .inr _ => none) else none := by
  by_cases hy : h_ia S a t i = true
  · rw [if_pos hy]
    cases hr : R a i.toNatClampNeg with
    | inl o => exact rn_nx h (by unfold a_aald; simp [hy, hr])
    | inr o => exact rn_no h (by unfold a_aald; simp [hy, hr])
  · rw [if_neg hy]; exact rn_no h (by unfold a_aald; simp [hy])
theorem rn_zret (h : PT Ls xs mi pc = a_zret) : rn Ls xs d mi pc L [.inl x] H = if h_bo x then some (some (.inl x), H) else none := by
  cases hb : h_bo x
  · exact rn_no h (by unfold a_zret; simp [hb])
  · exact rn_done h (by unfold a_zret; simp [hb])
theorem rn_cret (h : PT Ls xs mi pc = a_cret) : rn Ls xs d mi pc L [.inl x] H = if 0 ≤ x.toInt ∧ x.toInt < 65536 then some (some (.inl x), H) else none := by
  by_cases hb : 0 ≤ x.toInt ∧ x.toInt < 65536
  · rw [if_pos hb]; exact rn_done h (by unfold a_cret; simp [hb])
  · rw [if_neg hb]; exact rn_no h (by unfold a_cret; simp [hb])
theorem rn_callO {mi' n : Nat} {st' : List mV} {L' : mL} (h : PT Ls xs mi pc = a_callO ci N mi' n pc') (e1 : st[n]? = some (.inr (.inl (some a)))) (e2 : st.length ≤ n + 9) (e3 : m_ent (MT mi').2.2.1 (st.take (n + 1)).reverse = L') (e4 : st.drop (n + 1) = st') : rn Ls xs (d + 1) mi pc L st (S, I, R) = if h_is S a ci N then rb Ls xs (d + 1) mi pc' L st' (rn Ls xs d mi' 0 L' [] (S, I, R)) else none := by
  subst e3 e4
  cases hb : h_is S a ci N
  · exact rn_no h (by unfold a_callO; rw [e1]; simp [hb])
  · exact rn_cl h (by unfold a_callO; rw [e1]; simp [hb, e2])
theorem rn_call {mi' n : Nat} {st' : List mV} {L' : mL} (h : PT Ls xs mi pc = a_call mi' n pc') (e1 : n ≤ st.length) (e2 : st.length ≤ n + 8) (e3 : m_ent (MT mi').2.2.1 (st.take n).reverse = L') (e4 : st.drop n = st') : rn Ls xs (d + 1) mi pc L st H = rb Ls xs (d + 1) mi pc' L st' (rn Ls xs d mi' 0 L' [] H) := by
  subst e3 e4
  exact rn_cl h (by unfold a_call; simp [e1, e2])
theorem rn_callT {mi' n : Nat} {st' : List mV} {L' : mL} (h : PT Ls xs mi pc = a_callT mi' n pc') (e1 : st[n]? = some (.inr (.inr k))) (e2 : st.length ≤ n + 9) (e3 : m_ent (MT mi').2.2.1 (st.take (n + 1)).reverse = L') (e4 : st.drop (n + 1) = st') : rn Ls xs (d + 1) mi pc L st H = if 10 ≤ k ∧ k < 17 then rb Ls xs (d + 1) mi pc' L st' (rn Ls xs d mi' 0 L' [] H) else none := by
  subst e3 e4
  by_cases hb : 10 ≤ k ∧ k < 17
  · rw [if_pos hb]; exact rn_cl h (by unfold a_callT; rw [e1]; simp [hb, e2])
  · rw [if_neg hb]; exact rn_no h (by unfold a_callT; rw [e1]; simp [hb])
theorem rn_copy {n dp sp : Int32} (h : PT Ls xs mi pc = a_copy pc') (e : st.length ≤ 8) : rn Ls xs (d + 1) mi pc L (.inl n :: .inl dp :: .inr (.inl (some b)) :: .inl sp :: .inr (.inl (some a)) :: st) (S, I, R) = if h_cp S a b sp dp n then rn Ls xs (d + 1) mi pc' L st (S, va_up I b (va_cpy (I a) (I b) sp.toNatClampNeg dp.toNatClampNeg n.toNatClampNeg), R) else none := by
  cases hb : h_cp S a b sp dp n
  · exact rn_no h (by unfold a_copy; simp [hb])
  · exact rn_nx h (by unfold a_copy; simp [hb, e]; rfl)
/-- switches, as tests -/
theorem t_sw_nil {lo : Int} {df : Nat} : t_sw lo [] df x = df := by
  unfold t_sw
  split <;> rfl
theorem t_sw_cons {lo : Int} {t df : Nat} {tg : List Nat} : t_sw lo (t :: tg) df x = if x.toInt = lo then t else t_sw (lo + 1) tg df x := by
  unfold t_sw
  by_cases h : x.toInt = lo
  · rw [if_pos h, if_pos (by rw [List.length_cons]; omega), h]
    simp
  · rw [if_neg h]
    by_cases h2 : lo + 1 ≤ x.toInt ∧ x.toInt < lo + 1 + (tg.length : Int)
    · rw [if_pos h2, if_pos (by rw [List.length_cons]; omega)]
      have e : (x.toInt - lo).toNat = (x.toInt - (lo + 1)).toNat + 1 := by omega
      rw [e]
      simp
    · rw [if_neg h2, if_neg (by rw [List.length_cons]; omega)]
theorem i_lit {k : Int} {v : Int32} (hv : v.toInt = k) : x.toInt = k ↔ x = v := by
  rw [← hv]
  exact ⟨fun h => Int32.toInt_inj.mp h, fun h => by rw [h]⟩
theorem rn_ite {c : Prop} [Decidable c] {p q : Nat} : rn Ls xs d mi (if c then p else q) L st H = if c then rn Ls xs d mi p L st H else rn Ls xs d mi q L st H := by
  split <;> rfl
theorem rn_tc {lo : Int} {v : Int32} {t df : Nat} {ts : List Nat} {A B : Option mRes} (hv : v.toInt = lo) (h1 : rn Ls xs d mi t L st H = A) (h2 : rn Ls xs d mi (t_sw (lo + 1) ts df x) L st H = B) : rn Ls xs d mi (t_sw lo (t :: ts) df x) L st H = if x = v then A else B := by
  rw [t_sw_cons, rn_ite, h1, h2]
  by_cases h : x = v
  · rw [if_pos h, if_pos ((i_lit hv).mpr h)]
  · rw [if_neg h, if_neg (fun q => h ((i_lit hv).mp q))]
theorem rn_tn {lo : Int} {df : Nat} : rn Ls xs d mi (t_sw lo [] df x) L st H = rn Ls xs d mi df L st H := by rw [t_sw_nil]
theorem rn_lc {lo : Int} {v : Int32} {t df : Nat} {ts : List (Int × Nat)} {A B : Option mRes} (hv : v.toInt = lo) (h1 : rn Ls xs d mi t L st H = A) (h2 : rn Ls xs d mi (l_sw ts df x) L st H = B) : rn Ls xs d mi (l_sw ((lo, t) :: ts) df x) L st H = if x = v then A else B := by
  rw [l_sw, rn_ite, h1, h2]
  by_cases h : x = v
  · rw [if_pos h, if_pos ((i_lit hv).mpr h)]
  · rw [if_neg h, if_neg (fun q => h ((i_lit hv).mp q))]
theorem rn_ln {df : Nat} : rn Ls xs d mi (l_sw [] df x) L st H = rn Ls xs d mi df L st H := rfl
end RNS

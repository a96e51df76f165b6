/-! switches -/
def t_sw (lo : Int) (tg : List Nat) (df : Nat) (x : Int32) : Nat := if lo ≤ x.toInt ∧ x.toInt < lo + (tg.length : Int) then tg.getD (x.toInt - lo).toNat df else df
def l_sw : List (Int × Nat) → Nat → Int32 → Nat
  | [], df, _ => df
  | (k, t) :: r, df, x => if x.toInt = k then t else l_sw r df x
section OKT
variable {B : Nat} {sp : Nat → Value} {D : va_G} {cA : Nat → ClassId} {SP : State → Prop} {M : mM} {y : MethodName} {cc : ByteArray} {nL : Nat} {rt : Option FieldType} {pc : Nat}
theorem ok_tab {dflt lo hi : Int} {offs : Array Int} {len df : Nat} {tg : List Nat} (hd : decode cc pc = .ok (.tableswitch dflt lo hi offs, len)) (h0 : (pc : Int) + dflt = (df : Int)) (h1 : hi = lo + (tg.length : Int) - 1) (h2 : offs.toList.map (fun o => (pc : Int) + o) = tg.map (fun t : Nat => (t : Int))) : r_OK B sp D cA SP M y cc nL rt pc (a_sw (t_sw lo tg df)) := by
  refine ok_table hd (fun x hx => ?_) (fun x g1 g2 => ?_)
  · unfold t_sw
    rw [if_neg (by omega)]
    exact h0
  · have hr : lo ≤ x.toInt ∧ x.toInt < lo + (tg.length : Int) := by omega
    have hlt : (x.toInt - lo).toNat < tg.length := by omega
    have e := congrArg (fun l : List Int => l[(x.toInt - lo).toNat]?) h2
    simp only [List.getElem?_map] at e
    rw [List.getElem?_eq_getElem hlt] at e
    cases ho : offs.toList[(x.toInt - lo).toNat]? with
    | none => rw [ho] at e; cases e
    | some off =>
      rw [ho] at e
      refine ⟨off, by rw [← Array.getElem?_toList]; exact ho, ?_⟩
      unfold t_sw
      rw [if_pos hr]
      simp only [Option.map_some, Option.some.injEq] at e
      rw [e, List.getD_eq_getElem?_getD, List.getElem?_eq_getElem hlt]
      rfl
theorem l_off (pc : Nat) : ∀ (ps : List (Int × Int)) (tg : List (Int × Nat)) (dflt : Int) (df : Nat) (x : Int32), (pc : Int) + dflt = (df : Int) → ps.map (fun q => (q.1, (pc : Int) + q.2)) = tg.map (fun q : Int × Nat => (q.1, (q.2 : Int))) → (pc : Int) + Op.lookupswitch.offset ps dflt x.toInt = (l_sw tg df x : Int)
  | [], [], dflt, df, x, h0, _ => h0
  | [], q :: r, _, _, _, _, h => by simp at h
  | q :: r, [], _, _, _, _, h => by simp at h
  | (a, o) :: r, (k, t) :: r2, dflt, df, x, h0, h => by
    simp only [List.map_cons, List.cons.injEq, Prod.mk.injEq] at h
    obtain ⟨⟨rfl, h1⟩, h2⟩ := h
    rw [Op.lookupswitch.offset_cons]
    unfold l_sw
    by_cases hk : x.toInt = a
    · rw [if_pos hk]
      first | rw [if_pos hk] | rw [if_pos hk.symm] | simp [hk]
      exact h1
    · rw [if_neg hk]
      first | rw [if_neg hk] | rw [if_neg (Ne.symm hk)] | simp [hk]
      exact l_off pc r r2 dflt df x h0 h2
theorem ok_lku {dflt : Int} {ps : Array (Int × Int)} {len df : Nat} {tg : List (Int × Nat)} (hd : decode cc pc = .ok (.lookupswitch dflt ps, len)) (hs : (ps.toList.zip (ps.toList.drop 1)).all (fun (a, next) => a.1 < next.1) = true) (h0 : (pc : Int) + dflt = (df : Int)) (h1 : ps.toList.map (fun q => (q.1, (pc : Int) + q.2)) = tg.map (fun q : Int × Nat => (q.1, (q.2 : Int)))) : r_OK B sp D cA SP M y cc nL rt pc (a_sw (l_sw tg df)) :=
  ok_look hd hs (fun x => l_off pc _ _ _ _ _ h0 h1)
end OKT

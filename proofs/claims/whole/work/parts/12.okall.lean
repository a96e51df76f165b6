/-! a list of actions is sound -/
def okall (B : Nat) (sp : Nat → Value) (D : va_G) (cA : Nat → ClassId) (SP : State → Prop) (M : mM) (y : MethodName) (cc : ByteArray) (nL : Nat) (rt : Option FieldType) : List (Nat × mA) → Prop
  | [] => True
  | q :: r => r_OK B sp D cA SP M y cc nL rt q.1 q.2 ∧ okall B sp D cA SP M y cc nL rt r
def a_find : List (Nat × mA) → Nat → mA
  | [], _ => a_fail
  | q :: r, pc => if q.1 = pc then q.2 else a_find r pc
section OKL
variable {B : Nat} {sp : Nat → Value} {D : va_G} {cA : Nat → ClassId} {SP : State → Prop} {M : mM} {y : MethodName} {cc : ByteArray} {nL : Nat} {rt : Option FieldType}
theorem ok_fail {pc : Nat} : r_OK B sp D cA SP M y cc nL rt pc a_fail := by
  intro d L st h out e
  cases e
theorem okn : okall B sp D cA SP M y cc nL rt [] := trivial
theorem okc {pc : Nat} {f : mA} {r : List (Nat × mA)} (h : r_OK B sp D cA SP M y cc nL rt pc f) (t : okall B sp D cA SP M y cc nL rt r) : okall B sp D cA SP M y cc nL rt ((pc, f) :: r) := ⟨h, t⟩
theorem oka : ∀ {l r : List (Nat × mA)}, okall B sp D cA SP M y cc nL rt l → okall B sp D cA SP M y cc nL rt r → okall B sp D cA SP M y cc nL rt (l ++ r)
  | [], _, _, h => h
  | _ :: _, _, h1, h2 => ⟨h1.1, oka h1.2 h2⟩
theorem okf : ∀ {l : List (Nat × mA)} (pc : Nat), okall B sp D cA SP M y cc nL rt l → r_OK B sp D cA SP M y cc nL rt pc (a_find l pc)
  | [], _, _ => ok_fail
  | q :: r, pc, h => by
    unfold a_find
    split
    · rename_i e
      rw [← e]
      exact h.1
    · exact okf pc h.2
end OKL

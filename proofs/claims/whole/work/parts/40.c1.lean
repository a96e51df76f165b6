/-! THE CLASS: a sky of the class against a row; small methods -/
def isQ (q : Nat) : Prop := q = 1 ∨ q = 19 ∨ q = 38
theorem tb_w1 : ∀ w, w < 14 → tb (1 + 4 + w) = (7, 6) := by decide
theorem tb_w2 : ∀ w, w < 14 → tb (19 + 4 + w) = (7, 6) := by decide
theorem tb_w3 : ∀ w, w < 14 → tb (38 + 4 + w) = (7, 6) := by decide
theorem rt_w1 : ∀ w, w < 14 → ((1 + 1, w), 1 + 4 + w) ∈ rt_ := by decide
theorem rt_w2 : ∀ w, w < 14 → ((19 + 1, w), 19 + 4 + w) ∈ rt_ := by decide
theorem rt_w3 : ∀ w, w < 14 → ((38 + 1, w), 38 + 4 + w) ∈ rt_ := by decide
section CT1
variable {S : mS} {R : mR} {q w : Nat}
theorem q_is (h : WF S R) (hq : isQ q) : h_is S q 3 11 = true := by rcases hq with rfl | rfl | rfl; exact is_1 h; exact is_19 h; exact is_38 h
theorem q_r0 (h : WF S R) (hq : isQ q) : R q 0 = .inl (some (q + 1)) := by rcases hq with rfl | rfl | rfl; exact rf_1_0 h; exact rf_19_0 h; exact rf_38_0 h
theorem q_r1 (h : WF S R) (hq : isQ q) : R q 1 = .inl (some (q + 2)) := by rcases hq with rfl | rfl | rfl; exact rf_1_1 h; exact rf_19_1 h; exact rf_38_1 h
theorem q_r2 (h : WF S R) (hq : isQ q) : R q 2 = .inl (some (q + 3)) := by rcases hq with rfl | rfl | rfl; exact rf_1_2 h; exact rf_19_2 h; exact rf_38_2 h
theorem q_ia1 (h : WF S R) (hq : isQ q) (hw : w < 14) : h_ia S (q + 1) 4 (nI w) = true := by rcases hq with rfl | rfl | rfl; exact ia_2 h hw; exact ia_20 h hw; exact ia_39 h hw
theorem q_ia2 (h : WF S R) (hq : isQ q) (hw : w < 14) : h_ia S (q + 2) 5 (nI w) = true := by rcases hq with rfl | rfl | rfl; exact ia_3 h hw; exact ia_21 h hw; exact ia_40 h hw
theorem q_ia3 (h : WF S R) (hq : isQ q) (hw : w < 96) : h_ia S (q + 3) 0 (nI w) = true := by rcases hq with rfl | rfl | rfl; exact ia_4 h hw; exact ia_22 h hw; exact ia_41 h hw
theorem q_is3 (h : WF S R) (hq : isQ q) : h_is S (q + 3) 100 96 = true := by rcases hq with rfl | rfl | rfl; exact is_4 h; exact is_22 h; exact is_41 h
theorem q_w (h : WF S R) (hq : isQ q) (hw : w < 14) : R (q + 1) w = .inl (some (q + 4 + w)) := by
  rcases hq with rfl | rfl | rfl
  · exact h.2.2 _ (rt_w1 w hw)
  · exact h.2.2 _ (rt_w2 w hw)
  · exact h.2.2 _ (rt_w3 w hw)
theorem q_wi (h : WF S R) (hq : isQ q) (hw : w < 14) : h_is S (q + 4 + w) 7 6 = true := by
  rcases hq with rfl | rfl | rfl
  · exact wf_is h (by omega) (tb_w1 w hw)
  · exact wf_is h (by omega) (tb_w2 w hw)
  · exact wf_is h (by omega) (tb_w3 w hw)
theorem isQ.le (hq : isQ q) : 1 ≤ q ∧ q ≤ 38 := by rcases hq with rfl | rfl | rfl <;> omega
end CT1
/-- the class's signs for the reference's -/
def cvS (c : Int32) : Int32 := if c = -10 then -33 else if c = -8 then -42 else if c = -7 then -45 else if c = -6 then -43 else if c = -5 then -62 else if c = -4 then -61 else if c = -3 then -60 else if c = -2 then -38 else if c = -1 then -124 else if c < 0 then -47 else if c < 10000 then c else 9999 - c
/-- a text of the class -/
def TxR (S : mS) (I : mI) (R : mR) (o : mr) (a : Nat → Int32) (t : Nat) : Prop := ∃ p r m, o = .inl (some p) ∧ 118 ≤ p ∧ (118 ≤ r ∧ m ≤ 96) ∧ h_is S p 6 3 = true ∧ I p 0 = a (92 + 2 * t) / 1000 ∧ I p 1 = a (92 + 2 * t + 1) ∧ R p 2 = .inl (some r) ∧ h_is S r 100 m = true ∧ rem (a (92 + 2 * t)) 1000 = nI m ∧ ∀ j, j < m → I r j = cvS (a (120 + 96 * t + j))
def SkR (S : mS) (I : mI) (R : mR) (q : Nat) (a : Nat → Int32) : Prop :=
  (I q 3 = a 1 ∧ I q 4 = a 7 ∧ I q 5 = a 3 ∧ I q 6 = a 4 ∧ I q 7 = a 5 ∧ I q 8 = a 6 ∧ I q 9 = a 2 ∧ I q 10 = a 0) ∧ (∀ w k, w < cW (a 1) → k < 6 → I (q + 4 + w) k = a (8 + 6 * w + k)) ∧ ∀ t, t < cW (a 7) → TxR S I R (R (q + 2) t) a t
/-- only the sky's own cells have changed -/
def Fq (q : Nat) (I I2 : mI) : Prop := ∀ b, b < q ∨ q + 18 ≤ b → I2 b = I b
theorem Fq.rfl' {q : Nat} {I : mI} : Fq q I I := fun _ _ => rfl
theorem Fq.trans' {q : Nat} {I I2 I3 : mI} (h : Fq q I I2) (h2 : Fq q I2 I3) : Fq q I I3 := fun b hb => (h2 b hb).trans (h b hb)
theorem Fq.up {q b : Nat} {I I2 : mI} {f : Nat → Int32} (h : Fq q I I2) (h1 : q ≤ b) (h2 : b < q + 18) : Fq q I (va_up I2 b f) := fun c hc => by rw [vu_n (by omega)]; exact h c hc
section CT2
variable {S : mS} {I I2 : mI} {R : mR} {q : Nat} {a : Nat → Int32} {x : Int32}
theorem SkR.f3 (h : SkR S I R q a) : I q 3 = a 1 := h.1.1
theorem SkR.f4 (h : SkR S I R q a) : I q 4 = a 7 := h.1.2.1
theorem SkR.f5 (h : SkR S I R q a) : I q 5 = a 3 := h.1.2.2.1
theorem SkR.f6 (h : SkR S I R q a) : I q 6 = a 4 := h.1.2.2.2.1
theorem SkR.f7 (h : SkR S I R q a) : I q 7 = a 5 := h.1.2.2.2.2.1
theorem SkR.f8 (h : SkR S I R q a) : I q 8 = a 6 := h.1.2.2.2.2.2.1
theorem SkR.f9 (h : SkR S I R q a) : I q 9 = a 2 := h.1.2.2.2.2.2.2.1
theorem SkR.f10 (h : SkR S I R q a) : I q 10 = a 0 := h.1.2.2.2.2.2.2.2
theorem SkR.w (h : SkR S I R q a) {n w k : Nat} (e : a 1 = nI n) (hn : n ≤ 14) (hw : w < n) (hk : k < 6) : I (q + 4 + w) k = a (8 + 6 * w + k) := h.2.1 w k (by rw [e, cW, nI_clamp (by omega)]; exact hw) hk
theorem TxR.same {o : mr} {a b : Nat → Int32} {t : Nat} (h : TxR S I R o a t) (hI : ∀ c, 118 ≤ c → I2 c = I c) (ha : ∀ i, 92 ≤ i → b i = a i) : TxR S I2 R o b t := by
  obtain ⟨p, r, m, h1, h2, h3, h4, h5, h6, h7, h8, h9, h10⟩ := h
  refine ⟨p, r, m, h1, h2, h3, h4, by rw [hI p h2, ha _ (by omega)]; exact h5, by rw [hI p h2, ha _ (by omega)]; exact h6, h7, h8, by rw [ha _ (by omega)]; exact h9, fun j hj => by rw [hI r h3.1, ha _ (by omega)]; exact h10 j hj⟩
/-- other cells change -/
theorem SkR.fr (h : SkR S I R q a) (h1 : I2 q = I q) (h2 : ∀ w, w < 14 → I2 (q + 4 + w) = I (q + 4 + w)) (h3 : ∀ c, 118 ≤ c → I2 c = I c) (hn : cW (a 1) ≤ 14) : SkR S I2 R q a := by
  refine ⟨by rw [h1]; exact h.1, fun w k hw hk => by rw [h2 w (by omega)]; exact h.2.1 w k hw hk, fun t ht => (h.2.2 t ht).same h3 (fun _ _ => rfl)⟩
/-- the stack changes -/
theorem SkR.st (h : SkR S I R q a) (hq : isQ q) (f : Nat → Int32) (hn : cW (a 1) ≤ 14) : SkR S (va_up I (q + 3) f) R q a := by
  have := hq.le
  exact h.fr (vu_n (by omega)) (fun w hw => vu_n (by omega)) (fun c hc => vu_n (by omega)) hn
/-- a field of a wreck is written -/
theorem SkR.setW (h : SkR S I R q a) (hq : isQ q) {w k : Nat} (hw : w < 14) (hk : k < 6) : SkR S (va_up I (q + 4 + w) (upd (I (q + 4 + w)) k x)) R q (upd a (8 + 6 * w + k) x) := by
  have := hq.le
  have e1 : upd a (8 + 6 * w + k) x 1 = a 1 := up_n (by omega)
  have e7 : upd a (8 + 6 * w + k) x 7 = a 7 := up_n (by omega)
  refine ⟨?_, ?_, ?_⟩
  · rw [vu_n (by omega), up_n (by omega), up_n (by omega), up_n (by omega), up_n (by omega), up_n (by omega), up_n (by omega), up_n (by omega), up_n (by omega)]
    exact h.1
  · rw [e1]
    intro w' k' hw' hk'
    have h0 := h.2.1 w' k' hw' hk'
    by_cases e : w' = w
    · subst e
      rw [vu_s]
      by_cases ek : k' = k
      · subst ek; rw [up_s, up_s]
      · rw [up_n ek, up_n (by omega)]; exact h0
    · rw [vu_n (by omega), up_n (by omega)]; exact h0
  · rw [e7]
    exact fun t ht => (h.2.2 t ht).same (fun c hc => vu_n (by omega)) (fun i hi => up_n (by omega))
theorem SkR.set5 (h : SkR S I R q a) (hq : isQ q) : SkR S (va_up I q (upd (I q) 5 x)) R q (upd a 3 x) := by
  have := hq.le
  obtain ⟨⟨h3, h4, h5, h6, h7, h8, h9, h10⟩, hw, ht⟩ := h
  refine ⟨by rw [vu_s]; exact ⟨h3, h4, rfl, h6, h7, h8, h9, h10⟩, fun w k g1 g2 => ?_, fun t g1 => ?_⟩
  · rw [vu_n (by omega), up_n (by omega)]; exact hw w k g1 g2
  · exact (ht t g1).same (fun c hc => vu_n (by omega)) (fun i hi => up_n (by omega))
theorem SkR.set6 (h : SkR S I R q a) (hq : isQ q) : SkR S (va_up I q (upd (I q) 6 x)) R q (upd a 4 x) := by
  have := hq.le
  obtain ⟨⟨h3, h4, h5, h6, h7, h8, h9, h10⟩, hw, ht⟩ := h
  refine ⟨by rw [vu_s]; exact ⟨h3, h4, h5, rfl, h7, h8, h9, h10⟩, fun w k g1 g2 => ?_, fun t g1 => ?_⟩
  · rw [vu_n (by omega), up_n (by omega)]; exact hw w k g1 g2
  · exact (ht t g1).same (fun c hc => vu_n (by omega)) (fun i hi => up_n (by omega))
theorem SkR.set7 (h : SkR S I R q a) (hq : isQ q) : SkR S (va_up I q (upd (I q) 7 x)) R q (upd a 5 x) := by
  have := hq.le
  obtain ⟨⟨h3, h4, h5, h6, h7, h8, h9, h10⟩, hw, ht⟩ := h
  refine ⟨by rw [vu_s]; exact ⟨h3, h4, h5, h6, rfl, h8, h9, h10⟩, fun w k g1 g2 => ?_, fun t g1 => ?_⟩
  · rw [vu_n (by omega), up_n (by omega)]; exact hw w k g1 g2
  · exact (ht t g1).same (fun c hc => vu_n (by omega)) (fun i hi => up_n (by omega))
theorem SkR.set8 (h : SkR S I R q a) (hq : isQ q) : SkR S (va_up I q (upd (I q) 8 x)) R q (upd a 6 x) := by
  have := hq.le
  obtain ⟨⟨h3, h4, h5, h6, h7, h8, h9, h10⟩, hw, ht⟩ := h
  refine ⟨by rw [vu_s]; exact ⟨h3, h4, h5, h6, h7, rfl, h9, h10⟩, fun w k g1 g2 => ?_, fun t g1 => ?_⟩
  · rw [vu_n (by omega), up_n (by omega)]; exact hw w k g1 g2
  · exact (ht t g1).same (fun c hc => vu_n (by omega)) (fun i hi => up_n (by omega))
theorem SkR.set9 (h : SkR S I R q a) (hq : isQ q) : SkR S (va_up I q (upd (I q) 9 x)) R q (upd a 2 x) := by
  have := hq.le
  obtain ⟨⟨h3, h4, h5, h6, h7, h8, h9, h10⟩, hw, ht⟩ := h
  refine ⟨by rw [vu_s]; exact ⟨h3, h4, h5, h6, h7, h8, rfl, h10⟩, fun w k g1 g2 => ?_, fun t g1 => ?_⟩
  · rw [vu_n (by omega), up_n (by omega)]; exact hw w k g1 g2
  · exact (ht t g1).same (fun c hc => vu_n (by omega)) (fun i hi => up_n (by omega))
theorem SkR.set10 (h : SkR S I R q a) (hq : isQ q) : SkR S (va_up I q (upd (I q) 10 x)) R q (upd a 0 x) := by
  have := hq.le
  obtain ⟨⟨h3, h4, h5, h6, h7, h8, h9, h10⟩, hw, ht⟩ := h
  refine ⟨by rw [vu_s]; exact ⟨h3, h4, h5, h6, h7, h8, h9, rfl⟩, fun w k g1 g2 => ?_, fun t g1 => ?_⟩
  · rw [vu_n (by omega), up_n (by omega)]; exact hw w k g1 g2
  · exact (ht t g1).same (fun c hc => vu_n (by omega)) (fun i hi => up_n (by omega))
/-- a wreck comes -/
theorem SkR.add (h : SkR S I R q a) (hq : isQ q) {n : Nat} (e : a 1 = nI n) (hn : n < 14) {k ht p pc m : Int32} : SkR S (va_up (va_up I q (upd (I q) 3 (nI (n + 1)))) (q + 4 + n) (upd (upd (upd (upd (upd (upd (I (q + 4 + n)) 0 k) 1 ht) 2 p) 3 pc) 4 m) 5 1)) R q (comesS a n k ht p pc m) := by
  have := hq.le
  obtain ⟨⟨h3, h4, h5, h6, h7, h8, h9, h10⟩, hw, htx⟩ := h
  have c : ∀ i, i ≠ 1 → (i < 8 + 6 * n ∨ 8 + 6 * n + 5 < i) → comesS a n k ht p pc m i = a i := by
    intro i h1 h2
    unfold comesS
    rw [up_n (by omega), up_n (by omega), up_n (by omega), up_n (by omega), up_n (by omega), up_n (by omega), up_n (by omega)]
  have c1 : comesS a n k ht p pc m 1 = nI (n + 1) := by
    unfold comesS
    rw [up_n (by omega), up_n (by omega), up_n (by omega), up_n (by omega), up_n (by omega), up_n (by omega), up_s]
  refine ⟨?_, fun w j g1 g2 => ?_, fun t g1 => ?_⟩
  · rw [vu_n (by omega), vu_s, c1, c 7 (by omega) (by omega), c 3 (by omega) (by omega), c 4 (by omega) (by omega), c 5 (by omega) (by omega), c 6 (by omega) (by omega), c 2 (by omega) (by omega), c 0 (by omega) (by omega)]
    exact ⟨rfl, h4, h5, h6, h7, h8, h9, h10⟩
  · rw [c1, cW, nI_clamp (by omega)] at g1
    by_cases e2 : w = n
    · subst e2
      rw [vu_s]
      unfold comesS
      rcases (show j = 0 ∨ j = 1 ∨ j = 2 ∨ j = 3 ∨ j = 4 ∨ j = 5 by omega) with rfl | rfl | rfl | rfl | rfl | rfl <;> simp [upd]
    · rw [vu_n (by omega), vu_n (by omega), c _ (by omega) (by omega)]
      exact hw w j (by rw [e, cW, nI_clamp (by omega)]; omega) g2
  · rw [c 7 (by omega) (by omega)] at g1
    exact (htx t g1).same (fun c hc => by rw [vu_n (by omega), vu_n (by omega)]) (fun i hi => c i (by omega) (by omega))
end CT2
section CT3
variable {Ls : Nat} {xs : Nat → Int32} {d : Nat} {S : mS} {I : mI} {R : mR} {x y z : Int32} {H : mH} {p : Nat}
theorem k_W_within : rn Ls xs d 94 0 [some (.inl x), some (.inl y), some (.inl z)] [] H = some (some (.inl (if y ≤ x ∧ x ≤ z then 1 else 0)), H) := by
  simp only [e_W_within_0, e_W_within_1, e_W_within_2, e_W_within_5, e_W_within_6, e_W_within_7, e_W_within_10, e_W_within_11, e_W_within_14, e_W_within_15, bo_0, bo_1, if_true, it_i]
  congr 4
  simp only [i_lt, i_le]
  repeat' split
  all_goals first | rfl | omega
theorem k_W_isKind : rn Ls xs (d + 1) 93 0 [some (.inl y)] [] H = some (some (.inl (if in05 y = true then 1 else 0)), H) := by
  simp only [e_W_isKind_0, e_W_isKind_1, e_W_isKind_2, e_W_isKind_3, e_W_isKind_6, k_W_within, rb_i, bo_if, and_self, and_true, true_and, and_false, false_and, or_true, true_or, or_false, false_or, not_true_eq_false, not_false_eq_true, if_true, if_false, ne_eq, ite_self, reduceCtorEq, i10, Decidable.not_not, Bool.and_self, Bool.and_true, Bool.true_and, in05, decide_eq_true_eq]
theorem k_W_isPlace : rn Ls xs (d + 1) 95 0 [some (.inl x)] [] H = some (some (.inl (if 0 ≤ x ∧ x ≤ 29 then 1 else 0)), H) := by
  simp only [e_W_isPlace_0, e_W_isPlace_1, e_W_isPlace_2, e_W_isPlace_4, e_W_isPlace_7, k_W_within, rb_i, bo_if, and_self, and_true, true_and, and_false, false_and, or_true, true_or, or_false, false_or, not_true_eq_false, not_false_eq_true, if_true, if_false, ne_eq, ite_self, reduceCtorEq, i10, Decidable.not_not, Bool.and_self, Bool.and_true, Bool.true_and]
theorem k_W_isSheet : rn Ls xs (d + 1) 143 0 [some (.inl x)] [] H = some (some (.inl (if isSh x = true then 1 else 0)), H) := by
  simp only [e_W_isSheet_0, e_W_isSheet_1, e_W_isSheet_2, e_W_isSheet_3, e_W_isSheet_6, k_W_within, rb_i, bo_if, and_self, and_true, true_and, and_false, false_and, or_true, true_or, or_false, false_or, not_true_eq_false, not_false_eq_true, if_true, if_false, ne_eq, ite_self, reduceCtorEq, i10, Decidable.not_not, Bool.and_self, Bool.and_true, Bool.true_and, isSh_iff]
theorem k_W_isSlot : rn Ls xs (d + 1) 165 0 [some (.inl x)] [] H = some (some (.inl (if isSl x = true then 1 else 0)), H) := by
  simp only [e_W_isSlot_0, e_W_isSlot_1, e_W_isSlot_2, e_W_isSlot_3, e_W_isSlot_6, k_W_within, rb_i, bo_if, and_self, and_true, true_and, and_false, false_and, or_true, true_or, or_false, false_or, not_true_eq_false, not_false_eq_true, if_true, if_false, ne_eq, ite_self, reduceCtorEq, i10, Decidable.not_not, Bool.and_self, Bool.and_true, Bool.true_and, isSl_iff]
abbrev miS (x y : Int32) : Int32 := if y < x then y else x
abbrev maS (x y : Int32) : Int32 := if x < y then y else x
theorem k_J_min : rn Ls xs d 116 0 [some (.inl x), some (.inl y)] [] H = some (some (.inl (miS x y)), H) := by
  simp only [e_JMath_min_0, e_JMath_min_1, e_JMath_min_2, e_JMath_min_5, e_JMath_min_6, e_JMath_min_9, e_JMath_min_10, it_i, miS]
theorem k_J_max : rn Ls xs d 206 0 [some (.inl x), some (.inl y)] [] H = some (some (.inl (maS x y)), H) := by
  simp only [e_JMath_max_0, e_JMath_max_1, e_JMath_max_2, e_JMath_max_5, e_JMath_max_6, e_JMath_max_9, e_JMath_max_10, it_i, maS]
theorem k_J_abs : rn Ls xs d 209 0 [some (.inl x)] [] H = some (some (.inl (if 0 ≤ x then x else -x)), H) := by
  simp only [e_JMath_abs_0, e_JMath_abs_1, e_JMath_abs_4, e_JMath_abs_5, e_JMath_abs_6, e_JMath_abs_9, e_JMath_abs_10, it_i]
theorem i_eqI {x y : Int32} (h : x.toInt = y.toInt) : x = y := Int32.toInt_inj.mp h
theorem held_eq {lo hi : Int32} (hl : lo ≤ hi) : maS lo (miS x hi) = clS x lo hi := by
  unfold maS miS clS
  rw [i_le] at hl
  simp only [i_lt]
  repeat' split
  all_goals first | rfl | (apply i_eqI; omega)
theorem k_W_held {lo hi : Int32} (hl : lo ≤ hi) : rn Ls xs (d + 1) 163 0 [some (.inl x), some (.inl lo), some (.inl hi)] [] H = some (some (.inl (clS x lo hi)), H) := by
  simp only [e_W_held_0, e_W_held_1, e_W_held_2, e_W_held_3, e_W_held_6, e_W_held_9, k_J_min, k_J_max, rb_i]
  rw [held_eq hl]
theorem xor30 : (0 ≤ x ^^^ 30) = (0 ≤ x) := by
  apply propext
  rw [i_le, i_le, show Int32.toInt 0 = 0 from rfl]
  have e1 : (0 ≤ x.toInt) ↔ x.toBitVec.msb = false := by
    rw [show x.toInt = x.toBitVec.toInt from rfl, BitVec.msb_eq_toInt]
    simp
  have e2 : (0 ≤ (x ^^^ 30).toInt) ↔ (x ^^^ 30).toBitVec.msb = false := by
    rw [show (x ^^^ 30).toInt = (x ^^^ 30).toBitVec.toInt from rfl, BitVec.msb_eq_toInt]
    simp
  rw [e1, e2, Int32.toBitVec_xor, BitVec.msb_xor, show (30 : Int32).toBitVec.msb = false from rfl]
  simp
theorem k_J_floorMod : rn Ls xs d 188 0 [some (.inl x), some (.inl 30), none] [] H = some (some (.inl (rdS x)), H) := by
  have e : (rem x 30).toInt = x.toInt.tmod 30 := rem_toInt x 30
  simp only [e_JMath_floorMod_0, e_JMath_floorMod_1, e_JMath_floorMod_2, e_JMath_floorMod_3, e_JMath_floorMod_4, e_JMath_floorMod_5, e_JMath_floorMod_6, e_JMath_floorMod_7, e_JMath_floorMod_10, e_JMath_floorMod_11, e_JMath_floorMod_14, e_JMath_floorMod_15, e_JMath_floorMod_16, e_JMath_floorMod_17, e_JMath_floorMod_18, e_JMath_floorMod_19, show ¬ (30 : Int32) = 0 by decide, and_self, and_true, true_and, and_false, false_and, or_true, true_or, or_false, false_or, not_true_eq_false, not_false_eq_true, if_true, if_false, ne_eq, ite_self, reduceCtorEq, i10, Decidable.not_not, Bool.and_self, Bool.and_true, Bool.true_and, xor30, it_i, rdS]
  by_cases h1 : 0 ≤ x
  · have h2 : ¬ rem x 30 < 0 := by
      rw [i_lt, e]
      rw [i_le] at h1
      have := Int.tmod_nonneg (a := x.toInt) 30 h1
      show ¬ _ < (0 : Int)
      omega
    simp only [h1, h2, and_self, and_true, true_and, and_false, false_and, or_true, true_or, or_false, false_or, not_true_eq_false, not_false_eq_true, if_true, if_false, ne_eq, ite_self, reduceCtorEq, i10, Decidable.not_not, Bool.and_self, Bool.and_true, Bool.true_and]
  · have h3 : x.toInt < 0 := by
      have := i_nle.mp h1
      rw [i_lt] at this
      exact this
    by_cases h4 : rem x 30 = 0
    · simp only [h1, h4, and_self, and_true, true_and, and_false, false_and, or_true, true_or, or_false, false_or, not_true_eq_false, not_false_eq_true, if_true, if_false, ne_eq, ite_self, reduceCtorEq, i10, Decidable.not_not, Bool.and_self, Bool.and_true, Bool.true_and, show ¬ (0 : Int32) < 0 by decide]
    · have h5 : rem x 30 < 0 := by
        rw [i_lt, e]
        show _ < (0 : Int)
        have h6 := Int.tmod_nonneg (a := -x.toInt) 30 (by omega)
        rw [Int.neg_tmod] at h6
        have h7 : x.toInt.tmod 30 ≠ 0 := fun q => h4 (i_eqI (e.trans q))
        omega
      simp only [h1, h4, h5, and_self, and_true, true_and, and_false, false_and, or_true, true_or, or_false, false_or, not_true_eq_false, not_false_eq_true, if_true, if_false, ne_eq, ite_self, reduceCtorEq, i10, Decidable.not_not, Bool.and_self, Bool.and_true, Bool.true_and]
end CT3

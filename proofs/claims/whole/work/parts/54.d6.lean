/-! THE CLASS AGAINST THE STATE; wrecks -/
def wkA (f : Nat → Int32) : Nat → Int32 := fun j => f (j - 8)
def shR (I A : mI) : Prop := ∀ i, i < 4 → I (65 + 2 * i) 1 = A 109 i ∧ I (65 + 2 * i) 2 = A 110 i ∧ ∀ k, k < 24 → I (66 + 2 * i) k = A 111 (24 * i + k)
def slR (I A : mI) : Prop := ∀ i, i < 5 → I (73 + 4 * i) 3 = A 112 i ∧ (A 112 i = 1 → I (74 + 4 * i) 0 = A 113 i ∧ okF 0 (I (74 + 4 * i) 0) ∧ worthS (wkA (I (74 + 4 * i))) 0 = A 114 i) ∧ (A 112 i = 2 → I (75 + 4 * i) 2 = A 113 i ∧ ∀ k, k < 24 → I (76 + 4 * i) k = A 115 (24 * i + k)) ∧ (A 112 i = 3 → I (73 + 4 * i) 2 = A 113 i)
def tpR (I A : mI) : Prop := I 58 1 = A 93 9 ∧ (∃ n, n ≤ 96 ∧ A 93 9 = nI n) ∧ ∀ k, k < cW (A 93 9) → I 59 k = A 101 k ∧ ∃ v, v < 256 ∧ A 101 k = nI v
def wtR (I A : mI) : Prop := I 0 8 = A 93 35 ∧ (∃ n, n ≤ 60 ∧ A 93 35 = nI n) ∧ ∀ k, k < cW (A 93 35) → I 64 k = A 117 k
def imR (S : mS) (I : mI) (R : mR) (A : mI) : Prop := I 0 9 = A 93 3 ∧ (A 93 3 = 0 ∨ A 93 3 = 1) ∧ (A 93 3 ≠ 0 → SkR S I R 19 (A 95) ∧ gh 9999 (A 95))
def nwR (S : mS) (I : mI) (R : mR) (A : mI) : Prop := SkR S I R 1 (A 94) ∧ gh 9999 (A 94)
/-- the class's heap against the state -/
def CR (S : mS) (I : mI) (R : mR) (A : mI) : Prop := nwR S I R A ∧ imR S I R A ∧ wtR I A ∧ tpR I A ∧ (shR I A ∧ shOK A) ∧ (slR I A ∧ slOK A)
/-- cells that don't matter -/
def Fs (I I2 : mI) (R R2 : mR) : Prop := (∀ b, b ≠ 4 → b ≠ 22 → (b < 37 ∨ 58 ≤ b) → b ≠ 60 → b ≠ 61 → I2 b = I b) ∧ ∀ b, b ≠ 40 → b ≠ 60 → R2 b = R b
def COp (S : mS) (I : mI) (R : mR) (s : Int32 × mI) (X : Option (Option mV × mH)) : Prop := ∃ I2 R2, CR S I2 R2 s.2 ∧ WF S R2 ∧ (∀ b, 93 ≤ b → I2 b = I b) ∧ X = some (some (.inl s.1), (S, I2, R2))
section CRS
variable {S : mS} {I I2 : mI} {R R2 : mR} {A : mI} {x v : Int32} {X : Option (Option mV × mH)}
theorem q1 : isQ 1 := Or.inl rfl
theorem q19 : isQ 19 := Or.inr (Or.inl rfl)
theorem p1 : isP 1 := Or.inl rfl
theorem p19 : isP 19 := Or.inr rfl
theorem CR.s (h : CR S I R A) : SkR S I R 1 (A 94) := h.1.1
theorem CR.gg (h : CR S I R A) : gh 9999 (A 94) := h.1.2
theorem CR.g (h : CR S I R A) : gd (A 94) := h.1.2.1
theorem CR.t (h : CR S I R A) : ∃ t, t ≤ 9999 ∧ A 94 2 = nI t := by
  obtain ⟨-, t, h1, h2, -⟩ := h.1.2
  exact ⟨t, h1, h2⟩
theorem Ff.fs (h : Ff I I2 R R2) : Fs I I2 R R2 := ⟨fun b _ _ h3 _ _ => h.1 b h3, fun b h1 _ => h.2 b h1⟩
theorem Fs.st (f : Nat → Int32) : Fs I (va_up I 4 f) R R := ⟨fun b h1 _ _ _ _ => vu_n h1, fun _ _ _ => rfl⟩
theorem Fs.rfl' : Fs I I R R := ⟨fun _ _ _ _ _ _ => rfl, fun _ _ _ => rfl⟩
theorem SkR.fs {q : Nat} {a : Nat → Int32} (hs : SkR S I R q a) (hq : isP q) (hn : cW (a 1) ≤ 14) (hf : Fs I I2 R R2) : SkR S I2 R2 q a := by
  refine ⟨by rw [hf.1 q (by rcases hq with rfl | rfl <;> omega) (by rcases hq with rfl | rfl <;> omega) (by rcases hq with rfl | rfl <;> omega) (by rcases hq with rfl | rfl <;> omega) (by rcases hq with rfl | rfl <;> omega)]; exact hs.1, fun w k hw hk => ?_, fun t ht => ?_⟩
  · rw [hf.1 (q + 4 + w) (by rcases hq with rfl | rfl <;> omega) (by rcases hq with rfl | rfl <;> omega) (by rcases hq with rfl | rfl <;> omega) (by rcases hq with rfl | rfl <;> omega) (by rcases hq with rfl | rfl <;> omega)]
    exact hs.2.1 w k hw hk
  · rw [hf.2 (q + 2) (by rcases hq with rfl | rfl <;> omega) (by rcases hq with rfl | rfl <;> omega)]
    exact (hs.2.2 t ht).re (fun c hc => hf.1 c (by omega) (by omega) (by omega) (by omega) (by omega)) (fun c hc => hf.2 c (by omega) (by omega))
theorem gh.c {H : Nat} {a : Nat → Int32} (h : gh H a) : cW (a 1) ≤ 14 := by
  obtain ⟨n, hn, -, cn⟩ := h.1.n
  omega
/-- the other parts -/
theorem shR.fr (h : shR I A) (hI : ∀ b, 65 ≤ b → b < 73 → I2 b = I b) : shR I2 A := by
  intro i hi
  rw [hI (65 + 2 * i) (by omega) (by omega), hI (66 + 2 * i) (by omega) (by omega)]
  exact h i hi
theorem slR.fr (h : slR I A) (hI : ∀ b, 73 ≤ b → b < 93 → I2 b = I b) : slR I2 A := by
  intro i hi
  rw [hI (73 + 4 * i) (by omega) (by omega), hI (74 + 4 * i) (by omega) (by omega), hI (75 + 4 * i) (by omega) (by omega), hI (76 + 4 * i) (by omega) (by omega)]
  exact h i hi
theorem tpR.fr (h : tpR I A) (h1 : I2 58 = I 58) (h2 : I2 59 = I 59) : tpR I2 A := by
  unfold tpR
  rw [h1, h2]
  exact h
theorem wtR.fr (h : wtR I A) (h1 : I2 0 = I 0) (h2 : I2 64 = I 64) : wtR I2 A := by
  unfold wtR
  rw [h1, h2]
  exact h
theorem CR.fs (h : CR S I R A) (hf : Fs I I2 R R2) : CR S I2 R2 A := by
  obtain ⟨⟨h1, h2⟩, ⟨h3, h4, h5⟩, h6, h7, ⟨h8, h9⟩, h10, h11⟩ := h
  have e0 : I2 0 = I 0 := hf.1 0 (by decide) (by decide) (by decide) (by decide) (by decide)
  refine ⟨⟨h1.fs p1 h2.c hf, h2⟩, ⟨by rw [e0]; exact h3, h4, fun q => ⟨(h5 q).1.fs p19 (h5 q).2.c hf, (h5 q).2⟩⟩, h6.fr e0 (hf.1 64 (by decide) (by decide) (by decide) (by decide) (by decide)), h7.fr (hf.1 58 (by decide) (by decide) (by decide) (by decide) (by decide)) (hf.1 59 (by decide) (by decide) (by decide) (by decide) (by decide)), ⟨h8.fr (fun b b1 b2 => hf.1 b (by omega) (by omega) (by omega) (by omega) (by omega)), h9⟩, h10.fr (fun b b1 b2 => hf.1 b (by omega) (by omega) (by omega) (by omega) (by omega)), h11⟩
/-- the sky that is now changes -/
theorem CR.now (h : CR S I R A) {b : Nat → Int32} (hs : SkR S I2 R2 1 b) (hg : gh 9999 b) (hf : Fq 1 I I2) (hR : ∀ c, c ≠ 3 → R2 c = R c) : CR S I2 R2 (va_up A 94 b) := by
  obtain ⟨⟨h1, h2⟩, ⟨h3, h4, h5⟩, h6, h7, ⟨h8, h9⟩, h10, h11⟩ := h
  have e0 : I2 0 = I 0 := hf 0 (by omega)
  have n94 : ∀ c, c ≠ 94 → va_up A 94 b c = A c := fun c hc => vu_n hc
  refine ⟨⟨by rw [vu_s]; exact hs, by rw [vu_s]; exact hg⟩, ?_, ?_, ?_, ⟨?_, ?_⟩, ?_, ?_⟩
  · unfold imR
    rw [e0, n94 93 (by decide), n94 95 (by decide)]
    exact ⟨h3, h4, fun q => ⟨(h5 q).1.ot q1 q19 (by decide) (h5 q).2.c hf hR, (h5 q).2⟩⟩
  · unfold wtR
    rw [e0, hf 64 (by omega), n94 93 (by decide), n94 117 (by decide)]
    exact h6
  · unfold tpR
    rw [hf 58 (by omega), hf 59 (by omega), n94 93 (by decide), n94 101 (by decide)]
    exact h7
  · unfold shR
    rw [n94 109 (by decide), n94 110 (by decide), n94 111 (by decide)]
    exact h8.fr (fun b b1 b2 => hf b (by omega))
  · unfold shOK
    rw [n94 109 (by decide), n94 110 (by decide)]
    exact h9
  · unfold slR
    rw [n94 112 (by decide), n94 113 (by decide), n94 114 (by decide), n94 115 (by decide)]
    exact h10.fr (fun b b1 b2 => hf b (by omega))
  · unfold slOK
    rw [n94 112 (by decide), n94 113 (by decide)]
    exact h11
theorem COp.same (h : WF S R) (hc : CR S I R A) (e : X = some (some (.inl v), (S, I, R))) : COp S I R (v, A) X := ⟨I, R, hc, h, fun _ _ => rfl, e⟩
theorem WF.fs (h : WF S R) (hf : Fs I I2 R R2) (h60 : R2 60 0 = R 60 0 ∧ R2 60 1 = R 60 1) : WF S R2 := by
  refine ⟨h.1, h.2.1, fun e he => ?_⟩
  have n40 := (rt_no e he).2.2
  by_cases q : e.1.1 = 60
  · have : ∀ e ∈ rt_, e.1.1 = 60 → e.1.2 = 0 ∨ e.1.2 = 1 := by decide
    have e1 := h.2.2 e he
    rw [q] at e1 ⊢
    rcases this e he q with z | z
    · rw [z] at e1 ⊢; rw [h60.1]; exact e1
    · rw [z] at e1 ⊢; rw [h60.2]; exact e1
  · rw [hf.2 _ n40 q]
    exact h.2.2 e he
theorem COp.ff (h : WF S R) (hc : CR S I R A) (hf : Ff I I2 R R2) (e : X = some (some (.inl v), (S, I2, R2))) : COp S I R (v, A) X :=
  ⟨I2, R2, hc.fs hf.fs, h.ff hf, fun b hb => hf.1 b (by omega), e⟩
theorem COp.st (h : WF S R) (hc : CR S I R A) {f : Nat → Int32} (e : X = some (some (.inl v), (S, va_up I 4 f, R))) : COp S I R (v, A) X :=
  ⟨_, R, hc.fs (Fs.st f), h, fun b hb => vu_n (by omega), e⟩
theorem COp.now (h : WF S R) (hc : CR S I R A) {b : Nat → Int32} (hs : SkR S I2 R 1 b) (hg : gh 9999 b) (hf : Fq 1 I I2) (e : X = some (some (.inl v), (S, I2, R))) : COp S I R (v, va_up A 94 b) X :=
  ⟨I2, R, hc.now hs hg hf (fun _ _ => rfl), h, fun c hc => hf c (by omega), e⟩
theorem wr_get {n : Nat} (hn : n ≤ 14) (e : A 94 1 = nI n) (h : isWr A x) : ∃ w, w < n ∧ x = nI w := by
  obtain ⟨w, hw, rfl⟩ := nn (i_nlt.mpr h.1)
  have h : 0 ≤ nI w ∧ nI w ≤ A 94 1 - 1 := h
  rw [e, in_iff hw (by omega)] at h
  exact ⟨w, h, rfl⟩
theorem gh_upd {H : Nat} {a : Nat → Int32} (h : gh H a) {k : Nat} (h1 : k ≠ 1) (h7 : k ≠ 7) (h2 : k ≠ 2) (h4 : k ≠ 4) (h8 : k < 8) : gh H (upd a k x) := by
  obtain ⟨g, t, ht, e2, b, hb, e4⟩ := h
  exact ⟨gd_upd g h1 h7 h8, t, ht, by rw [up_n (Ne.symm h2)]; exact e2, b, hb, by rw [up_n (Ne.symm h4)]; exact e4⟩
theorem gh_fld {H : Nat} {a : Nat → Int32} (h : gh H a) {w k : Nat} (hw : w < cW (a 1)) (hk : k < 6) (hx : okF k x) : gh H (upd a (8 + 6 * w + k) x) := by
  obtain ⟨g, t, ht, e2, b, hb, e4⟩ := h
  exact ⟨gd_fld g hw hk hx, t, ht, by rw [up_n (by omega)]; exact e2, b, hb, by rw [up_n (by omega)]; exact e4⟩
theorem gh_comes {H : Nat} {a : Nat → Int32} (h : gh H a) {n : Nat} (e : a 1 = nI n) (hn : n < 14) {k ht p pc m : Int32} (h0 : okF 0 k) (h1 : okF 1 ht) (h2 : okF 2 p) (h3 : okF 3 pc) (h4 : okF 4 m) : gh H (comesS a n k ht p pc m) := by
  obtain ⟨g, t, ht, e2, b, hb, e4⟩ := h
  exact ⟨gd_comes g e hn h0 h1 h2 h3 h4, t, ht, by rw [comesS_o (by decide) (by omega)]; exact e2, b, hb, by rw [comesS_o (by decide) (by omega)]; exact e4⟩
end CRS
section CRT
variable {Ls : Nat} {xs : Nat → Int32} {d : Nat} {S : mS} {I I2 I3 A : mI} {R R2 R3 : mR} {x y z u v : Int32}
theorem t1 : ¬ (1 : Int32) = 0 := by decide
theorem cw_wreck (h : WF S R) (hc : CR S I R A) : COp S I R (sp_wreck A x y z u v) (rn Ls xs (d + 9) 3 0 [some (.inr (.inl (some 0))), some (.inl x), some (.inl y), some (.inl z), some (.inl u), some (.inl v)] [] (S, I, R)) := by
  obtain ⟨n, hn, e1, cn⟩ := hc.g.n
  unfold sp_wreck
  by_cases h1 : in05 x = true
  · have h1' : 0 ≤ x ∧ x ≤ 5 := by simpa [in05] using h1
    by_cases h2 : 0 ≤ y ∧ y ≤ 7
    · by_cases h3 : 0 ≤ z ∧ z ≤ 29
      · by_cases h4 : (-9) ≤ u ∧ u ≤ 9
        · by_cases h5 : 1 ≤ v ∧ v ≤ 99
          · rw [if_pos ⟨h1', h2, h3, h4, h5⟩]
            by_cases h14 : n = 14
            · have r := k_S_addWreck_f (Ls := Ls) (xs := xs) (d := d + 8) (k := x) (ht := y) (pl := z) (pc := u) (m := v) h q1 hc.s (by rw [e1, h14])
              rw [if_pos (by rw [e1, h14]; rfl)]
              exact COp.same h hc (by simp only [e_W_wreck_0, e_W_wreck_1, e_W_wreck_4, e_W_wreck_7, e_W_wreck_8, e_W_wreck_9, e_W_wreck_11, e_W_wreck_14, e_W_wreck_17, e_W_wreck_18, e_W_wreck_21, e_W_wreck_24, e_W_wreck_26, e_W_wreck_27, e_W_wreck_29, e_W_wreck_31, e_W_wreck_33, e_W_wreck_36, e_W_wreck_39, e_W_wreck_41, e_W_wreck_42, e_W_wreck_44, e_W_wreck_47, e_W_wreck_50, e_W_wreck_52, e_W_wreck_53, e_W_wreck_54, e_W_wreck_57, e_W_wreck_58, e_W_wreck_59, e_W_wreck_60, e_W_wreck_62, e_W_wreck_64, e_W_wreck_67, e_W_wreck_70, e_W_wreck_71, e_W_wreck_74, e_W_wreck_77, e_W_wreck_78, e_W_wreck_79, e_W_wreck_82, e_W_wreck_84, k_W_isKind, k_W_within, k_W_isPlace, rb_i, h1, h2, h3, h4, h5, and_self, and_true, true_and, and_false, false_and, or_true, true_or, or_false, false_or, not_true_eq_false, not_false_eq_true, if_true, if_false, ne_eq, ite_self, reduceCtorEq, i10, Decidable.not_not, Bool.and_self, Bool.and_true, Bool.true_and, t1, is_0 h, rf_0_0 h, is_1 h, r])
            · obtain ⟨I2, s2, f2, r⟩ := k_S_addWreck (Ls := Ls) (xs := xs) (d := d + 8) (k := x) (ht := y) (pl := z) (pc := u) (m := v) h q1 hc.s e1 (by omega)
              have e14 : ¬ A 94 1 = 14 := by rw [e1, show (14 : Int32) = nI 14 from rfl, nI_eq' (by omega) (by decide)]; exact h14
              have e1' : (A 94 1).toNatClampNeg = n := cn
              rw [if_neg e14, e1', e1]
              refine COp.now h hc s2 (gh_comes hc.gg e1 (by omega) h1' h2 h3 h4 h5) f2 ?_
              have en : nI (n + 1) - 1 = nI n := nI_pred n
              simp only [e_W_wreck_0, e_W_wreck_1, e_W_wreck_4, e_W_wreck_7, e_W_wreck_8, e_W_wreck_9, e_W_wreck_11, e_W_wreck_14, e_W_wreck_17, e_W_wreck_18, e_W_wreck_21, e_W_wreck_24, e_W_wreck_26, e_W_wreck_27, e_W_wreck_29, e_W_wreck_31, e_W_wreck_33, e_W_wreck_36, e_W_wreck_39, e_W_wreck_41, e_W_wreck_42, e_W_wreck_44, e_W_wreck_47, e_W_wreck_50, e_W_wreck_52, e_W_wreck_53, e_W_wreck_54, e_W_wreck_57, e_W_wreck_58, e_W_wreck_59, e_W_wreck_60, e_W_wreck_62, e_W_wreck_64, e_W_wreck_67, e_W_wreck_70, e_W_wreck_71, e_W_wreck_74, e_W_wreck_77, e_W_wreck_78, e_W_wreck_79, e_W_wreck_82, e_W_wreck_84, k_W_isKind, k_W_within, k_W_isPlace, rb_i, h1, h2, h3, h4, h5, and_self, and_true, true_and, and_false, false_and, or_true, true_or, or_false, false_or, not_true_eq_false, not_false_eq_true, if_true, if_false, ne_eq, ite_self, reduceCtorEq, i10, Decidable.not_not, Bool.and_self, Bool.and_true, Bool.true_and, t1, is_0 h, rf_0_0 h, is_1 h, r, s2.f3, comesS_1, en]
          · rw [if_neg (fun q => h5 q.2.2.2.2)]
            exact COp.same h hc (by simp only [e_W_wreck_0, e_W_wreck_1, e_W_wreck_4, e_W_wreck_7, e_W_wreck_8, e_W_wreck_9, e_W_wreck_11, e_W_wreck_14, e_W_wreck_17, e_W_wreck_18, e_W_wreck_21, e_W_wreck_24, e_W_wreck_26, e_W_wreck_27, e_W_wreck_29, e_W_wreck_31, e_W_wreck_33, e_W_wreck_36, e_W_wreck_39, e_W_wreck_41, e_W_wreck_42, e_W_wreck_44, e_W_wreck_47, e_W_wreck_50, e_W_wreck_52, e_W_wreck_53, e_W_wreck_54, e_W_wreck_57, e_W_wreck_58, e_W_wreck_59, e_W_wreck_60, e_W_wreck_62, e_W_wreck_64, e_W_wreck_67, e_W_wreck_70, e_W_wreck_71, e_W_wreck_74, e_W_wreck_77, e_W_wreck_78, e_W_wreck_79, e_W_wreck_82, e_W_wreck_84, k_W_isKind, k_W_within, k_W_isPlace, rb_i, h1, h2, h3, h4, h5, and_self, and_true, true_and, and_false, false_and, or_true, true_or, or_false, false_or, not_true_eq_false, not_false_eq_true, if_true, if_false, ne_eq, ite_self, reduceCtorEq, i10, Decidable.not_not, Bool.and_self, Bool.and_true, Bool.true_and, t1])
        · rw [if_neg (fun q => h4 q.2.2.2.1)]
          exact COp.same h hc (by simp only [e_W_wreck_0, e_W_wreck_1, e_W_wreck_4, e_W_wreck_7, e_W_wreck_8, e_W_wreck_9, e_W_wreck_11, e_W_wreck_14, e_W_wreck_17, e_W_wreck_18, e_W_wreck_21, e_W_wreck_24, e_W_wreck_26, e_W_wreck_27, e_W_wreck_29, e_W_wreck_31, e_W_wreck_33, e_W_wreck_36, e_W_wreck_39, e_W_wreck_41, e_W_wreck_42, e_W_wreck_44, e_W_wreck_47, e_W_wreck_50, e_W_wreck_52, e_W_wreck_53, e_W_wreck_54, e_W_wreck_57, e_W_wreck_58, e_W_wreck_59, e_W_wreck_60, e_W_wreck_62, e_W_wreck_64, e_W_wreck_67, e_W_wreck_70, e_W_wreck_71, e_W_wreck_74, e_W_wreck_77, e_W_wreck_78, e_W_wreck_79, e_W_wreck_82, e_W_wreck_84, k_W_isKind, k_W_within, k_W_isPlace, rb_i, h1, h2, h3, h4, and_self, and_true, true_and, and_false, false_and, or_true, true_or, or_false, false_or, not_true_eq_false, not_false_eq_true, if_true, if_false, ne_eq, ite_self, reduceCtorEq, i10, Decidable.not_not, Bool.and_self, Bool.and_true, Bool.true_and, t1])
      · rw [if_neg (fun q => h3 q.2.2.1)]
        exact COp.same h hc (by simp only [e_W_wreck_0, e_W_wreck_1, e_W_wreck_4, e_W_wreck_7, e_W_wreck_8, e_W_wreck_9, e_W_wreck_11, e_W_wreck_14, e_W_wreck_17, e_W_wreck_18, e_W_wreck_21, e_W_wreck_24, e_W_wreck_26, e_W_wreck_27, e_W_wreck_29, e_W_wreck_31, e_W_wreck_33, e_W_wreck_36, e_W_wreck_39, e_W_wreck_41, e_W_wreck_42, e_W_wreck_44, e_W_wreck_47, e_W_wreck_50, e_W_wreck_52, e_W_wreck_53, e_W_wreck_54, e_W_wreck_57, e_W_wreck_58, e_W_wreck_59, e_W_wreck_60, e_W_wreck_62, e_W_wreck_64, e_W_wreck_67, e_W_wreck_70, e_W_wreck_71, e_W_wreck_74, e_W_wreck_77, e_W_wreck_78, e_W_wreck_79, e_W_wreck_82, e_W_wreck_84, k_W_isKind, k_W_within, k_W_isPlace, rb_i, h1, h2, h3, and_self, and_true, true_and, and_false, false_and, or_true, true_or, or_false, false_or, not_true_eq_false, not_false_eq_true, if_true, if_false, ne_eq, ite_self, reduceCtorEq, i10, Decidable.not_not, Bool.and_self, Bool.and_true, Bool.true_and, t1])
    · rw [if_neg (fun q => h2 q.2.1)]
      exact COp.same h hc (by simp only [e_W_wreck_0, e_W_wreck_1, e_W_wreck_4, e_W_wreck_7, e_W_wreck_8, e_W_wreck_9, e_W_wreck_11, e_W_wreck_14, e_W_wreck_17, e_W_wreck_18, e_W_wreck_21, e_W_wreck_24, e_W_wreck_26, e_W_wreck_27, e_W_wreck_29, e_W_wreck_31, e_W_wreck_33, e_W_wreck_36, e_W_wreck_39, e_W_wreck_41, e_W_wreck_42, e_W_wreck_44, e_W_wreck_47, e_W_wreck_50, e_W_wreck_52, e_W_wreck_53, e_W_wreck_54, e_W_wreck_57, e_W_wreck_58, e_W_wreck_59, e_W_wreck_60, e_W_wreck_62, e_W_wreck_64, e_W_wreck_67, e_W_wreck_70, e_W_wreck_71, e_W_wreck_74, e_W_wreck_77, e_W_wreck_78, e_W_wreck_79, e_W_wreck_82, e_W_wreck_84, k_W_isKind, k_W_within, k_W_isPlace, rb_i, h1, h2, and_self, and_true, true_and, and_false, false_and, or_true, true_or, or_false, false_or, not_true_eq_false, not_false_eq_true, if_true, if_false, ne_eq, ite_self, reduceCtorEq, i10, Decidable.not_not, Bool.and_self, Bool.and_true, Bool.true_and, t1])
  · rw [if_neg (fun q => h1 (by simpa [in05] using q.1))]
    exact COp.same h hc (by simp only [e_W_wreck_0, e_W_wreck_1, e_W_wreck_4, e_W_wreck_7, e_W_wreck_8, e_W_wreck_9, e_W_wreck_11, e_W_wreck_14, e_W_wreck_17, e_W_wreck_18, e_W_wreck_21, e_W_wreck_24, e_W_wreck_26, e_W_wreck_27, e_W_wreck_29, e_W_wreck_31, e_W_wreck_33, e_W_wreck_36, e_W_wreck_39, e_W_wreck_41, e_W_wreck_42, e_W_wreck_44, e_W_wreck_47, e_W_wreck_50, e_W_wreck_52, e_W_wreck_53, e_W_wreck_54, e_W_wreck_57, e_W_wreck_58, e_W_wreck_59, e_W_wreck_60, e_W_wreck_62, e_W_wreck_64, e_W_wreck_67, e_W_wreck_70, e_W_wreck_71, e_W_wreck_74, e_W_wreck_77, e_W_wreck_78, e_W_wreck_79, e_W_wreck_82, e_W_wreck_84, k_W_isKind, rb_i, h1, and_self, and_true, true_and, and_false, false_and, or_true, true_or, or_false, false_or, not_true_eq_false, not_false_eq_true, if_true, if_false, ne_eq, ite_self, reduceCtorEq, i10, Decidable.not_not, Bool.and_self, Bool.and_true, Bool.true_and, t1])
end CRT

/-! good rows stay good -/
theorem add_I {x y : Int32} (h1 : -2147483648 ≤ x.toInt + y.toInt) (h2 : x.toInt + y.toInt < 2147483648) : (x + y).toInt = x.toInt + y.toInt := by
  rw [Int32.toInt_add]
  exact Int.bmod_eq_of_le (by omega) (by omega)
theorem sub_I {x y : Int32} (h1 : -2147483648 ≤ x.toInt - y.toInt) (h2 : x.toInt - y.toInt < 2147483648) : (x - y).toInt = x.toInt - y.toInt := by
  rw [Int32.toInt_sub]
  exact Int.bmod_eq_of_le (by omega) (by omega)
theorem upd_id {f : Nat → Int32} {k : Nat} : upd f k (f k) = f := by
  funext i
  unfold upd
  split
  · rename_i h; rw [h]
  · rfl
theorem rem30 (x : Int32) : -30 < (rem x 30).toInt ∧ (rem x 30).toInt < 30 := by
  have e : (rem x 30).toInt = x.toInt.tmod 30 := rem_toInt x 30
  have b := Int.natAbs_tmod x.toInt 30
  rw [← e] at b
  have b2 : ((rem x 30).toInt).natAbs < 30 := by rw [b]; exact Nat.mod_lt _ (by decide)
  omega
theorem rdS_in (x : Int32) : 0 ≤ rdS x ∧ rdS x ≤ 29 := by
  have b := rem30 x
  have z0 : Int32.toInt 0 = 0 := rfl
  have z29 : Int32.toInt 29 = 29 := rfl
  have z30 : Int32.toInt 30 = 30 := rfl
  unfold rdS
  split
  · rename_i h1
    rw [i_lt, z0] at h1
    have e2 : (rem x 30 + 30).toInt = (rem x 30).toInt + 30 := add_I (by omega) (by omega)
    simp only [i_le, e2, z0, z29]
    omega
  · rename_i h1
    rw [i_lt, z0] at h1
    simp only [i_le, z0, z29]
    omega
theorem comesS_o {a : Nat → Int32} {n : Nat} {k ht p pc m : Int32} {i : Nat} (h1 : i ≠ 1) (h2 : i < 8 + 6 * n ∨ 8 + 6 * n + 5 < i) : comesS a n k ht p pc m i = a i := by
  unfold comesS
  rw [up_n (by omega), up_n (by omega), up_n (by omega), up_n (by omega), up_n (by omega), up_n (by omega), up_n (by omega)]
theorem comesS_1 {a : Nat → Int32} {n : Nat} {k ht p pc m : Int32} : comesS a n k ht p pc m 1 = nI (n + 1) := by
  unfold comesS
  rw [up_n (by omega), up_n (by omega), up_n (by omega), up_n (by omega), up_n (by omega), up_n (by omega), up_s]
section GD
variable {a : Nat → Int32} {x : Int32} {n w k : Nat}
theorem gd_upd (h : gd a) (h1 : k ≠ 1) (h7 : k ≠ 7) (h8 : k < 8) : gd (upd a k x) := by
  refine ⟨rwOK_upd h.1 h1 h7 (by omega), fun w j hw hj => ?_⟩
  rw [up_n (by omega)] at hw
  rw [up_n (by omega)]
  exact h.2 w j hw hj
theorem gd_fld (h : gd a) (hw : w < cW (a 1)) (hk : k < 6) (hx : okF k x) : gd (upd a (8 + 6 * w + k) x) := by
  obtain ⟨n, hn, -, cn⟩ := h.n
  refine ⟨rwOK_upd h.1 (by omega) (by omega) (by omega), fun w2 j hw2 hj => ?_⟩
  rw [up_n (by omega)] at hw2
  by_cases e : 8 + 6 * w2 + j = 8 + 6 * w + k
  · have ej : j = k := by omega
    rw [e, up_s, ej]
    exact hx
  · rw [up_n e]
    exact h.2 w2 j hw2 hj
theorem gd_comes (h : gd a) (e : a 1 = nI n) (hn : n < 14) {k ht p pc m : Int32} (h0 : okF 0 k) (h1 : okF 1 ht) (h2 : okF 2 p) (h3 : okF 3 pc) (h4 : okF 4 m) : gd (comesS a n k ht p pc m) := by
  refine ⟨rwOK_comes h.1 hn, fun w j hw hj => ?_⟩
  rw [comesS_1, cW, nI_clamp (by omega)] at hw
  by_cases ew : w = n
  · subst ew
    have h5 : okF 5 1 := Or.inr rfl
    unfold comesS
    rcases (show j = 0 ∨ j = 1 ∨ j = 2 ∨ j = 3 ∨ j = 4 ∨ j = 5 by omega) with rfl | rfl | rfl | rfl | rfl | rfl
    · rw [show 8 + 6 * w + 0 = 8 + 6 * w from rfl, up_n (by omega), up_n (by omega), up_n (by omega), up_n (by omega), up_n (by omega), up_s]; exact h0
    · rw [up_n (by omega), up_n (by omega), up_n (by omega), up_n (by omega), up_s]; exact h1
    · rw [up_n (by omega), up_n (by omega), up_n (by omega), up_s]; exact h2
    · rw [up_n (by omega), up_n (by omega), up_s]; exact h3
    · rw [up_n (by omega), up_s]; exact h4
    · rw [up_s]; exact h5
  · rw [comesS_o (by omega) (by omega)]
    exact h.2 w j (by rw [e, cW, nI_clamp (by omega)]; omega) hj
theorem gd_go1 (h : gd a) (hw : w < cW (a 1)) : gd (goS1 a w) := by
  unfold goS1
  refine gd_fld h hw (by decide) ?_
  split
  · exact rdS_in _
  · exact h.2 w 2 hw (by decide)
theorem go1_o {i : Nat} (hi : i < 8) : goS1 a w i = a i := up_n (by omega)
theorem gd_go : ∀ (j w : Nat) (a : Nat → Int32), gd a → w + j ≤ cW (a 1) → gd (goS a w j)
  | 0, _, _, h, _ => h
  | j + 1, w, a, h, hj => gd_go j (w + 1) _ (gd_go1 h (by omega)) (by rw [go1_o (by decide)]; omega)
theorem go_o {i : Nat} (hi : i < 8) : ∀ (j w : Nat) (a : Nat → Int32), goS a w j i = a i
  | 0, _, _ => rfl
  | j + 1, w, a => (go_o hi j (w + 1) (goS1 a w)).trans (go1_o hi)
/-- halves of a mass -/
theorem half_ok {m : Int32} (h : okF 4 m) (h1 : m ≠ 1) : okF 4 (m / 2) ∧ okF 4 (m - m / 2) := by
  obtain ⟨j, hj1, hj2, rfl⟩ := inN (a := 1) (b := 99) (by decide) (okF4 h) rfl rfl
  have hj : j ≠ 1 := fun e => h1 (by rw [e]; rfl)
  have e : nI j / 2 = nI (j / 2) := pk_div (a := j) (d := 2) (by omega) (by decide) (by decide)
  rw [e, pk_sub (by omega)]
  exact ⟨⟨nI_le (a := 1) (by omega) (by omega), nI_le (b := 99) (by omega) (by omega)⟩, ⟨nI_le (a := 1) (by omega) (by omega), nI_le (b := 99) (by omega) (by omega)⟩⟩
theorem gd_breaks (h : gd a) (e : a 1 = nI n) (hn : n ≤ 14) (hw : w < n) : gd (breaksS a n w) := by
  have cn : cW (a 1) = n := by rw [e, cW, nI_clamp (by omega)]
  have h4 : gd (upd a 4 (a 4 + 1)) := gd_upd h (by decide) (by decide) (by decide)
  have c4 : w < cW (upd a 4 (a 4 + 1) 1) := by rw [up_n (by decide), cn]; exact hw
  unfold breaksS
  split
  · exact gd_fld h4 c4 (by decide) (Or.inl rfl)
  · rename_i hm
    have hf := half_ok (h.2 w 4 (by omega) (by decide)) hm
    split
    · refine gd_comes (gd_fld h4 c4 (by decide) hf.1) (by rw [up_n (by omega), up_n (by decide)]; exact e) (by assumption) ?_ (h.2 w 1 (by omega) (by decide)) (h.2 w 2 (by omega) (by decide)) (clS_in (by decide)) hf.2
      exact ⟨by decide, by decide⟩
    · exact gd_fld h4 c4 (by decide) hf.1
/-- what a break leaves -/
theorem breaks_1 (e : a 1 = nI n) (hn : n ≤ 14) (hw : w < n) : ∃ m, n ≤ m ∧ m ≤ 14 ∧ breaksS a n w 1 = nI m := by
  unfold breaksS
  split
  · exact ⟨n, by omega, hn, by rw [up_n (by omega), up_n (by decide)]; exact e⟩
  · split
    · exact ⟨n + 1, by omega, by omega, comesS_1⟩
    · exact ⟨n, by omega, hn, by rw [up_n (by omega), up_n (by decide)]; exact e⟩
theorem breaks_2 : breaksS a n w 2 = a 2 := by
  unfold breaksS
  split
  · rw [up_n (by omega), up_n (by decide)]
  · split
    · rw [comesS_o (by decide) (by omega), up_n (by omega), up_n (by decide)]
    · rw [up_n (by omega), up_n (by decide)]
theorem breaks_4 : breaksS a n w 4 = a 4 + 1 := by
  unfold breaksS
  split
  · rw [up_n (by omega), up_s]
  · split
    · rw [comesS_o (by decide) (by omega), up_n (by omega), up_s]
    · rw [up_n (by omega), up_s]
/-- what holds between a row and a later one in the same hour: as many wrecks at least, the same hour, up to k more broken -/
def lat (k : Nat) (a b : Nat → Int32) : Prop := gd b ∧ (∀ n, a 1 = nI n → n ≤ 14 → ∃ m, n ≤ m ∧ m ≤ 14 ∧ b 1 = nI m) ∧ b 2 = a 2 ∧ ∃ i, i ≤ k ∧ b 4 = a 4 + nI i
theorem lat.rfl' (h : gd a) : lat 0 a a := ⟨h, fun n e hn => ⟨n, Nat.le_refl _, hn, e⟩, rfl, 0, Nat.le_refl _, by rw [show nI 0 = 0 from rfl, Int32.add_zero]⟩
theorem lat.tr {b c : Nat → Int32} {i j : Nat} (h : lat i a b) (h2 : lat j b c) : lat (i + j) a c := by
  obtain ⟨-, h3, h4, u, hu, h5⟩ := h
  obtain ⟨g1, g3, g4, v, hv, g5⟩ := h2
  refine ⟨g1, fun n e hn => ?_, g4.trans h4, u + v, by omega, ?_⟩
  · obtain ⟨m, m1, m2, m3⟩ := h3 n e hn
    obtain ⟨m', m4, m5, m6⟩ := g3 m m3 m2
    exact ⟨m', by omega, m5, m6⟩
  · rw [g5, h5, Int32.add_assoc, nI_add]
theorem lat.le {b : Nat → Int32} {i j : Nat} (h : lat i a b) (hij : i ≤ j) : lat j a b := by
  obtain ⟨h1, h3, h4, u, hu, h5⟩ := h
  exact ⟨h1, h3, h4, u, by omega, h5⟩
theorem lat_mt1 {o : Nat} (h : gd a) (e : a 1 = nI n) (hn : n ≤ 14) (hw : w < n) (ho : o < n) : lat 1 a (mtS1 a w o) := by
  by_cases hm : meetP a w o
  · rw [mtS1_y hm e hn]
    have hx : (if hardS a w < hardS a o then w else o) < n := by split <;> assumption
    refine ⟨gd_breaks h e hn hx, fun n' e' hn' => ?_, breaks_2, 1, Nat.le_refl _, breaks_4⟩
    have : n' = n := (nI_eq (by omega) (by omega)).mp (e'.symm.trans e)
    subst this
    exact breaks_1 e hn hx
  · rw [mtS1_n hm]
    exact (lat.rfl' h).le (by omega)
theorem lat_mt : ∀ (j o : Nat) (a : Nat → Int32) (n : Nat), gd a → a 1 = nI n → n ≤ 14 → w < n → o + j ≤ n → lat j a (mtS a w o j)
  | 0, _, _, _, h, _, _, _, _ => lat.rfl' h
  | j + 1, o, a, n, h, e, hn, hw, hj => by
    have h1 := lat_mt1 (o := o) h e hn hw (by omega)
    obtain ⟨m, m1, m2, m3⟩ := h1.2.1 n e hn
    exact (h1.tr (lat_mt j (o + 1) _ m h1.1 m3 m2 (by omega) (by omega))).le (by omega)
theorem lat_mtO {n : Nat} : ∀ (j w : Nat) (a : Nat → Int32) (c : Nat), gd a → a 1 = nI c → c ≤ 14 → n ≤ c → w + j ≤ n → lat (14 * j) a (mtO n a w j)
  | 0, _, _, _, h, _, _, _, _ => lat.rfl' h
  | j + 1, w, a, c, h, e, hc, hn, hj => by
    have h1 := lat_mt (w := w) (n - (w + 1)) (w + 1) a c h e hc (by omega) (by omega)
    obtain ⟨m, m1, m2, m3⟩ := h1.2.1 c e hc
    exact (h1.tr (lat_mtO j (w + 1) _ m h1.1 m3 m2 (by omega) (by omega))).le (by omega)
theorem lat_sinks (h : gd a) (hw : w < cW (a 1)) : lat 0 a (sinksS a w) := by
  unfold sinksS
  split
  · split
    · refine ⟨gd_upd (gd_fld h hw (by decide) (Or.inl rfl)) (by decide) (by decide) (by decide), fun n e hn => ⟨n, by omega, hn, by rw [up_n (by decide), up_n (by omega)]; exact e⟩, by rw [up_n (by decide), up_n (by omega)], 0, by omega, by rw [up_n (by decide), up_n (by omega), show nI 0 = 0 from rfl, Int32.add_zero]⟩
    · rename_i h0
      have h1 := okF1 (h.2 w 1 hw (by decide))
      obtain ⟨j, -, hj, ej⟩ := inN (a := 0) (b := 7) (by decide) h1 rfl rfl
      have j0 : j ≠ 0 := fun q => h0 (by rw [ej, q]; rfl)
      have ok : okF 1 (a (8 + 6 * w + 1) - 1) := by
        rw [ej, show (1 : Int32) = nI 1 from rfl, pk_sub (by omega)]
        exact ⟨nI_le (a := 0) (by omega) (by omega), nI_le (b := 7) (by omega) (by omega)⟩
      exact ⟨gd_fld h hw (by decide) ok, fun n e hn => ⟨n, by omega, hn, by rw [up_n (by omega)]; exact e⟩, by rw [up_n (by omega)], 0, by omega, by rw [up_n (by omega), show nI 0 = 0 from rfl, Int32.add_zero]⟩
  · exact lat.rfl' h
theorem lat_z (h : gd a) : lat 0 a (upd a 0 x) := ⟨gd_upd h (by decide) (by decide) (by decide), fun n e hn => ⟨n, by omega, hn, by rw [up_n (by decide)]; exact e⟩, by rw [up_n (by decide)], 0, by omega, by rw [up_n (by decide), show nI 0 = 0 from rfl, Int32.add_zero]⟩
theorem lat_lot (h : gd a) : lat 0 a (lotS a) := by
  obtain ⟨n, hn, e1, cn⟩ := h.n
  unfold lotS
  split
  · exact lat_z h
  · split
    · exact lat_z h
    · rename_i h3
      have hn0 : n ≠ 0 := fun q => h3 (by rw [e1, q]; decide)
      obtain ⟨w, hw, ew⟩ := rem_nI (zS (zS (a 0))) (c := n) (by omega) (by omega)
      rw [e1, ew, nI_clamp (by omega), uu]
      exact (lat_z h).tr (lat_sinks (gd_upd h (by decide) (by decide) (by decide)) (by rw [up_n (by decide), cn]; exact hw))
/-- an hour -/
theorem hour_ok (h : gd a) : gd (hourS a) ∧ hourS a 2 = a 2 + 1 ∧ (∃ i, i ≤ 196 ∧ hourS a 4 = a 4 + nI i) ∧ ∀ n, a 1 = nI n → n ≤ 14 → ∃ m, n ≤ m ∧ m ≤ 14 ∧ hourS a 1 = nI m := by
  obtain ⟨n, hn, e1, cn⟩ := h.n
  have g1 : gd (goS a 0 n) := gd_go n 0 a h (by omega)
  have g2 : lat (14 * n) (goS a 0 n) (mtO n (goS a 0 n) 0 n) := lat_mtO n 0 _ n g1 (by rw [go_o (by decide)]; exact e1) hn (Nat.le_refl _) (by omega)
  obtain ⟨l1, l2, l3, i, l4, l5⟩ := (g2.tr (lat_lot g2.1)).le (show _ ≤ 196 by omega)
  rw [go_o (by decide)] at l2 l3 l5
  have cn' : (a 1).toNatClampNeg = n := cn
  unfold hourS
  rw [cn']
  refine ⟨gd_upd l1 (by decide) (by decide) (by decide), by rw [up_s, l3], ⟨i, l4, by rw [up_n (by decide)]; exact l5⟩, fun n e hn => ?_⟩
  rw [up_n (by decide)]
  exact l2 n e hn
/-- a row with its hour and what is broken held -/
def gh (H : Nat) (a : Nat → Int32) : Prop := gd a ∧ ∃ h, h ≤ H ∧ a 2 = nI h ∧ ∃ b, b ≤ 196 * h ∧ a 4 = nI b
theorem gh_hour {H : Nat} (h : gh H a) : gh (H + 1) (hourS a) := by
  obtain ⟨h1, t, h2, h3, b, h4, h5⟩ := h
  obtain ⟨g1, g2, ⟨i, g3, g4⟩, -⟩ := hour_ok h1
  exact ⟨g1, t + 1, by omega, by rw [g2, h3]; exact nI_1 t, b + i, by omega, by rw [g4, h5, nI_add]⟩
theorem gh_hrs {H : Nat} (h : gh H a) : ∀ k, gh (H + k) (hrsS a k)
  | 0 => h
  | k + 1 => gh_hour (gh_hrs h k)
theorem gd_hrs (h : gd a) : ∀ k, gd (hrsS a k)
  | 0 => h
  | k + 1 => (hour_ok (gd_hrs h k)).1
theorem hrs_1 (h : gd a) (e : a 1 = nI n) (hn : n ≤ 14) : ∀ k, ∃ m, n ≤ m ∧ m ≤ 14 ∧ hrsS a k 1 = nI m
  | 0 => ⟨n, Nat.le_refl _, hn, e⟩
  | k + 1 => by
    obtain ⟨m, h1, h2, h3⟩ := hrs_1 h e hn k
    obtain ⟨m2, h4, h5, h6⟩ := (hour_ok (gd_hrs h k)).2.2.2 m h3 h2
    exact ⟨m2, by omega, h5, h6⟩
theorem hrs_2 (h : gd a) {t : Nat} (e : a 2 = nI t) : ∀ k, hrsS a k 2 = nI (t + k)
  | 0 => e
  | k + 1 => by
    have := (hour_ok (gd_hrs h k)).2.1
    rw [hrs_2 h e k] at this
    exact this.trans (nI_1 _)
theorem hrs_4 (h : gd a) {b : Nat} (e : a 4 = nI b) : ∀ k, ∃ i, i ≤ 196 * k ∧ hrsS a k 4 = nI (b + i)
  | 0 => ⟨0, by omega, e⟩
  | k + 1 => by
    obtain ⟨i, h1, h2⟩ := hrs_4 h e k
    obtain ⟨j, h3, h4⟩ := (hour_ok (gd_hrs h k)).2.2.1
    exact ⟨i + j, by omega, by rw [show hrsS a (k + 1) = hourS (hrsS a k) from rfl, h4, h2, nI_add, Nat.add_assoc]⟩
end GD

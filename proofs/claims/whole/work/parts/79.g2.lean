/-! TEXTS: the class's text -/
section OKT
variable {T : Nat → Int32} {n key i : Nat}
theorem sg_n10 (b : Int32) : sgS b ≠ -10 ∧ sgS b ≠ 10002 := by
  unfold sgS
  repeat' split
  all_goals (constructor <;> decide)
theorem tk_a (hk : key < 3) (h : (tk T n key i).1 = 1) : ¬ (tk T n key i).2 < 0 ∧ okC (tk T n key i).2 = true ∧ (key ≠ 0 → (tk T n key i).2 ≠ 10002) ∧ ((∃ v, v < 10000 ∧ (tk T n key i).2 = nI v) ∨ ∃ m, m < 3 ∧ (tk T n key i).2 = nI (10000 + m)) := by
  have bC := tC_le (T := T) (n := n) i
  by_cases c3 : tC T n i = 3
  · rw [tk_3 c3] at h; cases h
  · by_cases c2 : tC T n i = 2
    · by_cases hg : tG T n i ∨ 4 < tB T n i - tA T n i
      · rw [tk_2b c2 hg] at h; cases h
      · rw [tk_2 c2 hg]
        have hl : ¬ 4 < tB T n i - tA T n i := fun q => hg (Or.inr q)
        obtain ⟨w, hw, ew⟩ := nv_b (T := T) (a := tA T n i) (tB T n i - tA T n i) (fun k hk => by rw [tok_all (by omega) (by omega) (show tA T n i ≤ tA T n i + k by omega) (by omega)]; exact c2)
        have hp : 10 ^ (tB T n i - tA T n i) ≤ 10 ^ 4 := Nat.pow_le_pow_right (by decide) (by omega)
        show ¬ nvS T (tA T n i) (tB T n i - tA T n i) < 0 ∧ okC (nvS T (tA T n i) (tB T n i - tA T n i)) = true ∧ (key ≠ 0 → nvS T (tA T n i) (tB T n i - tA T n i) ≠ 10002) ∧ _
        have lt : nI w < 10000 := by rw [show (10000 : Int32) = nI 10000 from rfl, nI_lt' (by omega) (by decide)]; omega
        refine ⟨by rw [ew]; exact nI_n0 (by omega), by rw [ew]; exact decide_eq_true (Or.inl lt), fun _ => ?_, Or.inl ⟨w, by omega, ew⟩⟩
        rw [ew]
        intro q
        rw [q] at lt
        exact absurd lt (by decide)
    · by_cases c1 : tC T n i = 1
      · by_cases hg : tG T n i ∨ tB T n i - tA T n i ≠ 1 ∨ nmW key (T (tA T n i)) < 0
        · rw [tk_1b c1 hg] at h; cases h
        · rw [tk_1 c1 hg]
          rcases nm_or (key := key) (c := T (tA T n i)) hk with em | ⟨m, hm, hm2, em⟩
          · exact absurd (Or.inr (Or.inr (by rw [em]; exact m1_lt))) hg
          · have e10 : (10000 : Int32) + nmW key (T (tA T n i)) = nI (10000 + m) := by rw [em]; exact nI_add 10000 m
            show ¬ (10000 : Int32) + nmW key (T (tA T n i)) < 0 ∧ okC (10000 + nmW key (T (tA T n i))) = true ∧ (key ≠ 0 → 10000 + nmW key (T (tA T n i)) ≠ 10002) ∧ _
            rw [e10]
            refine ⟨nI_n0 (by omega), ?_, fun q => ?_, Or.inr ⟨m, hm, rfl⟩⟩
            · rcases (show m = 0 ∨ m = 1 ∨ m = 2 by omega) with rfl | rfl | rfl <;> decide
            · have := hm2 q
              rw [show (10002 : Int32) = nI 10002 from rfl, ne_eq, nI_eq (by omega) (by decide)]
              omega
      · exact absurd h (tk_0 (by omega))
theorem tk_b5 (h : (tk T n key i).1 = 5) : (tk T n key i).2 < 0 ∧ (tk T n key i).2 ≠ -10 ∧ (tk T n key i).2 ≠ 10002 := by
  have c0 : tC T n i = 0 := Classical.byContradiction (fun q => (tk_ns (key := key) q).2.2.2 h)
  rw [tk_s c0] at h ⊢
  have h2 : (tkb (T (tA T n i))).2 ≠ -10 ∧ (tkb (T (tA T n i))).2 ≠ 10002 := by
    unfold tkb
    repeat' split
    all_goals first | (constructor <;> decide) | exact sg_n10 _
  exact ⟨(cv_sg _ h).2, h2⟩
theorem tk_ok (hk : key < 3) : okT (tk T n key) := ⟨fun i h => ⟨(tk_a hk h).1, (tk_a hk h).2.1⟩, fun i h => ⟨(tk_b5 h).1, (tk_b5 h).2.1⟩⟩
theorem ky_lt (h : kyS T n ≠ 3) : kyS T n < 3 := by
  have : kyS T n ≤ 3 := by
    unfold kyS
    split
    · omega
    · split
      · omega
      · split <;> omega
  omega
theorem rtx_r {k : Nat} {D : List Int32} (hn : n ≤ 96) (h : rtx T n = .inr (k, D)) : k < 3 ∧ gro D ∧ D.length ≤ 95 ∧ (k ≠ 0 → ∀ c ∈ D, c ≠ 10002) := by
  unfold rtx at h
  split at h
  · cases h
  · rename_i k3
    have kl := ky_lt k3
    cases hx : rd (tk T n (kyS T n)) 70 0 0 0 1 with
    | inl j => rw [hx] at h; cases h
    | inr v =>
      obtain ⟨j, E⟩ := v
      rw [hx] at h
      simp only at h
      split at h
      · cases h
        obtain ⟨b1, b2, b3⟩ := rd_b 70 _ _ _ _ _ _ hx
        have b95 := tk_i hn b3
        exact ⟨kl, rd_g (tk_ok kl) 70 _ _ _ _ _ _ hx, by omega, fun q => rd_a (P := fun c => c ≠ 10002) (fun i hi => by
          rcases hi with hi | hi
          · exact (tk_a kl hi).2.2.1 q
          · exact (tk_b5 hi).2.2) (by decide) 70 _ _ _ _ _ _ hx⟩
      · cases h
end OKT
/-- a text comes behind the others -/
def adS (a : Nat → Int32) (t key : Nat) (D : List Int32) : Nat → Int32 := fun i => if i = 7 then nI (t + 1) else if i = 92 + 2 * t then nI (1000 * key + D.length) else if i = 92 + 2 * t + 1 then nI (atm D) else if 120 + 96 * t ≤ i ∧ i < 120 + 96 * t + D.length then D.getD (i - (120 + 96 * t)) 0 else a i
section ADS
variable {a : Nat → Int32} {t key : Nat} {D : List Int32}
theorem ad_7 : adS a t key D 7 = nI (t + 1) := by unfold adS; rw [if_pos rfl]
theorem ad_lo {i : Nat} (h : i < 92) (h7 : i ≠ 7) : adS a t key D i = a i := by unfold adS; rw [if_neg h7, if_neg (by omega), if_neg (by omega), if_neg (by omega)]
theorem ad_h (ht : t < 14) : adS a t key D (92 + 2 * t) = nI (1000 * key + D.length) := by unfold adS; rw [if_neg (by omega), if_pos rfl]
theorem ad_n (ht : t < 14) : adS a t key D (92 + 2 * t + 1) = nI (atm D) := by unfold adS; rw [if_neg (by omega), if_neg (by omega), if_pos rfl]
theorem ad_c (ht : t < 14) {j : Nat} (hj : j < D.length) : adS a t key D (120 + 96 * t + j) = D.getD j 0 := by
  unfold adS
  rw [if_neg (by omega), if_neg (by omega), if_neg (by omega), if_pos (by omega), show 120 + 96 * t + j - (120 + 96 * t) = j by omega]
theorem ad_o {t2 : Nat} (ht : t < 14) (h2 : t2 < t) : adS a t key D (92 + 2 * t2) = a (92 + 2 * t2) ∧ adS a t key D (92 + 2 * t2 + 1) = a (92 + 2 * t2 + 1) ∧ ∀ j, j < 96 → adS a t key D (120 + 96 * t2 + j) = a (120 + 96 * t2 + j) := by
  refine ⟨?_, ?_, fun j hj => ?_⟩ <;> (unfold adS; rw [if_neg (by omega), if_neg (by omega), if_neg (by omega), if_neg (by omega)])
theorem hd_m (hk : key < 3) (hD : D.length ≤ 95) : rem (nI (1000 * key + D.length)) 1000 = nI D.length ∧ nI (1000 * key + D.length) / 1000 = nI key := by
  refine ⟨?_, ?_⟩
  · have := pk_rem (a := 1000 * key + D.length) (d := 1000) (by omega) (by decide) (by decide)
    rw [show (1000 * key + D.length) % 1000 = D.length by omega] at this
    exact this
  · have := pk_div (a := 1000 * key + D.length) (d := 1000) (by omega) (by decide) (by decide)
    rw [show (1000 * key + D.length) / 1000 = key by omega] at this
    exact this
theorem gh_ad {H : Nat} (h : gh H a) (e7 : a 7 = nI t) (ht : t < 14) (hk : key < 3) (hg : gro D) (hD : D.length ≤ 95) (h2 : key ≠ 0 → ∀ c ∈ D, c ≠ 10002) : gh H (adS a t key D) := by
  obtain ⟨n, hn, e1, cn⟩ := h.1.n
  obtain ⟨g, tt, htt, e2, c, hb, e4⟩ := h
  obtain ⟨m, hm, e7', htx⟩ := g.1.2
  have : m = t := (nI_eq (by omega) (by omega)).mp (e7'.symm.trans e7)
  subst this
  obtain ⟨r1, r2⟩ := hd_m (key := key) hk hD
  refine ⟨⟨⟨⟨n, hn, by rw [ad_lo (by decide) (by decide)]; exact e1⟩, m + 1, by omega, ad_7, fun t2 ht2 => ?_⟩, fun w k hw hk => ?_⟩, tt, htt, by rw [ad_lo (by decide) (by decide)]; exact e2, c, hb, by rw [ad_lo (by decide) (by decide)]; exact e4⟩
  · by_cases et : t2 = m
    · subst et
      rw [ad_h ht]
      refine ⟨D.length, r1, okS_c (fun j hj => (ad_c ht hj).symm) (gro_ok hg (by omega)), fun q j hj => ?_⟩
      rw [ad_c ht hj]
      rw [r2] at q
      have kq : key ≠ 0 := fun z => q (by rw [z]; rfl)
      rw [List.getD_eq_getElem?_getD, List.getElem?_eq_getElem hj]
      exact h2 kq _ (List.getElem_mem hj)
    · obtain ⟨o1, o2, o3⟩ := ad_o (a := a) (key := key) (D := D) (t2 := t2) ht (by omega)
      obtain ⟨m2, g1, g2, g3⟩ := htx t2 (by omega)
      have m96 := g2.1
      refine ⟨m2, by rw [o1]; exact g1, okS_c (fun j hj => (o3 j (by omega)).symm) g2, fun q j hj => ?_⟩
      rw [o3 j (by omega)]
      rw [o1] at q
      exact g3 q j hj
  · rw [ad_lo (by decide) (by decide)] at hw
    rw [ad_lo (by omega) (by omega)]
    exact g.2 w k hw hk
end ADS
def sp_text (A : mI) : Int32 × mI := match rtx (A 101) (cW (A 93 9)) with
  | .inl p => (-100 - nI p, va_up A 93 (upd (A 93) 9 0))
  | .inr (key, D) => if A 94 7 = 14 then (-1000000003, va_up A 93 (upd (A 93) 9 0)) else (A 94 7, va_up (va_up A 93 (upd (A 93) 9 0)) 94 (adS (A 94) (cW (A 94 7)) key D))

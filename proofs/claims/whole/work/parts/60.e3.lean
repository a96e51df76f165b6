/-! THE CLASS: the tape; sheets -/
theorem tb_s1 : ∀ i, i < 4 → tb (65 + 2 * i) = (2, 3) := by decide
theorem tb_s2 : ∀ i, i < 4 → tb (66 + 2 * i) = (100, 24) := by decide
theorem rt_s1 : ∀ i, i < 4 → ((62, i), 65 + 2 * i) ∈ rt_ := by decide
theorem rt_s2 : ∀ i, i < 4 → ((65 + 2 * i, 0), 66 + 2 * i) ∈ rt_ := by decide
theorem tb_o1 : ∀ i, i < 5 → tb (73 + 4 * i) = (4, 4) := by decide
theorem tb_o2 : ∀ i, i < 5 → tb (74 + 4 * i) = (7, 6) := by decide
theorem tb_o3 : ∀ i, i < 5 → tb (75 + 4 * i) = (2, 3) := by decide
theorem tb_o4 : ∀ i, i < 5 → tb (76 + 4 * i) = (100, 24) := by decide
theorem rt_o1 : ∀ i, i < 5 → ((63, i), 73 + 4 * i) ∈ rt_ := by decide
theorem rt_o2 : ∀ i, i < 5 → ((73 + 4 * i, 0), 74 + 4 * i) ∈ rt_ := by decide
theorem rt_o3 : ∀ i, i < 5 → ((73 + 4 * i, 1), 75 + 4 * i) ∈ rt_ := by decide
theorem rt_o4 : ∀ i, i < 5 → ((75 + 4 * i, 0), 76 + 4 * i) ∈ rt_ := by decide
section SHT
variable {S : mS} {R : mR} {i k : Nat}
theorem sh_is (h : WF S R) (hi : i < 4) : h_is S (65 + 2 * i) 2 3 = true := wf_is h (by omega) (tb_s1 i hi)
theorem sc_is (h : WF S R) (hi : i < 4) : h_is S (66 + 2 * i) 100 24 = true := wf_is h (by omega) (tb_s2 i hi)
theorem sc_ia (h : WF S R) (hi : i < 4) (hk : k < 24) : h_ia S (66 + 2 * i) 0 (nI k) = true := wf_ia h (by omega) (tb_s2 i hi) hk (by decide)
theorem sh_r (h : WF S R) (hi : i < 4) : R 62 i = .inl (some (65 + 2 * i)) := h.2.2 _ (rt_s1 i hi)
theorem sc_r (h : WF S R) (hi : i < 4) : R (65 + 2 * i) 0 = .inl (some (66 + 2 * i)) := h.2.2 _ (rt_s2 i hi)
theorem so_is (h : WF S R) (hi : i < 5) : h_is S (73 + 4 * i) 4 4 = true := wf_is h (by omega) (tb_o1 i hi)
theorem so_wi (h : WF S R) (hi : i < 5) : h_is S (74 + 4 * i) 7 6 = true := wf_is h (by omega) (tb_o2 i hi)
theorem so_si (h : WF S R) (hi : i < 5) : h_is S (75 + 4 * i) 2 3 = true := wf_is h (by omega) (tb_o3 i hi)
theorem so_ci (h : WF S R) (hi : i < 5) : h_is S (76 + 4 * i) 100 24 = true := wf_is h (by omega) (tb_o4 i hi)
theorem so_ia (h : WF S R) (hi : i < 5) (hk : k < 24) : h_ia S (76 + 4 * i) 0 (nI k) = true := wf_ia h (by omega) (tb_o4 i hi) hk (by decide)
theorem so_r (h : WF S R) (hi : i < 5) : R 63 i = .inl (some (73 + 4 * i)) := h.2.2 _ (rt_o1 i hi)
theorem so_w (h : WF S R) (hi : i < 5) : R (73 + 4 * i) 0 = .inl (some (74 + 4 * i)) := h.2.2 _ (rt_o2 i hi)
theorem so_s (h : WF S R) (hi : i < 5) : R (73 + 4 * i) 1 = .inl (some (75 + 4 * i)) := h.2.2 _ (rt_o3 i hi)
theorem so_c (h : WF S R) (hi : i < 5) : R (75 + 4 * i) 0 = .inl (some (76 + 4 * i)) := h.2.2 _ (rt_o4 i hi)
end SHT
/-! bytes -/
theorem sar_eq (x : Int32) {k : Nat} (hk : k = 0 ∨ k = 8 ∨ k = 16 ∨ k = 24) : us x (nI k) &&& 255 = (x >>> (nI k &&& 31)) &&& 255 := by
  have hb := x.toBitVec.isLt
  have hm : (255 : Int32).toBitVec.toNat = 2 ^ 8 - 1 := rfl
  rw [pk_and _ 8 hm, pk_and _ 8 hm]
  have e2 : ∀ y : Int32, (y.toBitVec.toNat : Int) = y.toInt % 4294967296 := by
    intro y
    have := y.toBitVec.isLt
    rw [show y.toInt = y.toBitVec.toInt from rfl, BitVec.toInt_eq_toNat_cond]
    split <;> omega
  have ex := e2 x
  have xl := x.toInt_lt
  have xg := x.le_toInt
  congr 1
  rcases hk with rfl | rfl | rfl | rfl
  · have h1 : (us x (nI 0)).toBitVec.toNat = _ := pk_ushr x (nI 0) 0 (by decide)
    have h2 := pk_shr x (nI 0 &&& 31) 0 (by decide)
    have h3 := e2 (x >>> (nI 0 &&& 31))
    rw [h2, Int.shiftRight_eq_div_pow] at h3
    rw [h1]
    omega
  · have h1 : (us x (nI 8)).toBitVec.toNat = _ := pk_ushr x (nI 8) 8 (by decide)
    have h2 := pk_shr x (nI 8 &&& 31) 8 (by decide)
    have h3 := e2 (x >>> (nI 8 &&& 31))
    rw [h2, Int.shiftRight_eq_div_pow] at h3
    rw [h1]
    omega
  · have h1 : (us x (nI 16)).toBitVec.toNat = _ := pk_ushr x (nI 16) 16 (by decide)
    have h2 := pk_shr x (nI 16 &&& 31) 16 (by decide)
    have h3 := e2 (x >>> (nI 16 &&& 31))
    rw [h2, Int.shiftRight_eq_div_pow] at h3
    rw [h1]
    omega
  · have h1 : (us x (nI 24)).toBitVec.toNat = _ := pk_ushr x (nI 24) 24 (by decide)
    have h2 := pk_shr x (nI 24 &&& 31) 24 (by decide)
    have h3 := e2 (x >>> (nI 24 &&& 31))
    rw [h2, Int.shiftRight_eq_div_pow] at h3
    rw [h1]
    omega

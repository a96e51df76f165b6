/-! counts of bits: all of them -/
theorem bcAll_t : bcAll 16384 = true := by decide +kernel
theorem bcAll_s : ∀ (n m : Nat), bcAll n = true → m < n → bcB m = true
  | 0, _, _, h => absurd h (by omega)
  | n + 1, m, e, h => by
    have e : (bcB n && bcAll n) = true := e
    rw [Bool.and_eq_true] at e
    by_cases q : m = n
    · subst q; exact e.1
    · exact bcAll_s n m e.2 (by omega)
theorem bc_pop {m : Nat} (h : m < 16384) : bcS (nI m) = nI (pop 14 m) := of_decide_eq_true (bcAll_s 16384 m bcAll_t h)
theorem sm32 : ∀ w, w < 14 → (((nI w &&& 31) : Int32).toBitVec.smod 32).toNat = w := by decide
theorem or_bit {m w : Nat} (hm : m < 2 ^ w) (hw : w < 14) : nI m ||| (1 : Int32) <<< (nI w &&& 31) = nI (m + 2 ^ w) := by
  have hw2 : 2 ^ w < 2 ^ 14 := Nat.pow_lt_pow_right (by decide) hw
  have e1 : (1 : Int32) <<< (nI w &&& 31) = nI (2 ^ w) := by
    have := pk_shlN (n := 1) (nI w &&& 31) w (sm32 w hw) (by omega)
    rw [Nat.one_mul] at this
    exact this
  rw [e1]
  apply Int32.toBitVec_inj.mp
  apply BitVec.eq_of_toNat_eq
  rw [Int32.toBitVec_or, BitVec.toNat_or, pk_tn (by omega), pk_tn (by omega), pk_tn (by omega), Nat.or_comm]
  have := Nat.two_pow_add_eq_or_of_lt hm 1
  rw [Nat.mul_one] at this
  rw [← this, Nat.add_comm]
theorem ups_bits {a : Nat → Int32} : ∀ (j w m : Nat), w + j ≤ 14 → m < 2 ^ w → ∃ m2, m2 < 2 ^ (w + j) ∧ upsS a 1 w j (nI m) = nI m2 ∧ upsS a 0 w j (nI (pop 14 m)) = nI (pop 14 m2)
  | 0, w, m, _, h => ⟨m, h, rfl, rfl⟩
  | j + 1, w, m, hw, h => by
    have hp : 2 ^ (w + 1) = 2 * 2 ^ w := by rw [Nat.pow_succ]; omega
    by_cases hu : a (8 + 6 * w + 5) = 1
    · obtain ⟨m2, h1, h2, h3⟩ := ups_bits (a := a) j (w + 1) (m + 2 ^ w) (by omega) (by omega)
      refine ⟨m2, by rw [show w + (j + 1) = w + 1 + j by omega]; exact h1, ?_, ?_⟩
      · show upsS a 1 (w + 1) j (upsS1 a 1 w (nI m)) = _
        rw [← h2, show upsS1 a 1 w (nI m) = nI m ||| (1 : Int32) <<< (nI w &&& 31) by unfold upsS1; rw [if_pos hu]; rfl, or_bit h (by omega)]
      · show upsS a 0 (w + 1) j (upsS1 a 0 w (nI (pop 14 m))) = _
        rw [← h3, show upsS1 a 0 w (nI (pop 14 m)) = nI (pop 14 m) + 1 by unfold upsS1; rw [if_pos hu]; rfl, pop_add 14 w m h (by omega), nI_1]
    · obtain ⟨m2, h1, h2, h3⟩ := ups_bits (a := a) j (w + 1) m (by omega) (by omega)
      refine ⟨m2, by rw [show w + (j + 1) = w + 1 + j by omega]; exact h1, ?_, ?_⟩
      · show upsS a 1 (w + 1) j (upsS1 a 1 w (nI m)) = _
        rw [← h2, show upsS1 a 1 w (nI m) = nI m by unfold upsS1; rw [if_neg hu]]
      · show upsS a 0 (w + 1) j (upsS1 a 0 w (nI (pop 14 m))) = _
        rw [← h3, show upsS1 a 0 w (nI (pop 14 m)) = nI (pop 14 m) by unfold upsS1; rw [if_neg hu]]
/-- how many are up: the bits of the set -/
theorem ups_cnt {a : Nat → Int32} {n : Nat} (hn : n ≤ 14) : bcS (upsS a 1 0 n 0) = upsS a 0 0 n 0 := by
  obtain ⟨m2, h1, h2, h3⟩ := ups_bits (a := a) n 0 0 (by omega) (by decide)
  have h2 : upsS a 1 0 n 0 = nI m2 := h2
  have h3 : upsS a 0 0 n 0 = nI (pop 14 m2) := h3
  have : 2 ^ (0 + n) ≤ 2 ^ 14 := Nat.pow_le_pow_right (by decide) (by omega)
  rw [h2, h3, bc_pop (by omega)]

/-! THE LAW: each call, 1 -/
section LWC
variable {Ls : Nat} {xs : Nat → Int32} {d : Nat} {S : mS} {I A : mI} {R : mR} {i : Nat}
/-- a step of the law -/
def LwS (Ls : Nat) (xs : Nat → Int32) (d : Nat) (S : mS) (I : mI) (R : mR) (i pc : Nat) : Prop := ∃ S2 I2 R2 A2, JS S2 I2 R2 A2 ∧ (S2.2.1 ≤ S.2.1 + 2 ∧ S2.2.2 ≤ S.2.2 + 98) ∧ rn Ls xs (d + 160) 0 pc [some (.inr (.inr 0)), some (.inr (.inl (some 0))), some (.inr (.inl (some 93))), some (.inl (nI i))] [] (S, I, R) = rn Ls xs (d + 160) 0 1462 [some (.inr (.inr 0)), some (.inr (.inl (some 0))), some (.inr (.inl (some 93))), some (.inl (nI i))] [] (S2, I2, R2)
theorem sl_t {k : Nat} (hL : Ls ≤ 3072) (hk : k < Ls) : (0 ≤ (nI k).toInt) ∧ ((nI k).toInt < (Ls : Int)) ∧ (nI k).toNatClampNeg = k := by
  rw [nI_toInt (by omega), nI_clamp (by omega)]
  omega
theorem lw_wreck (js : JS S I R A) (hi : i + 6 ≤ Ls) (hL : Ls ≤ 3072) : LwS Ls xs d S I R i 216 := by
  have hw := js.1
  obtain ⟨S2, I2, R2, I3, A3, v, rX, rY, js3, b1, b2, w2⟩ := join (sp := fun A => sp_wreck A (xs (i + 1)) (xs (i + 2)) (xs (i + 3)) (xs (i + 4)) (xs (i + 5))) (X := rn Ls xs (d + 159) 3 0 [some (.inr (.inl (some 0))), some (.inl (xs (i + 1))), some (.inl (xs (i + 2))), some (.inl (xs (i + 3))), some (.inl (xs (i + 4))), some (.inl (xs (i + 5)))] [] (S, I, R)) (Y := fun S2 I2 R2 => rn Ls xs (d + 159) 4 0 [some (.inr (.inl (some 93))), some (.inl (xs (i + 1))), some (.inl (xs (i + 2))), some (.inl (xs (i + 3))), some (.inl (xs (i + 4))), some (.inl (xs (i + 5)))] [] (S2, I2, R2)) js (fun A hc => (cw_wreck (Ls := Ls) (xs := xs) (d := d + 150) js.1 hc).two) (fun S2 I2 R2 A w m hc hK => by have hr := hc.g.1; exact o_M_wreck (Ls := Ls) (xs := xs) (d := d + 150) w m hr) (fun A b hb => fr_wreck hb)
  have rY : rn Ls xs (d + 159) 4 0 [some (.inr (.inl (some 93))), some (.inl (xs (i + 1))), some (.inl (xs (i + 2))), some (.inl (xs (i + 3))), some (.inl (xs (i + 4))), some (.inl (xs (i + 5)))] [] (S2, I2, R2) = some (some (.inl v), (S2, I3, R2)) := rY
  have s1 : nI i + 1 = nI (i + 1) := nI_add i 1
  obtain ⟨p1, q1, c1⟩ := sl_t (k := i + 1) hL (by omega)
  have s2 : nI i + 2 = nI (i + 2) := nI_add i 2
  obtain ⟨p2, q2, c2⟩ := sl_t (k := i + 2) hL (by omega)
  have s3 : nI i + 3 = nI (i + 3) := nI_add i 3
  obtain ⟨p3, q3, c3⟩ := sl_t (k := i + 3) hL (by omega)
  have s4 : nI i + 4 = nI (i + 4) := nI_add i 4
  obtain ⟨p4, q4, c4⟩ := sl_t (k := i + 4) hL (by omega)
  have s5 : nI i + 5 = nI (i + 5) := nI_add i 5
  obtain ⟨p5, q5, c5⟩ := sl_t (k := i + 5) hL (by omega)
  exact ⟨S2, I3, R2, A3, js3, ⟨b1, b2⟩, by simp only [e_L_law_216, e_L_law_217, e_L_law_218, e_L_law_219, e_L_law_220, e_L_law_221, e_L_law_222, e_L_law_223, e_L_law_224, e_L_law_225, e_L_law_226, e_L_law_227, e_L_law_228, e_L_law_229, e_L_law_230, e_L_law_231, e_L_law_232, e_L_law_233, e_L_law_234, e_L_law_235, e_L_law_236, e_L_law_237, e_L_law_238, e_L_law_239, e_L_law_240, e_L_law_241, e_L_law_242, e_L_law_245, e_L_law_246, e_L_law_247, e_L_law_248, e_L_law_249, e_L_law_250, e_L_law_251, e_L_law_252, e_L_law_253, e_L_law_254, e_L_law_255, e_L_law_256, e_L_law_257, e_L_law_258, e_L_law_259, e_L_law_260, e_L_law_261, e_L_law_262, e_L_law_263, e_L_law_264, e_L_law_265, e_L_law_266, e_L_law_267, e_L_law_268, e_L_law_269, e_L_law_270, e_L_law_271, e_L_law_274, e_L_law_277, e_L_law_278, s1, p1, q1, c1, s2, p2, q2, c2, s3, p3, q3, c3, s4, p4, q4, c4, s5, p5, q5, c5, is_0 hw, is_93 w2, and_self, and_true, true_and, and_false, false_and, or_true, true_or, or_false, false_or, not_true_eq_false, not_false_eq_true, if_true, if_false, ne_eq, ite_self, reduceCtorEq, i10, Decidable.not_not, Bool.and_self, Bool.and_true, Bool.true_and, rX, rb_i, rY]⟩
theorem lw_told (js : JS S I R A) (hi : i + 6 ≤ Ls) (hL : Ls ≤ 3072) : LwS Ls xs d S I R i 279 := by
  have hw := js.1
  obtain ⟨S2, I2, R2, I3, A3, v, rX, rY, js3, b1, b2, w2⟩ := join (sp := fun A => sp_told A (xs (i + 1)) (xs (i + 2))) (X := rn Ls xs (d + 159) 5 0 [some (.inr (.inl (some 0))), some (.inl (xs (i + 1))), some (.inl (xs (i + 2))), none] [] (S, I, R)) (Y := fun S2 I2 R2 => rn Ls xs (d + 159) 6 0 [some (.inr (.inl (some 93))), some (.inl (xs (i + 1))), some (.inl (xs (i + 2)))] [] (S2, I2, R2)) js (fun A hc => (cw_told (Ls := Ls) (xs := xs) (d := d + 150) js.1 hc).two) (fun S2 I2 R2 A w m hc hK => by have hr := hc.g.1; exact o_M_told (Ls := Ls) (xs := xs) (d := d + 150) w m hr) (fun A b hb => fr_told hb)
  have rY : rn Ls xs (d + 159) 6 0 [some (.inr (.inl (some 93))), some (.inl (xs (i + 1))), some (.inl (xs (i + 2)))] [] (S2, I2, R2) = some (some (.inl v), (S2, I3, R2)) := rY
  have s1 : nI i + 1 = nI (i + 1) := nI_add i 1
  obtain ⟨p1, q1, c1⟩ := sl_t (k := i + 1) hL (by omega)
  have s2 : nI i + 2 = nI (i + 2) := nI_add i 2
  obtain ⟨p2, q2, c2⟩ := sl_t (k := i + 2) hL (by omega)
  exact ⟨S2, I3, R2, A3, js3, ⟨b1, b2⟩, by simp only [e_L_law_279, e_L_law_280, e_L_law_281, e_L_law_282, e_L_law_283, e_L_law_284, e_L_law_285, e_L_law_286, e_L_law_287, e_L_law_288, e_L_law_289, e_L_law_290, e_L_law_293, e_L_law_294, e_L_law_295, e_L_law_296, e_L_law_297, e_L_law_298, e_L_law_299, e_L_law_300, e_L_law_301, e_L_law_302, e_L_law_303, e_L_law_304, e_L_law_307, e_L_law_310, e_L_law_311, s1, p1, q1, c1, s2, p2, q2, c2, is_0 hw, is_93 w2, and_self, and_true, true_and, and_false, false_and, or_true, true_or, or_false, false_or, not_true_eq_false, not_false_eq_true, if_true, if_false, ne_eq, ite_self, reduceCtorEq, i10, Decidable.not_not, Bool.and_self, Bool.and_true, Bool.true_and, rX, rb_i, rY]⟩
theorem lw_as (js : JS S I R A) (hi : i + 6 ≤ Ls) (hL : Ls ≤ 3072) : LwS Ls xs d S I R i 312 := by
  have hw := js.1
  obtain ⟨S2, I2, R2, I3, A3, v, rX, rY, js3, b1, b2, w2⟩ := join (sp := fun A => sp_as A (xs (i + 1)) (xs (i + 2))) (X := rn Ls xs (d + 159) 7 0 [some (.inr (.inl (some 0))), some (.inl (xs (i + 1))), some (.inl (xs (i + 2))), none] [] (S, I, R)) (Y := fun S2 I2 R2 => rn Ls xs (d + 159) 8 0 [some (.inr (.inl (some 93))), some (.inl (xs (i + 1))), some (.inl (xs (i + 2)))] [] (S2, I2, R2)) js (fun A hc => (cw_as (Ls := Ls) (xs := xs) (d := d + 150) js.1 hc).two) (fun S2 I2 R2 A w m hc hK => by have hr := hc.g.1; exact o_M_as (Ls := Ls) (xs := xs) (d := d + 150) w m hr) (fun A b hb => fr_as hb)
  have rY : rn Ls xs (d + 159) 8 0 [some (.inr (.inl (some 93))), some (.inl (xs (i + 1))), some (.inl (xs (i + 2)))] [] (S2, I2, R2) = some (some (.inl v), (S2, I3, R2)) := rY
  have s1 : nI i + 1 = nI (i + 1) := nI_add i 1
  obtain ⟨p1, q1, c1⟩ := sl_t (k := i + 1) hL (by omega)
  have s2 : nI i + 2 = nI (i + 2) := nI_add i 2
  obtain ⟨p2, q2, c2⟩ := sl_t (k := i + 2) hL (by omega)
  exact ⟨S2, I3, R2, A3, js3, ⟨b1, b2⟩, by simp only [e_L_law_312, e_L_law_313, e_L_law_314, e_L_law_315, e_L_law_316, e_L_law_317, e_L_law_318, e_L_law_319, e_L_law_320, e_L_law_321, e_L_law_322, e_L_law_323, e_L_law_326, e_L_law_327, e_L_law_328, e_L_law_329, e_L_law_330, e_L_law_331, e_L_law_332, e_L_law_333, e_L_law_334, e_L_law_335, e_L_law_336, e_L_law_337, e_L_law_340, e_L_law_343, e_L_law_344, s1, p1, q1, c1, s2, p2, q2, c2, is_0 hw, is_93 w2, and_self, and_true, true_and, and_false, false_and, or_true, true_or, or_false, false_or, not_true_eq_false, not_false_eq_true, if_true, if_false, ne_eq, ite_self, reduceCtorEq, i10, Decidable.not_not, Bool.and_self, Bool.and_true, Bool.true_and, rX, rb_i, rY]⟩
theorem lw_turns (js : JS S I R A) (hi : i + 6 ≤ Ls) (hL : Ls ≤ 3072) : LwS Ls xs d S I R i 345 := by
  have hw := js.1
  obtain ⟨S2, I2, R2, I3, A3, v, rX, rY, js3, b1, b2, w2⟩ := join (sp := fun A => sp_turns A (xs (i + 1)) (xs (i + 2))) (X := rn Ls xs (d + 159) 9 0 [some (.inr (.inl (some 0))), some (.inl (xs (i + 1))), some (.inl (xs (i + 2))), none, none] [] (S, I, R)) (Y := fun S2 I2 R2 => rn Ls xs (d + 159) 10 0 [some (.inr (.inl (some 93))), some (.inl (xs (i + 1))), some (.inl (xs (i + 2)))] [] (S2, I2, R2)) js (fun A hc => (cw_turns (Ls := Ls) (xs := xs) (d := d + 150) js.1 hc).two) (fun S2 I2 R2 A w m hc hK => by have hr := hc.g.1; exact o_M_turns (Ls := Ls) (xs := xs) (d := d + 150) w m hr) (fun A b hb => fr_turns hb)
  have rY : rn Ls xs (d + 159) 10 0 [some (.inr (.inl (some 93))), some (.inl (xs (i + 1))), some (.inl (xs (i + 2)))] [] (S2, I2, R2) = some (some (.inl v), (S2, I3, R2)) := rY
  have s1 : nI i + 1 = nI (i + 1) := nI_add i 1
  obtain ⟨p1, q1, c1⟩ := sl_t (k := i + 1) hL (by omega)
  have s2 : nI i + 2 = nI (i + 2) := nI_add i 2
  obtain ⟨p2, q2, c2⟩ := sl_t (k := i + 2) hL (by omega)
  exact ⟨S2, I3, R2, A3, js3, ⟨b1, b2⟩, by simp only [e_L_law_345, e_L_law_346, e_L_law_347, e_L_law_348, e_L_law_349, e_L_law_350, e_L_law_351, e_L_law_352, e_L_law_353, e_L_law_354, e_L_law_355, e_L_law_356, e_L_law_359, e_L_law_360, e_L_law_361, e_L_law_362, e_L_law_363, e_L_law_364, e_L_law_365, e_L_law_366, e_L_law_367, e_L_law_368, e_L_law_369, e_L_law_370, e_L_law_373, e_L_law_376, e_L_law_377, s1, p1, q1, c1, s2, p2, q2, c2, is_0 hw, is_93 w2, and_self, and_true, true_and, and_false, false_and, or_true, true_or, or_false, false_or, not_true_eq_false, not_false_eq_true, if_true, if_false, ne_eq, ite_self, reduceCtorEq, i10, Decidable.not_not, Bool.and_self, Bool.and_true, Bool.true_and, rX, rb_i, rY]⟩
theorem lw_set (js : JS S I R A) (hi : i + 6 ≤ Ls) (hL : Ls ≤ 3072) : LwS Ls xs d S I R i 378 := by
  have hw := js.1
  obtain ⟨S2, I2, R2, I3, A3, v, rX, rY, js3, b1, b2, w2⟩ := join (sp := fun A => sp_set A (xs (i + 1)) (xs (i + 2)) (xs (i + 3))) (X := rn Ls xs (d + 159) 11 0 [some (.inr (.inl (some 0))), some (.inl (xs (i + 1))), some (.inl (xs (i + 2))), some (.inl (xs (i + 3))), none, none] [] (S, I, R)) (Y := fun S2 I2 R2 => rn Ls xs (d + 159) 12 0 [some (.inr (.inl (some 93))), some (.inl (xs (i + 1))), some (.inl (xs (i + 2))), some (.inl (xs (i + 3)))] [] (S2, I2, R2)) js (fun A hc => (cw_set (Ls := Ls) (xs := xs) (d := d + 150) js.1 hc).two) (fun S2 I2 R2 A w m hc hK => by have hr := hc.g.1; exact o_M_set (Ls := Ls) (xs := xs) (d := d + 150) w m hr) (fun A b hb => fr_set hb)
  have rY : rn Ls xs (d + 159) 12 0 [some (.inr (.inl (some 93))), some (.inl (xs (i + 1))), some (.inl (xs (i + 2))), some (.inl (xs (i + 3)))] [] (S2, I2, R2) = some (some (.inl v), (S2, I3, R2)) := rY
  have s1 : nI i + 1 = nI (i + 1) := nI_add i 1
  obtain ⟨p1, q1, c1⟩ := sl_t (k := i + 1) hL (by omega)
  have s2 : nI i + 2 = nI (i + 2) := nI_add i 2
  obtain ⟨p2, q2, c2⟩ := sl_t (k := i + 2) hL (by omega)
  have s3 : nI i + 3 = nI (i + 3) := nI_add i 3
  obtain ⟨p3, q3, c3⟩ := sl_t (k := i + 3) hL (by omega)
  exact ⟨S2, I3, R2, A3, js3, ⟨b1, b2⟩, by simp only [e_L_law_378, e_L_law_379, e_L_law_380, e_L_law_381, e_L_law_382, e_L_law_383, e_L_law_384, e_L_law_385, e_L_law_386, e_L_law_387, e_L_law_388, e_L_law_389, e_L_law_390, e_L_law_391, e_L_law_392, e_L_law_393, e_L_law_394, e_L_law_397, e_L_law_398, e_L_law_399, e_L_law_400, e_L_law_401, e_L_law_402, e_L_law_403, e_L_law_404, e_L_law_405, e_L_law_406, e_L_law_407, e_L_law_408, e_L_law_409, e_L_law_410, e_L_law_411, e_L_law_412, e_L_law_413, e_L_law_416, e_L_law_419, e_L_law_420, s1, p1, q1, c1, s2, p2, q2, c2, s3, p3, q3, c3, is_0 hw, is_93 w2, and_self, and_true, true_and, and_false, false_and, or_true, true_or, or_false, false_or, not_true_eq_false, not_false_eq_true, if_true, if_false, ne_eq, ite_self, reduceCtorEq, i10, Decidable.not_not, Bool.and_self, Bool.and_true, Bool.true_and, rX, rb_i, rY]⟩
theorem lw_sweep (js : JS S I R A) (hi : i + 6 ≤ Ls) (hL : Ls ≤ 3072) : LwS Ls xs d S I R i 421 := by
  have hw := js.1
  obtain ⟨S2, I2, R2, I3, A3, v, rX, rY, js3, b1, b2, w2⟩ := join (sp := fun A => sp_sweep A (xs (i + 1))) (X := rn Ls xs (d + 159) 13 0 [some (.inr (.inl (some 0))), some (.inl (xs (i + 1))), none] [] (S, I, R)) (Y := fun S2 I2 R2 => rn Ls xs (d + 159) 14 0 [some (.inr (.inl (some 93))), some (.inl (xs (i + 1)))] [] (S2, I2, R2)) js (fun A hc => (cw_sweep (Ls := Ls) (xs := xs) (d := d + 150) js.1 hc).two) (fun S2 I2 R2 A w m hc hK => by have hr := hc.g.1; exact o_M_sweep (Ls := Ls) (xs := xs) (d := d + 150) w m hr) (fun A b hb => fr_sweep hb)
  have rY : rn Ls xs (d + 159) 14 0 [some (.inr (.inl (some 93))), some (.inl (xs (i + 1)))] [] (S2, I2, R2) = some (some (.inl v), (S2, I3, R2)) := rY
  have s1 : nI i + 1 = nI (i + 1) := nI_add i 1
  obtain ⟨p1, q1, c1⟩ := sl_t (k := i + 1) hL (by omega)
  exact ⟨S2, I3, R2, A3, js3, ⟨b1, b2⟩, by simp only [e_L_law_421, e_L_law_422, e_L_law_423, e_L_law_424, e_L_law_425, e_L_law_426, e_L_law_427, e_L_law_430, e_L_law_431, e_L_law_432, e_L_law_433, e_L_law_434, e_L_law_435, e_L_law_436, e_L_law_439, e_L_law_442, e_L_law_443, s1, p1, q1, c1, is_0 hw, is_93 w2, and_self, and_true, true_and, and_false, false_and, or_true, true_or, or_false, false_or, not_true_eq_false, not_false_eq_true, if_true, if_false, ne_eq, ite_self, reduceCtorEq, i10, Decidable.not_not, Bool.and_self, Bool.and_true, Bool.true_and, rX, rb_i, rY]⟩
theorem lw_drag (js : JS S I R A) (hi : i + 6 ≤ Ls) (hL : Ls ≤ 3072) : LwS Ls xs d S I R i 444 := by
  have hw := js.1
  obtain ⟨S2, I2, R2, I3, A3, v, rX, rY, js3, b1, b2, w2⟩ := join (sp := fun A => sp_drag A (xs (i + 1))) (X := rn Ls xs (d + 159) 15 0 [some (.inr (.inl (some 0))), some (.inl (xs (i + 1))), none] [] (S, I, R)) (Y := fun S2 I2 R2 => rn Ls xs (d + 159) 16 0 [some (.inr (.inl (some 93))), some (.inl (xs (i + 1)))] [] (S2, I2, R2)) js (fun A hc => (cw_drag (Ls := Ls) (xs := xs) (d := d + 150) js.1 hc).two) (fun S2 I2 R2 A w m hc hK => by exact o_M_drag (Ls := Ls) (xs := xs) (d := d + 150) w m ) (fun A b hb => fr_drag hb)
  have rY : rn Ls xs (d + 159) 16 0 [some (.inr (.inl (some 93))), some (.inl (xs (i + 1)))] [] (S2, I2, R2) = some (some (.inl v), (S2, I3, R2)) := rY
  have s1 : nI i + 1 = nI (i + 1) := nI_add i 1
  obtain ⟨p1, q1, c1⟩ := sl_t (k := i + 1) hL (by omega)
  exact ⟨S2, I3, R2, A3, js3, ⟨b1, b2⟩, by simp only [e_L_law_444, e_L_law_445, e_L_law_446, e_L_law_447, e_L_law_448, e_L_law_449, e_L_law_450, e_L_law_453, e_L_law_454, e_L_law_455, e_L_law_456, e_L_law_457, e_L_law_458, e_L_law_459, e_L_law_462, e_L_law_465, e_L_law_466, s1, p1, q1, c1, is_0 hw, is_93 w2, and_self, and_true, true_and, and_false, false_and, or_true, true_or, or_false, false_or, not_true_eq_false, not_false_eq_true, if_true, if_false, ne_eq, ite_self, reduceCtorEq, i10, Decidable.not_not, Bool.and_self, Bool.and_true, Bool.true_and, rX, rb_i, rY]⟩
theorem lw_at (js : JS S I R A) (hi : i + 6 ≤ Ls) (hL : Ls ≤ 3072) : LwS Ls xs d S I R i 467 := by
  have hw := js.1
  obtain ⟨S2, I2, R2, I3, A3, v, rX, rY, js3, b1, b2, w2⟩ := join (sp := fun A => sp_at A (xs (i + 1)) (xs (i + 2))) (X := rn Ls xs (d + 159) 17 0 [some (.inr (.inl (some 0))), some (.inl (xs (i + 1))), some (.inl (xs (i + 2))), none, none, none] [] (S, I, R)) (Y := fun S2 I2 R2 => rn Ls xs (d + 159) 18 0 [some (.inr (.inl (some 93))), some (.inl (xs (i + 1))), some (.inl (xs (i + 2)))] [] (S2, I2, R2)) js (fun A hc => (cw_at (Ls := Ls) (xs := xs) (d := d + 150) js.1 hc).two) (fun S2 I2 R2 A w m hc hK => by have hr := hc.g.1; exact o_M_at (Ls := Ls) (xs := xs) (d := d + 150) w m hr) (fun A b hb => fr_at hb)
  have rY : rn Ls xs (d + 159) 18 0 [some (.inr (.inl (some 93))), some (.inl (xs (i + 1))), some (.inl (xs (i + 2)))] [] (S2, I2, R2) = some (some (.inl v), (S2, I3, R2)) := rY
  have s1 : nI i + 1 = nI (i + 1) := nI_add i 1
  obtain ⟨p1, q1, c1⟩ := sl_t (k := i + 1) hL (by omega)
  have s2 : nI i + 2 = nI (i + 2) := nI_add i 2
  obtain ⟨p2, q2, c2⟩ := sl_t (k := i + 2) hL (by omega)
  exact ⟨S2, I3, R2, A3, js3, ⟨b1, b2⟩, by simp only [e_L_law_467, e_L_law_468, e_L_law_469, e_L_law_470, e_L_law_471, e_L_law_472, e_L_law_473, e_L_law_474, e_L_law_475, e_L_law_476, e_L_law_477, e_L_law_478, e_L_law_481, e_L_law_482, e_L_law_483, e_L_law_484, e_L_law_485, e_L_law_486, e_L_law_487, e_L_law_488, e_L_law_489, e_L_law_490, e_L_law_491, e_L_law_492, e_L_law_495, e_L_law_498, e_L_law_499, s1, p1, q1, c1, s2, p2, q2, c2, is_0 hw, is_93 w2, and_self, and_true, true_and, and_false, false_and, or_true, true_or, or_false, false_or, not_true_eq_false, not_false_eq_true, if_true, if_false, ne_eq, ite_self, reduceCtorEq, i10, Decidable.not_not, Bool.and_self, Bool.and_true, Bool.true_and, rX, rb_i, rY]⟩
theorem lw_deal (js : JS S I R A) (hi : i + 6 ≤ Ls) (hL : Ls ≤ 3072) : LwS Ls xs d S I R i 500 := by
  have hw := js.1
  obtain ⟨S2, I2, R2, I3, A3, v, rX, rY, js3, b1, b2, w2⟩ := join (sp := fun A => sp_deal A (xs (i + 1))) (X := rn Ls xs (d + 159) 19 0 [some (.inr (.inl (some 0))), some (.inl (xs (i + 1))), none, none] [] (S, I, R)) (Y := fun S2 I2 R2 => rn Ls xs (d + 159) 20 0 [some (.inr (.inl (some 93))), some (.inl (xs (i + 1))), none, none, none, none, none, none] [] (S2, I2, R2)) js (fun A hc => (cw_deal (Ls := Ls) (xs := xs) (d := d + 150) js.1 hc).two) (fun S2 I2 R2 A w m hc hK => by have hr := hc.g.1; exact o_M_deal (Ls := Ls) (xs := xs) (d := d + 150) w m hr) (fun A b hb => fr_deal hb)
  have rY : rn Ls xs (d + 159) 20 0 [some (.inr (.inl (some 93))), some (.inl (xs (i + 1))), none, none, none, none, none, none] [] (S2, I2, R2) = some (some (.inl v), (S2, I3, R2)) := rY
  have s1 : nI i + 1 = nI (i + 1) := nI_add i 1
  obtain ⟨p1, q1, c1⟩ := sl_t (k := i + 1) hL (by omega)
  exact ⟨S2, I3, R2, A3, js3, ⟨b1, b2⟩, by simp only [e_L_law_500, e_L_law_501, e_L_law_502, e_L_law_503, e_L_law_504, e_L_law_505, e_L_law_506, e_L_law_509, e_L_law_510, e_L_law_511, e_L_law_512, e_L_law_513, e_L_law_514, e_L_law_515, e_L_law_518, e_L_law_521, e_L_law_522, s1, p1, q1, c1, is_0 hw, is_93 w2, and_self, and_true, true_and, and_false, false_and, or_true, true_or, or_false, false_or, not_true_eq_false, not_false_eq_true, if_true, if_false, ne_eq, ite_self, reduceCtorEq, i10, Decidable.not_not, Bool.and_self, Bool.and_true, Bool.true_and, rX, rb_i, rY]⟩
theorem lw_seed (js : JS S I R A) (hi : i + 6 ≤ Ls) (hL : Ls ≤ 3072) : LwS Ls xs d S I R i 523 := by
  have hw := js.1
  obtain ⟨S2, I2, R2, I3, A3, v, rX, rY, js3, b1, b2, w2⟩ := join (sp := fun A => sp_seed A (xs (i + 1))) (X := rn Ls xs (d + 159) 21 0 [some (.inr (.inl (some 0))), some (.inl (xs (i + 1))), none] [] (S, I, R)) (Y := fun S2 I2 R2 => rn Ls xs (d + 159) 22 0 [some (.inr (.inl (some 93))), some (.inl (xs (i + 1)))] [] (S2, I2, R2)) js (fun A hc => (cw_seed (Ls := Ls) (xs := xs) (d := d + 150) js.1 hc).two) (fun S2 I2 R2 A w m hc hK => by exact o_M_seed (Ls := Ls) (xs := xs) (d := d + 150) w m ) (fun A b hb => fr_seed hb)
  have rY : rn Ls xs (d + 159) 22 0 [some (.inr (.inl (some 93))), some (.inl (xs (i + 1)))] [] (S2, I2, R2) = some (some (.inl v), (S2, I3, R2)) := rY
  have s1 : nI i + 1 = nI (i + 1) := nI_add i 1
  obtain ⟨p1, q1, c1⟩ := sl_t (k := i + 1) hL (by omega)
  exact ⟨S2, I3, R2, A3, js3, ⟨b1, b2⟩, by simp only [e_L_law_523, e_L_law_524, e_L_law_525, e_L_law_526, e_L_law_527, e_L_law_528, e_L_law_529, e_L_law_532, e_L_law_533, e_L_law_534, e_L_law_535, e_L_law_536, e_L_law_537, e_L_law_538, e_L_law_541, e_L_law_544, e_L_law_545, s1, p1, q1, c1, is_0 hw, is_93 w2, and_self, and_true, true_and, and_false, false_and, or_true, true_or, or_false, false_or, not_true_eq_false, not_false_eq_true, if_true, if_false, ne_eq, ite_self, reduceCtorEq, i10, Decidable.not_not, Bool.and_self, Bool.and_true, Bool.true_and, rX, rb_i, rY]⟩
theorem lw_hours (js : JS S I R A) (hi : i + 6 ≤ Ls) (hL : Ls ≤ 3072) : LwS Ls xs d S I R i 546 := by
  have hw := js.1
  obtain ⟨S2, I2, R2, I3, A3, v, rX, rY, js3, b1, b2, w2⟩ := join (sp := fun A => sp_hours A (xs (i + 1))) (X := rn Ls xs (d + 159) 23 0 [some (.inr (.inl (some 0))), some (.inl (xs (i + 1))), none] [] (S, I, R)) (Y := fun S2 I2 R2 => rn Ls xs (d + 159) 24 0 [some (.inr (.inl (some 93))), some (.inl (xs (i + 1))), none] [] (S2, I2, R2)) js (fun A hc => (cw_hours (Ls := Ls) (xs := xs) (d := d + 150) js.1 hc).two) (fun S2 I2 R2 A w m hc hK => by have hr := hc.g.1; exact o_M_hours (Ls := Ls) (xs := xs) (d := d + 150) w m hr) (fun A b hb => fr_hours hb)
  have rY : rn Ls xs (d + 159) 24 0 [some (.inr (.inl (some 93))), some (.inl (xs (i + 1))), none] [] (S2, I2, R2) = some (some (.inl v), (S2, I3, R2)) := rY
  have s1 : nI i + 1 = nI (i + 1) := nI_add i 1
  obtain ⟨p1, q1, c1⟩ := sl_t (k := i + 1) hL (by omega)
  exact ⟨S2, I3, R2, A3, js3, ⟨b1, b2⟩, by simp only [e_L_law_546, e_L_law_547, e_L_law_548, e_L_law_549, e_L_law_550, e_L_law_551, e_L_law_552, e_L_law_555, e_L_law_556, e_L_law_557, e_L_law_558, e_L_law_559, e_L_law_560, e_L_law_561, e_L_law_564, e_L_law_567, e_L_law_568, s1, p1, q1, c1, is_0 hw, is_93 w2, and_self, and_true, true_and, and_false, false_and, or_true, true_or, or_false, false_or, not_true_eq_false, not_false_eq_true, if_true, if_false, ne_eq, ite_self, reduceCtorEq, i10, Decidable.not_not, Bool.and_self, Bool.and_true, Bool.true_and, rX, rb_i, rY]⟩
end LWC

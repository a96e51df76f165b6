/-! CLASS AND REFERENCE TOGETHER -/
def JS (S : mS) (I : mI) (R : mR) (A : mI) : Prop := WF S R ∧ CR S I R A ∧ MR I A ∧ KY A
section JSS
variable {S : mS} {I I2 A A2 : mI} {R : mR} {b : Nat} {x y z u v : Int32}
theorem CR.cgA (hc : CR S I R A) (hA : ∀ b, 93 ≤ b → b ≤ 117 → A2 b = A b) : CR S I R A2 := by
  obtain ⟨h1, h2, h3, h4, h5, h6⟩ := hc
  have e93 := hA 93 (by decide) (by decide)
  exact ⟨h1.cg (fun _ _ => rfl) (hA 94 (by decide) (by decide)), h2.cg rfl (fun _ _ => rfl) (by rw [e93]) (hA 95 (by decide) (by decide)), h3.cg rfl rfl (by rw [e93]) (hA 117 (by decide) (by decide)), h4.cg rfl rfl (by rw [e93]) (hA 101 (by decide) (by decide)), shR.cg h5 (fun _ _ _ => rfl) (hA 109 (by decide) (by decide)) (hA 110 (by decide) (by decide)) (hA 111 (by decide) (by decide)), slR.cg h6 (fun _ _ _ => rfl) (hA 112 (by decide) (by decide)) (hA 113 (by decide) (by decide)) (hA 114 (by decide) (by decide)) (hA 115 (by decide) (by decide))⟩
theorem CR.cgI (hc : CR S I R A) (hI : ∀ b, (b < 93 ∨ 117 < b) → I2 b = I b) : CR S I2 R A := by
  obtain ⟨h1, h2, h3, h4, h5, h6⟩ := hc
  have e0 := hI 0 (by omega)
  exact ⟨h1.cg (fun b hb => hI b (by omega)) rfl, h2.cg (by rw [e0]) (fun b hb => hI b (by omega)) rfl rfl, h3.cg (by rw [e0]) (hI 64 (by omega)) rfl rfl, h4.cg (by rw [hI 58 (by omega)]) (hI 59 (by omega)) rfl rfl, shR.cg h5 (fun b b1 b2 => hI b (by omega)) rfl rfl rfl, slR.cg h6 (fun b b1 b2 => hI b (by omega)) rfl rfl rfl rfl⟩
/-- a call of both -/
theorem join {sp : mI → Int32 × mI} {X : Option (Option mV × mH)} {Y : mS → mI → mR → Option (Option mV × mH)} (js : JS S I R A) (hC : ∀ A, CR S I R A → COp2 S I R (sp A) X)
    (hM : ∀ S2 I2 R2 A, WF S2 R2 → MR I2 A → CR S I R A → KY A → ∃ I3, MR I3 (sp A).2 ∧ Y S2 I2 R2 = some (some (.inl (sp A).1), (S2, I3, R2)))
    (hF : ∀ A b, (b < 93 ∨ 117 < b ∨ b = 102 ∨ b = 103) → (sp A).2 b = A b) :
    ∃ S2 I2 R2 I3 A3 v, X = some (some (.inl v), (S2, I2, R2)) ∧ Y S2 I2 R2 = some (some (.inl v), (S2, I3, R2)) ∧ JS S2 I3 R2 A3 ∧ S2.2.1 ≤ S.2.1 + 2 ∧ S2.2.2 ≤ S.2.2 + 98 ∧ WF S2 R2 := by
  obtain ⟨hw, hc, hm, hk⟩ := js
  obtain ⟨S2, I2, R2, c1, c2, ⟨c3, c4, c5⟩, c6, c7⟩ := hC A hc
  obtain ⟨A1, hA1⟩ : ∃ A1 : mI, A1 = fun b => if 93 ≤ b ∧ b ≤ 117 then A b else I2 b := ⟨_, rfl⟩
  have a1 : ∀ b, 93 ≤ b → b ≤ 117 → A1 b = A b := fun b b1 b2 => by rw [hA1]; exact if_pos ⟨b1, b2⟩
  have a2 : ∀ b, (b < 93 ∨ 117 < b) → A1 b = I2 b := fun b hb => by rw [hA1]; exact if_neg (by omega)
  have hc1 := hc.cgA a1
  obtain ⟨S2', I2', R2', d1, d2, d3, d4, d5⟩ := hC A1 hc1
  rw [c7] at d5
  have e := Option.some.inj d5
  have e1 : some (Sum.inl (sp A).1) = (some (Sum.inl (sp A1).1) : Option mV) := congrArg Prod.fst e
  have e2 : (S2, I2, R2) = (S2', I2', R2') := congrArg Prod.snd e
  have e3 : S2 = S2' := congrArg Prod.fst e2
  have e4 : (I2, R2) = (I2', R2') := congrArg Prod.snd e2
  have e5 : I2 = I2' := congrArg Prod.fst e4
  have e6 : R2 = R2' := congrArg Prod.snd e4
  subst e3 e5 e6
  have m1 : MR I2 A1 := by
    obtain ⟨h1, h2, h3, h4, h5, h6, h7, h8⟩ := hm
    have i93 := c6 93 (by decide) (by decide)
    have j93 := a1 93 (by decide) (by decide)
    refine ⟨fun b b1 b2 => by rw [c6 b (by omega) (by omega), a1 b (by omega) (by omega)]; exact h1 b b1 b2, by rw [c6 101 (by decide) (by decide), a1 101 (by decide) (by decide)]; exact h2, fun b b1 b2 => by rw [c6 b (by omega) (by omega), a1 b (by omega) (by omega)]; exact h3 b b1 b2, by rw [c6 117 (by decide) (by decide), a1 117 (by decide) (by decide)]; exact h4, by rw [i93, j93]; exact h5, by rw [i93, j93]; exact h6, by rw [i93, j93]; exact h7, fun b hb => ?_⟩
    by_cases q : b < 93 ∨ 117 < b
    · rw [a2 b q]
    · rw [c6 b (by omega) (by omega), a1 b (by omega) (by omega)]
      exact h8 b (by omega)
  have k1 : KY A1 := ⟨fun k hk' => by rw [a1 102 (by decide) (by decide)]; exact hk.1 k hk', fun k hk' => by rw [a1 103 (by decide) (by decide)]; exact hk.2 k hk'⟩
  obtain ⟨I3, m3, y3⟩ := hM S2 I2 R2 A1 c2 m1 hc1 k1
  have i3 : ∀ b, (b < 93 ∨ 117 < b) → I3 b = I2 b := fun b hb => by rw [m3.2.2.2.2.2.2.2 b (by omega), hF A1 b (by omega), a2 b hb]
  refine ⟨S2, I2, R2, I3, (sp A1).2, (sp A1).1, ?_, y3, ⟨c2, d1.cgI i3, m3, ⟨fun k hk' => by rw [hF A1 102 (by omega)]; exact k1.1 k hk', fun k hk' => by rw [hF A1 103 (by omega)]; exact k1.2 k hk'⟩⟩, c4, c5, c2⟩
  rw [c7, e1]
theorem fr_wreck (hb : b < 93 ∨ 117 < b ∨ b = 102 ∨ b = 103) : (sp_wreck A x y z u v).2 b = A b := by
  unfold sp_wreck
  repeat' split
  all_goals first
    | rfl
    | (simp only [laidS]; rw [vu_n (by omega)]; done)
    | (simp only [laidS]; rw [vu_n (by omega), vu_n (by omega)]; done)
    | (simp only [laidS]; rw [vu_n (by omega), vu_n (by omega), vu_n (by omega)]; done)
    | (simp only [laidS]; rw [vu_n (by omega), vu_n (by omega), vu_n (by omega), vu_n (by omega)]; done)
theorem fr_told (hb : b < 93 ∨ 117 < b ∨ b = 102 ∨ b = 103) : (sp_told A x y).2 b = A b := by
  unfold sp_told
  repeat' split
  all_goals first
    | rfl
    | (simp only [laidS]; rw [vu_n (by omega)]; done)
    | (simp only [laidS]; rw [vu_n (by omega), vu_n (by omega)]; done)
    | (simp only [laidS]; rw [vu_n (by omega), vu_n (by omega), vu_n (by omega)]; done)
    | (simp only [laidS]; rw [vu_n (by omega), vu_n (by omega), vu_n (by omega), vu_n (by omega)]; done)
theorem fr_as (hb : b < 93 ∨ 117 < b ∨ b = 102 ∨ b = 103) : (sp_as A x y).2 b = A b := by
  unfold sp_as
  repeat' split
  all_goals first
    | rfl
    | (simp only [laidS]; rw [vu_n (by omega)]; done)
    | (simp only [laidS]; rw [vu_n (by omega), vu_n (by omega)]; done)
    | (simp only [laidS]; rw [vu_n (by omega), vu_n (by omega), vu_n (by omega)]; done)
    | (simp only [laidS]; rw [vu_n (by omega), vu_n (by omega), vu_n (by omega), vu_n (by omega)]; done)
theorem fr_turns (hb : b < 93 ∨ 117 < b ∨ b = 102 ∨ b = 103) : (sp_turns A x y).2 b = A b := by
  unfold sp_turns
  repeat' split
  all_goals first
    | rfl
    | (simp only [laidS]; rw [vu_n (by omega)]; done)
    | (simp only [laidS]; rw [vu_n (by omega), vu_n (by omega)]; done)
    | (simp only [laidS]; rw [vu_n (by omega), vu_n (by omega), vu_n (by omega)]; done)
    | (simp only [laidS]; rw [vu_n (by omega), vu_n (by omega), vu_n (by omega), vu_n (by omega)]; done)
theorem fr_set (hb : b < 93 ∨ 117 < b ∨ b = 102 ∨ b = 103) : (sp_set A x y z).2 b = A b := by
  unfold sp_set
  repeat' split
  all_goals first
    | rfl
    | (simp only [laidS]; rw [vu_n (by omega)]; done)
    | (simp only [laidS]; rw [vu_n (by omega), vu_n (by omega)]; done)
    | (simp only [laidS]; rw [vu_n (by omega), vu_n (by omega), vu_n (by omega)]; done)
    | (simp only [laidS]; rw [vu_n (by omega), vu_n (by omega), vu_n (by omega), vu_n (by omega)]; done)
theorem fr_sweep (hb : b < 93 ∨ 117 < b ∨ b = 102 ∨ b = 103) : (sp_sweep A x).2 b = A b := by
  unfold sp_sweep
  repeat' split
  all_goals first
    | rfl
    | (simp only [laidS]; rw [vu_n (by omega)]; done)
    | (simp only [laidS]; rw [vu_n (by omega), vu_n (by omega)]; done)
    | (simp only [laidS]; rw [vu_n (by omega), vu_n (by omega), vu_n (by omega)]; done)
    | (simp only [laidS]; rw [vu_n (by omega), vu_n (by omega), vu_n (by omega), vu_n (by omega)]; done)
theorem fr_drag (hb : b < 93 ∨ 117 < b ∨ b = 102 ∨ b = 103) : (sp_drag A x).2 b = A b := by
  unfold sp_drag
  repeat' split
  all_goals first
    | rfl
    | (simp only [laidS]; rw [vu_n (by omega)]; done)
    | (simp only [laidS]; rw [vu_n (by omega), vu_n (by omega)]; done)
    | (simp only [laidS]; rw [vu_n (by omega), vu_n (by omega), vu_n (by omega)]; done)
    | (simp only [laidS]; rw [vu_n (by omega), vu_n (by omega), vu_n (by omega), vu_n (by omega)]; done)
theorem fr_at (hb : b < 93 ∨ 117 < b ∨ b = 102 ∨ b = 103) : (sp_at A x y).2 b = A b := by
  unfold sp_at
  repeat' split
  all_goals first
    | rfl
    | (simp only [laidS]; rw [vu_n (by omega)]; done)
    | (simp only [laidS]; rw [vu_n (by omega), vu_n (by omega)]; done)
    | (simp only [laidS]; rw [vu_n (by omega), vu_n (by omega), vu_n (by omega)]; done)
    | (simp only [laidS]; rw [vu_n (by omega), vu_n (by omega), vu_n (by omega), vu_n (by omega)]; done)
theorem fr_deal (hb : b < 93 ∨ 117 < b ∨ b = 102 ∨ b = 103) : (sp_deal A x).2 b = A b := by
  unfold sp_deal
  repeat' split
  all_goals first
    | rfl
    | (simp only [laidS]; rw [vu_n (by omega)]; done)
    | (simp only [laidS]; rw [vu_n (by omega), vu_n (by omega)]; done)
    | (simp only [laidS]; rw [vu_n (by omega), vu_n (by omega), vu_n (by omega)]; done)
    | (simp only [laidS]; rw [vu_n (by omega), vu_n (by omega), vu_n (by omega), vu_n (by omega)]; done)
theorem fr_seed (hb : b < 93 ∨ 117 < b ∨ b = 102 ∨ b = 103) : (sp_seed A x).2 b = A b := by
  unfold sp_seed
  repeat' split
  all_goals first
    | rfl
    | (simp only [laidS]; rw [vu_n (by omega)]; done)
    | (simp only [laidS]; rw [vu_n (by omega), vu_n (by omega)]; done)
    | (simp only [laidS]; rw [vu_n (by omega), vu_n (by omega), vu_n (by omega)]; done)
    | (simp only [laidS]; rw [vu_n (by omega), vu_n (by omega), vu_n (by omega), vu_n (by omega)]; done)
theorem fr_hours (hb : b < 93 ∨ 117 < b ∨ b = 102 ∨ b = 103) : (sp_hours A x).2 b = A b := by
  unfold sp_hours
  repeat' split
  all_goals first
    | rfl
    | (simp only [laidS]; rw [vu_n (by omega)]; done)
    | (simp only [laidS]; rw [vu_n (by omega), vu_n (by omega)]; done)
    | (simp only [laidS]; rw [vu_n (by omega), vu_n (by omega), vu_n (by omega)]; done)
    | (simp only [laidS]; rw [vu_n (by omega), vu_n (by omega), vu_n (by omega), vu_n (by omega)]; done)
theorem fr_sky (hb : b < 93 ∨ 117 < b ∨ b = 102 ∨ b = 103) : (sp_sky A x).2 b = A b := by
  unfold sp_sky
  repeat' split
  all_goals first
    | rfl
    | (simp only [laidS]; rw [vu_n (by omega)]; done)
    | (simp only [laidS]; rw [vu_n (by omega), vu_n (by omega)]; done)
    | (simp only [laidS]; rw [vu_n (by omega), vu_n (by omega), vu_n (by omega)]; done)
    | (simp only [laidS]; rw [vu_n (by omega), vu_n (by omega), vu_n (by omega), vu_n (by omega)]; done)
theorem fr_behind (hb : b < 93 ∨ 117 < b ∨ b = 102 ∨ b = 103) : (sp_behind A x y).2 b = A b := by
  unfold sp_behind
  repeat' split
  all_goals first
    | rfl
    | (simp only [laidS]; rw [vu_n (by omega)]; done)
    | (simp only [laidS]; rw [vu_n (by omega), vu_n (by omega)]; done)
    | (simp only [laidS]; rw [vu_n (by omega), vu_n (by omega), vu_n (by omega)]; done)
    | (simp only [laidS]; rw [vu_n (by omega), vu_n (by omega), vu_n (by omega), vu_n (by omega)]; done)
theorem fr_first (hb : b < 93 ∨ 117 < b ∨ b = 102 ∨ b = 103) : (sp_first A ).2 b = A b := by
  unfold sp_first
  repeat' split
  all_goals first
    | rfl
    | (simp only [laidS]; rw [vu_n (by omega)]; done)
    | (simp only [laidS]; rw [vu_n (by omega), vu_n (by omega)]; done)
    | (simp only [laidS]; rw [vu_n (by omega), vu_n (by omega), vu_n (by omega)]; done)
    | (simp only [laidS]; rw [vu_n (by omega), vu_n (by omega), vu_n (by omega), vu_n (by omega)]; done)
theorem fr_hole (hb : b < 93 ∨ 117 < b ∨ b = 102 ∨ b = 103) : (sp_hole A x).2 b = A b := by
  unfold sp_hole
  repeat' split
  all_goals first
    | rfl
    | (simp only [laidS]; rw [vu_n (by omega)]; done)
    | (simp only [laidS]; rw [vu_n (by omega), vu_n (by omega)]; done)
    | (simp only [laidS]; rw [vu_n (by omega), vu_n (by omega), vu_n (by omega)]; done)
    | (simp only [laidS]; rw [vu_n (by omega), vu_n (by omega), vu_n (by omega), vu_n (by omega)]; done)
theorem fr_open (hb : b < 93 ∨ 117 < b ∨ b = 102 ∨ b = 103) : (sp_open A x).2 b = A b := by
  unfold sp_open
  repeat' split
  all_goals first
    | rfl
    | (simp only [laidS]; rw [vu_n (by omega)]; done)
    | (simp only [laidS]; rw [vu_n (by omega), vu_n (by omega)]; done)
    | (simp only [laidS]; rw [vu_n (by omega), vu_n (by omega), vu_n (by omega)]; done)
    | (simp only [laidS]; rw [vu_n (by omega), vu_n (by omega), vu_n (by omega), vu_n (by omega)]; done)
theorem fr_best (hb : b < 93 ∨ 117 < b ∨ b = 102 ∨ b = 103) : (sp_best A x y).2 b = A b := by
  unfold sp_best
  repeat' split
  all_goals first
    | rfl
    | (simp only [laidS]; rw [vu_n (by omega)]; done)
    | (simp only [laidS]; rw [vu_n (by omega), vu_n (by omega)]; done)
    | (simp only [laidS]; rw [vu_n (by omega), vu_n (by omega), vu_n (by omega)]; done)
    | (simp only [laidS]; rw [vu_n (by omega), vu_n (by omega), vu_n (by omega), vu_n (by omega)]; done)
theorem fr_push (hb : b < 93 ∨ 117 < b ∨ b = 102 ∨ b = 103) : (sp_push A x y z).2 b = A b := by
  unfold sp_push
  repeat' split
  all_goals first
    | rfl
    | (simp only [laidS]; rw [vu_n (by omega)]; done)
    | (simp only [laidS]; rw [vu_n (by omega), vu_n (by omega)]; done)
    | (simp only [laidS]; rw [vu_n (by omega), vu_n (by omega), vu_n (by omega)]; done)
    | (simp only [laidS]; rw [vu_n (by omega), vu_n (by omega), vu_n (by omega), vu_n (by omega)]; done)
theorem fr_under (hb : b < 93 ∨ 117 < b ∨ b = 102 ∨ b = 103) : (sp_under A x y).2 b = A b := by
  unfold sp_under
  repeat' split
  all_goals first
    | rfl
    | (simp only [laidS]; rw [vu_n (by omega)]; done)
    | (simp only [laidS]; rw [vu_n (by omega), vu_n (by omega)]; done)
    | (simp only [laidS]; rw [vu_n (by omega), vu_n (by omega), vu_n (by omega)]; done)
    | (simp only [laidS]; rw [vu_n (by omega), vu_n (by omega), vu_n (by omega), vu_n (by omega)]; done)
theorem fr_nearest (hb : b < 93 ∨ 117 < b ∨ b = 102 ∨ b = 103) : (sp_nearest A x y).2 b = A b := by
  unfold sp_nearest
  repeat' split
  all_goals first
    | rfl
    | (simp only [laidS]; rw [vu_n (by omega)]; done)
    | (simp only [laidS]; rw [vu_n (by omega), vu_n (by omega)]; done)
    | (simp only [laidS]; rw [vu_n (by omega), vu_n (by omega), vu_n (by omega)]; done)
    | (simp only [laidS]; rw [vu_n (by omega), vu_n (by omega), vu_n (by omega), vu_n (by omega)]; done)
theorem fr_seen (hb : b < 93 ∨ 117 < b ∨ b = 102 ∨ b = 103) : (sp_seen A x y).2 b = A b := by
  unfold sp_seen
  repeat' split
  all_goals first
    | rfl
    | (simp only [laidS]; rw [vu_n (by omega)]; done)
    | (simp only [laidS]; rw [vu_n (by omega), vu_n (by omega)]; done)
    | (simp only [laidS]; rw [vu_n (by omega), vu_n (by omega), vu_n (by omega)]; done)
    | (simp only [laidS]; rw [vu_n (by omega), vu_n (by omega), vu_n (by omega), vu_n (by omega)]; done)
theorem fr_fee (hb : b < 93 ∨ 117 < b ∨ b = 102 ∨ b = 103) : (sp_fee A ).2 b = A b := by
  unfold sp_fee
  repeat' split
  all_goals first
    | rfl
    | (simp only [laidS]; rw [vu_n (by omega)]; done)
    | (simp only [laidS]; rw [vu_n (by omega), vu_n (by omega)]; done)
    | (simp only [laidS]; rw [vu_n (by omega), vu_n (by omega), vu_n (by omega)]; done)
    | (simp only [laidS]; rw [vu_n (by omega), vu_n (by omega), vu_n (by omega), vu_n (by omega)]; done)
theorem fr_fine (hb : b < 93 ∨ 117 < b ∨ b = 102 ∨ b = 103) : (sp_fine A x).2 b = A b := by
  unfold sp_fine
  repeat' split
  all_goals first
    | rfl
    | (simp only [laidS]; rw [vu_n (by omega)]; done)
    | (simp only [laidS]; rw [vu_n (by omega), vu_n (by omega)]; done)
    | (simp only [laidS]; rw [vu_n (by omega), vu_n (by omega), vu_n (by omega)]; done)
    | (simp only [laidS]; rw [vu_n (by omega), vu_n (by omega), vu_n (by omega), vu_n (by omega)]; done)
theorem fr_feed (hb : b < 93 ∨ 117 < b ∨ b = 102 ∨ b = 103) : (sp_feed A x y z).2 b = A b := by
  unfold sp_feed
  repeat' split
  all_goals first
    | rfl
    | (simp only [laidS]; rw [vu_n (by omega)]; done)
    | (simp only [laidS]; rw [vu_n (by omega), vu_n (by omega)]; done)
    | (simp only [laidS]; rw [vu_n (by omega), vu_n (by omega), vu_n (by omega)]; done)
    | (simp only [laidS]; rw [vu_n (by omega), vu_n (by omega), vu_n (by omega), vu_n (by omega)]; done)
theorem fr_trim (hb : b < 93 ∨ 117 < b ∨ b = 102 ∨ b = 103) : (sp_trim A x).2 b = A b := by
  unfold sp_trim
  repeat' split
  all_goals first
    | rfl
    | (simp only [laidS]; rw [vu_n (by omega)]; done)
    | (simp only [laidS]; rw [vu_n (by omega), vu_n (by omega)]; done)
    | (simp only [laidS]; rw [vu_n (by omega), vu_n (by omega), vu_n (by omega)]; done)
    | (simp only [laidS]; rw [vu_n (by omega), vu_n (by omega), vu_n (by omega), vu_n (by omega)]; done)
theorem fr_text (hb : b < 93 ∨ 117 < b ∨ b = 102 ∨ b = 103) : (sp_text A).2 b = A b := by
  unfold sp_text
  split
  · show va_up A 93 _ b = A b
    rw [vu_n (by omega)]
  · split
    · show va_up A 93 _ b = A b
      rw [vu_n (by omega)]
    · show va_up (va_up A 93 _) 94 _ b = A b
      rw [vu_n (by omega), vu_n (by omega)]
theorem fr_textTold (hb : b < 93 ∨ 117 < b ∨ b = 102 ∨ b = 103) : (sp_textTold A x y).2 b = A b := by
  unfold sp_textTold
  repeat' split
  all_goals first
    | rfl
    | (simp only [laidS]; rw [vu_n (by omega)]; done)
    | (simp only [laidS]; rw [vu_n (by omega), vu_n (by omega)]; done)
    | (simp only [laidS]; rw [vu_n (by omega), vu_n (by omega), vu_n (by omega)]; done)
    | (simp only [laidS]; rw [vu_n (by omega), vu_n (by omega), vu_n (by omega), vu_n (by omega)]; done)
theorem fr_why (hb : b < 93 ∨ 117 < b ∨ b = 102 ∨ b = 103) : (sp_why A x).2 b = A b := by
  unfold sp_why
  repeat' split
  all_goals first
    | rfl
    | (simp only [laidS]; rw [vu_n (by omega)]; done)
    | (simp only [laidS]; rw [vu_n (by omega), vu_n (by omega)]; done)
    | (simp only [laidS]; rw [vu_n (by omega), vu_n (by omega), vu_n (by omega)]; done)
    | (simp only [laidS]; rw [vu_n (by omega), vu_n (by omega), vu_n (by omega), vu_n (by omega)]; done)
theorem fr_sheet (hb : b < 93 ∨ 117 < b ∨ b = 102 ∨ b = 103) : (sp_sheet A x y z).2 b = A b := by
  unfold sp_sheet
  repeat' split
  all_goals first
    | rfl
    | (simp only [laidS]; rw [vu_n (by omega)]; done)
    | (simp only [laidS]; rw [vu_n (by omega), vu_n (by omega)]; done)
    | (simp only [laidS]; rw [vu_n (by omega), vu_n (by omega), vu_n (by omega)]; done)
    | (simp only [laidS]; rw [vu_n (by omega), vu_n (by omega), vu_n (by omega), vu_n (by omega)]; done)
theorem fr_mark (hb : b < 93 ∨ 117 < b ∨ b = 102 ∨ b = 103) : (sp_mark A x y z).2 b = A b := by
  unfold sp_mark
  repeat' split
  all_goals first
    | rfl
    | (simp only [laidS]; rw [vu_n (by omega)]; done)
    | (simp only [laidS]; rw [vu_n (by omega), vu_n (by omega)]; done)
    | (simp only [laidS]; rw [vu_n (by omega), vu_n (by omega), vu_n (by omega)]; done)
    | (simp only [laidS]; rw [vu_n (by omega), vu_n (by omega), vu_n (by omega), vu_n (by omega)]; done)
theorem fr_pour (hb : b < 93 ∨ 117 < b ∨ b = 102 ∨ b = 103) : (sp_pour A x).2 b = A b := by
  unfold sp_pour
  repeat' split
  all_goals first
    | rfl
    | (simp only [laidS]; rw [vu_n (by omega)]; done)
    | (simp only [laidS]; rw [vu_n (by omega), vu_n (by omega)]; done)
    | (simp only [laidS]; rw [vu_n (by omega), vu_n (by omega), vu_n (by omega)]; done)
    | (simp only [laidS]; rw [vu_n (by omega), vu_n (by omega), vu_n (by omega), vu_n (by omega)]; done)
theorem fr_reads (hb : b < 93 ∨ 117 < b ∨ b = 102 ∨ b = 103) : (sp_reads A x).2 b = A b := by
  unfold sp_reads
  repeat' split
  all_goals first
    | rfl
    | (simp only [laidS]; rw [vu_n (by omega)]; done)
    | (simp only [laidS]; rw [vu_n (by omega), vu_n (by omega)]; done)
    | (simp only [laidS]; rw [vu_n (by omega), vu_n (by omega), vu_n (by omega)]; done)
    | (simp only [laidS]; rw [vu_n (by omega), vu_n (by omega), vu_n (by omega), vu_n (by omega)]; done)
theorem fr_copy (hb : b < 93 ∨ 117 < b ∨ b = 102 ∨ b = 103) : (sp_copy A x y z u v).2 b = A b := by
  unfold sp_copy
  repeat' split
  all_goals first
    | rfl
    | (simp only [laidS]; rw [vu_n (by omega)]; done)
    | (simp only [laidS]; rw [vu_n (by omega), vu_n (by omega)]; done)
    | (simp only [laidS]; rw [vu_n (by omega), vu_n (by omega), vu_n (by omega)]; done)
    | (simp only [laidS]; rw [vu_n (by omega), vu_n (by omega), vu_n (by omega), vu_n (by omega)]; done)
theorem fr_lay (hb : b < 93 ∨ 117 < b ∨ b = 102 ∨ b = 103) : (sp_lay A x y z).2 b = A b := by
  unfold sp_lay
  repeat' split
  all_goals first
    | rfl
    | (simp only [laidS]; rw [vu_n (by omega)]; done)
    | (simp only [laidS]; rw [vu_n (by omega), vu_n (by omega)]; done)
    | (simp only [laidS]; rw [vu_n (by omega), vu_n (by omega), vu_n (by omega)]; done)
    | (simp only [laidS]; rw [vu_n (by omega), vu_n (by omega), vu_n (by omega), vu_n (by omega)]; done)
theorem fr_ask (hb : b < 93 ∨ 117 < b ∨ b = 102 ∨ b = 103) : (sp_ask A x y).2 b = A b := by
  unfold sp_ask
  repeat' split
  all_goals first
    | rfl
    | (simp only [laidS]; rw [vu_n (by omega)]; done)
    | (simp only [laidS]; rw [vu_n (by omega), vu_n (by omega)]; done)
    | (simp only [laidS]; rw [vu_n (by omega), vu_n (by omega), vu_n (by omega)]; done)
    | (simp only [laidS]; rw [vu_n (by omega), vu_n (by omega), vu_n (by omega), vu_n (by omega)]; done)
theorem fr_item (hb : b < 93 ∨ 117 < b ∨ b = 102 ∨ b = 103) : (sp_item A x y).2 b = A b := by
  unfold sp_item
  repeat' split
  all_goals first
    | rfl
    | (simp only [laidS]; rw [vu_n (by omega)]; done)
    | (simp only [laidS]; rw [vu_n (by omega), vu_n (by omega)]; done)
    | (simp only [laidS]; rw [vu_n (by omega), vu_n (by omega), vu_n (by omega)]; done)
    | (simp only [laidS]; rw [vu_n (by omega), vu_n (by omega), vu_n (by omega), vu_n (by omega)]; done)
theorem fr_rest (hb : b < 93 ∨ 117 < b ∨ b = 102 ∨ b = 103) : (sp_rest A x y).2 b = A b := by
  unfold sp_rest
  repeat' split
  all_goals first
    | rfl
    | (simp only [laidS]; rw [vu_n (by omega)]; done)
    | (simp only [laidS]; rw [vu_n (by omega), vu_n (by omega)]; done)
    | (simp only [laidS]; rw [vu_n (by omega), vu_n (by omega), vu_n (by omega)]; done)
    | (simp only [laidS]; rw [vu_n (by omega), vu_n (by omega), vu_n (by omega), vu_n (by omega)]; done)
theorem fr_tell (hb : b < 93 ∨ 117 < b ∨ b = 102 ∨ b = 103) : (sp_tell A x).2 b = A b := by
  unfold sp_tell
  repeat' split
  all_goals first
    | rfl
    | (simp only [laidS]; rw [vu_n (by omega)]; done)
    | (simp only [laidS]; rw [vu_n (by omega), vu_n (by omega)]; done)
    | (simp only [laidS]; rw [vu_n (by omega), vu_n (by omega), vu_n (by omega)]; done)
    | (simp only [laidS]; rw [vu_n (by omega), vu_n (by omega), vu_n (by omega), vu_n (by omega)]; done)
theorem fr_check (hb : b < 93 ∨ 117 < b ∨ b = 102 ∨ b = 103) : (sp_check A x).2 b = A b := by
  unfold sp_check
  repeat' split
  all_goals first
    | rfl
    | (simp only [laidS]; rw [vu_n (by omega)]; done)
    | (simp only [laidS]; rw [vu_n (by omega), vu_n (by omega)]; done)
    | (simp only [laidS]; rw [vu_n (by omega), vu_n (by omega), vu_n (by omega)]; done)
    | (simp only [laidS]; rw [vu_n (by omega), vu_n (by omega), vu_n (by omega), vu_n (by omega)]; done)
theorem fr_keep (hb : b < 93 ∨ 117 < b ∨ b = 102 ∨ b = 103) : (sp_keep A ).2 b = A b := by
  unfold sp_keep
  repeat' split
  all_goals first
    | rfl
    | (simp only [laidS]; rw [vu_n (by omega)]; done)
    | (simp only [laidS]; rw [vu_n (by omega), vu_n (by omega)]; done)
    | (simp only [laidS]; rw [vu_n (by omega), vu_n (by omega), vu_n (by omega)]; done)
    | (simp only [laidS]; rw [vu_n (by omega), vu_n (by omega), vu_n (by omega), vu_n (by omega)]; done)
theorem fr_back (hb : b < 93 ∨ 117 < b ∨ b = 102 ∨ b = 103) : (sp_back A ).2 b = A b := by
  unfold sp_back
  repeat' split
  all_goals first
    | rfl
    | (simp only [laidS]; rw [vu_n (by omega)]; done)
    | (simp only [laidS]; rw [vu_n (by omega), vu_n (by omega)]; done)
    | (simp only [laidS]; rw [vu_n (by omega), vu_n (by omega), vu_n (by omega)]; done)
    | (simp only [laidS]; rw [vu_n (by omega), vu_n (by omega), vu_n (by omega), vu_n (by omega)]; done)
theorem fr_count (hb : b < 93 ∨ 117 < b ∨ b = 102 ∨ b = 103) : (sp_count A x).2 b = A b := by
  unfold sp_count
  repeat' split
  all_goals first
    | rfl
    | (simp only [laidS]; rw [vu_n (by omega)]; done)
    | (simp only [laidS]; rw [vu_n (by omega), vu_n (by omega)]; done)
    | (simp only [laidS]; rw [vu_n (by omega), vu_n (by omega), vu_n (by omega)]; done)
    | (simp only [laidS]; rw [vu_n (by omega), vu_n (by omega), vu_n (by omega), vu_n (by omega)]; done)
end JSS

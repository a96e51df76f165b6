/-! TEXTS: the reference reads as rd does -/
def MF (S : mS) (R : mR) (I : mI) (T : Nat → Int32) (n j : Nat) (X : Option (Option mV × mH)) : Prop := ∃ I2, MH I I2 ∧ I2 93 11 = nI (tA T n j) ∧ X = some (some (.inl 0), (S, I2, R))
def tsok (o : Nat) (ts : Nat → Int32) : Prop := ∀ k, k ≤ o → ts k = 0 ∨ ts k = 1
/-- what a level gives -/
def LR (Ls : Nat) (xs : Nat → Int32) (d : Nat) (S : mS) (R : mR) (T : Nat → Int32) (n key lev o : Nat) (I : mI) (W C : List Int32) (ts : Nat → Int32) (X : Option (Option mV × mH)) : rR → Prop
  | .inl j => MF S R I T n j X
  | .inr (j, E) => ∃ I2 P Q ts2 l42, PS I2 T n key j (P ++ W) (C ++ Q) ts2 ∧ MH I I2 ∧ Q ++ P = E ∧ (∀ w ∈ P, isB w ∧ lev + 1 ≤ rk w) ∧ tsok o ts2 ∧ (∀ k, k < o → ts2 k = ts k) ∧ (3 ≤ lev → ts2 o = ts o) ∧ (∀ l, jn (tk T n key j) l = true → l < lev ∨ (l = 2 ∧ ts2 o = 1)) ∧ X = HD Ls xs d S R I2 0 (P ++ W) l42
def PR (Ls : Nat) (xs : Nat → Int32) (d : Nat) (S : mS) (R : mR) (T : Nat → Int32) (n key o : Nat) (I : mI) (W C : List Int32) (ts : Nat → Int32) (X : Option (Option mV × mH)) : rR → Prop
  | .inl j => MF S R I T n j X
  | .inr (j, E) => ∃ I2 ts2 l42, PS I2 T n key j (stl 6 W (C ++ E)).1 (stl 6 W (C ++ E)).2 ts2 ∧ MH I I2 ∧ tsok o ts2 ∧ (∀ k, k ≤ o → ts2 k = ts k) ∧ X = HD Ls xs d S R I2 0 (stl 6 W (C ++ E)).1 l42
theorem tsS_ok (s t : Int32) : tsS s t = 0 ∨ tsS s t = 1 := by
  unfold tsS
  split
  · exact Or.inr rfl
  · split
    · exact Or.inr rfl
    · exact Or.inl rfl
section MRD
variable {Ls : Nat} {xs : Nat → Int32} {d : Nat} {S : mS} {I I2 I3 : mI} {R : mR} {T : Nat → Int32} {n i key : Nat} {W C : List Int32} {ts : Nat → Int32} {X X2 : Option (Option mV × mH)}
theorem jn_rk {j l : Nat} (h : jn (tk T n key j) l = true) : (tk T n key j).1 = 5 ∧ rk (tk T n key j).2 = l + 1 ∧ isB (tk T n key j).2 ∧ l ≤ 4 := by
  obtain ⟨h1, h2⟩ := of_decide_eq_true h
  have sn := sgT_5.mp h1
  have sv := sgT_v h1
  have c0 : tC T n j = 0 := Classical.byContradiction (fun q => (tk_ns (key := key) q).2.2.2 h1)
  rw [sv] at h2 ⊢
  unfold sgT at sn h2 ⊢
  rw [if_pos c0] at sn h2 ⊢
  obtain ⟨q1, q2, q3⟩ := lv_rk _ sn
  exact ⟨h1, by rw [q1, h2], q2, by omega⟩
theorem MF.tr {j : Nat} (hf : MH I I2) (h : MF S R I2 T n j X) : MF S R I T n j X := by
  obtain ⟨I3, h1, h2, h3⟩ := h
  exact ⟨I3, hf.trans' h1, h2, h3⟩
theorem MF.of {j : Nat} (hs : PS I T n key j W C ts) (h : X = some (some (.inl 0), (S, I, R))) : MF S R I T n j X := ⟨I, MH.rfl', hs.1.2.1.2.1, h⟩
theorem ctx_m {a b : Nat} (h : ctx a W) (hab : a ≤ b) : ctx b W := by
  cases W with
  | nil => trivial
  | cons w W =>
    rcases h with q | q
    · exact Or.inl q
    · exact Or.inr ⟨q.1, by have := q.2; omega⟩
theorem l_mlev (h : WF S R) {f lev o nn m : Nat} (hl : lev < 5) (ho : o ≤ 8) (hm : m = if lev = 2 then 1 else 96) (cx : ctx lev W) (cW : cnt (-11) W = o) (cN : cnt (-10) W = nn)
    (ih : ∀ (i : Nat) (I : mI) (W C : List Int32) (ts : Nat → Int32) (l4 : Option mV), PS I T n key i W C ts → cnt (-11) W = o → cnt (-10) W = nn → ctx (lev + 1) W → (lev + 1 ≤ 2 → ts o = 0) → tsok o ts → LR Ls xs d S R T n key (lev + 1) o I W C ts (HD Ls xs d S R I 1 W l4) (rd (tk T n key) f (lev + 1) o nn i)) :
    ∀ (k it j : Nat) (I : mI) (P Q : List Int32) (ts : Nat → Int32) (l4 : Option mV), it + k = m → PS I T n key j (P ++ W) (C ++ Q) ts → (∀ w ∈ P, isB w ∧ lev + 1 ≤ rk w) → tsok o ts → (lev = 2 → it = 0 → ts o = 0) → (lev = 2 → it = 1 → ts o = 1) → (∀ l, jn (tk T n key j) l = true → l < lev + 1 ∨ (l = 2 ∧ ts o = 1)) → 2 * it + 1 ≤ j → LR Ls xs d S R T n key lev o I W C ts (HD Ls xs d S R I 0 (P ++ W) l4) (rdl (tk T n key) lev (fun k => rd (tk T n key) f (lev + 1) o nn k) k j (Q ++ P)) := by
  intro k
  induction k with
  | zero =>
    intro it j I P Q ts l4 hit hs hP hts e0 e1 hj hij
    refine ⟨I, P, Q, ts, l4, hs, MH.rfl', rfl, hP, hts, fun _ _ => rfl, fun _ => rfl, fun l hjl => ?_, rfl⟩
    have j96 := hs.2.2.2.2.2.2.1
    by_cases h2 : lev = 2
    · rw [if_pos h2] at hm
      rcases hj l hjl with q | q
      · by_cases ql : l = lev
        · exact Or.inr ⟨by omega, e1 h2 (by omega)⟩
        · exact Or.inl (by omega)
      · exact Or.inr q
    · rw [if_neg h2] at hm
      omega
  | succ k ihk =>
    intro it j I P Q ts l4 hit hs hP hts e0 e1 hj hij
    unfold rdl
    by_cases hjn : jn (tk T n key j) lev = true
    · rw [if_pos hjn]
      obtain ⟨k5, rks, isb, -⟩ := jn_rk hjn
      have hPB : ∀ w ∈ P, isB w := fun w hw => (hP w hw).1
      have c11 : cnt (-11) (P ++ W) = o := by rw [cnt_app, cnt_P (Or.inr rfl) P hPB, cW]; omega
      have c10 : cnt (-10) (P ++ W) = nn := by rw [cnt_app, cnt_P (Or.inl rfl) P hPB, cN]; omega
      have hst : stl (rk (tk T n key j).2) (P ++ W) (C ++ Q) = (W, C ++ Q ++ P) := by
        rw [rks, stl_P P W _ hP, stl_ctx cx (by omega)]
      have ht : rk (tk T n key j).2 = 3 → ts (cnt (-11) (P ++ W)) = 0 := by
        intro q
        have h2 : lev = 2 := by omega
        rw [if_pos h2] at hm
        rw [c11]
        exact e0 h2 (by omega)
      obtain ⟨I2, g1, g2, r2⟩ := n_bin (Ls := Ls) (xs := xs) (d := d) (l4 := l4) h hs k5 (by omega) ht (by rw [hst, c10, cN])
      rw [hst, c11] at g1
      rw [hst] at r2
      have tso : tsok o (upd ts o (tsS (tk T n key j).2 (ts o))) := by
        intro q hq
        by_cases z : q = o
        · rw [z, up_s]; exact tsS_ok _ _
        · rw [up_n z]; exact hts q hq
      have iq := ih (j + 1) I2 ((tk T n key j).2 :: W) (C ++ Q ++ P) (upd ts o (tsS (tk T n key j).2 (ts o))) (some (.inl (tk T n key j).2)) g1 (by
          show (if (tk T n key j).2 = -11 then 1 else 0) + cnt (-11) W = o
          rw [if_neg isb.2.2, cW]; omega) (by
          show (if (tk T n key j).2 = -10 then 1 else 0) + cnt (-10) W = nn
          rw [if_neg isb.2.1, cN]; omega) (Or.inr ⟨isb, by omega⟩) (fun q => by
          rw [up_s]
          unfold tsS
          rw [if_neg (by omega), if_neg (by omega)]) tso
      cases hx : rd (tk T n key) f (lev + 1) o nn (j + 1) with
      | inl x =>
        rw [hx] at iq
        show MF S R I T n x _
        rw [r2]
        exact MF.tr g2 iq
      | inr vv =>
        obtain ⟨j2, E2⟩ := vv
        rw [hx] at iq
        obtain ⟨I3, P2, Q2, ts2, l42, a1, a2, a3, a4, a5, a6, a7, a8, a9⟩ := iq
        obtain ⟨b1, b2, -⟩ := rd_b f _ _ _ _ _ _ hx
        have eW : P2 ++ (tk T n key j).2 :: W = (P2 ++ [(tk T n key j).2]) ++ W := by rw [List.append_assoc]; rfl
        have eC : C ++ Q ++ P ++ Q2 = C ++ (Q ++ P ++ Q2) := by simp only [List.append_assoc]
        rw [eW] at a1 a9
        rw [eC] at a1
        have t3 : ts2 o = tsS (tk T n key j).2 (ts o) ∨ lev < 2 := by
          by_cases q : lev < 2
          · exact Or.inr q
          · have := a7 (by omega)
            rw [up_s] at this
            exact Or.inl this
        have iq2 := ihk (it + 1) j2 I3 (P2 ++ [(tk T n key j).2]) (Q ++ P ++ Q2) ts2 l42 (by omega) a1 (fun w hw => by
          rcases List.mem_append.mp hw with q | q
          · exact ⟨(a4 w q).1, by have := (a4 w q).2; omega⟩
          · rw [List.mem_singleton] at q
            rw [q]
            exact ⟨isb, by omega⟩) a5 (fun _ q => by omega) (fun q _ => by
          rcases t3 with z | z
          · rw [z]
            unfold tsS
            rw [if_pos (by omega)]
          · omega) a8 (by omega)
        have eE : Q ++ P ++ Q2 ++ (P2 ++ [(tk T n key j).2]) = Q ++ P ++ E2 ++ [(tk T n key j).2] := by rw [← a3]; simp only [List.append_assoc]
        rw [eE] at iq2
        show LR Ls xs d S R T n key lev o I W C ts _ (rdl (tk T n key) lev (fun k => rd (tk T n key) f (lev + 1) o nn k) k j2 (Q ++ P ++ E2 ++ [(tk T n key j).2]))
        cases hy : rdl (tk T n key) lev (fun k => rd (tk T n key) f (lev + 1) o nn k) k j2 (Q ++ P ++ E2 ++ [(tk T n key j).2]) with
        | inl x =>
          rw [hy] at iq2
          show MF S R I T n x _
          rw [r2, a9]
          exact MF.tr (g2.trans' a2) iq2
        | inr ww =>
          obtain ⟨j3, E3⟩ := ww
          rw [hy] at iq2
          obtain ⟨I4, P3, Q3, ts3, l43, d1, d2, d3, d4, d5, d6, d7, d8, d9⟩ := iq2
          refine ⟨I4, P3, Q3, ts3, l43, d1, (g2.trans' a2).trans' d2, d3, d4, d5, fun q hq => ?_, fun q => ?_, d8, ?_⟩
          · rw [d6 q hq, a6 q hq, up_n (by omega)]
          · rw [d7 q, a7 (by omega), up_s]
            unfold tsS
            rw [if_neg (by omega)]
            rcases hts o (by omega) with z | z
            · rw [z, if_neg (fun y => y.2 rfl)]
            · rw [z, if_pos ⟨by omega, by decide⟩]
          · rw [r2, a9, d9]
    · rw [if_neg hjn]
      refine ⟨I, P, Q, ts, l4, hs, MH.rfl', rfl, hP, hts, fun _ _ => rfl, fun _ => rfl, fun l hjl => ?_, rfl⟩
      rcases hj l hjl with q | q
      · by_cases ql : l = lev
        · subst ql; exact absurd hjl hjn
        · exact Or.inl (by omega)
      · exact Or.inr q
theorem m_rd (h : WF S R) (hk : key < 3) : ∀ (f : Nat),
    (∀ (o nn i : Nat) (I : mI) (W C : List Int32) (ts : Nat → Int32) (l4 : Option mV), 7 * (8 - o) + (8 - nn) + 1 ≤ f → o ≤ 8 → nn ≤ 8 → PS I T n key i W C ts → cnt (-11) W = o → cnt (-10) W = nn → tsok o ts → PR Ls xs d S R T n key o I W C ts (HD Ls xs d S R I 1 W l4) (rd (tk T n key) f 5 o nn i)) ∧
    (∀ (lev o nn i : Nat) (I : mI) (W C : List Int32) (ts : Nat → Int32) (l4 : Option mV), 7 * (8 - o) + (8 - nn) + (6 - lev) ≤ f → lev ≤ 5 → o ≤ 8 → nn ≤ 8 → PS I T n key i W C ts → cnt (-11) W = o → cnt (-10) W = nn → ctx lev W → (lev ≤ 2 → ts o = 0) → tsok o ts → LR Ls xs d S R T n key lev o I W C ts (HD Ls xs d S R I 1 W l4) (rd (tk T n key) f lev o nn i)) := by
  intro f
  induction f with
  | zero => exact ⟨fun o nn i I W C ts l4 hf => absurd hf (by omega), fun lev o nn i I W C ts l4 hf hl => absurd hf (by omega)⟩
  | succ f ih =>
    have piece : ∀ (o nn i : Nat) (I : mI) (W C : List Int32) (ts : Nat → Int32) (l4 : Option mV), 7 * (8 - o) + (8 - nn) + 1 ≤ f + 1 → o ≤ 8 → nn ≤ 8 → PS I T n key i W C ts → cnt (-11) W = o → cnt (-10) W = nn → tsok o ts → PR Ls xs d S R T n key o I W C ts (HD Ls xs d S R I 1 W l4) (rd (tk T n key) (f + 1) 5 o nn i) := by
      intro o nn i I W C ts l4 hf ho hnn hs cW cN hts
      unfold rd
      rw [if_pos rfl]
      by_cases k1 : (tk T n key i).1 = 1
      · rw [if_pos k1]
        obtain ⟨I2, g1, g2, r2⟩ := w_part (Ls := Ls) (xs := xs) (d := d) (l4 := l4) h hk hs k1
        exact ⟨I2, ts, l4, g1, g2, hts, fun _ _ => rfl, r2⟩
      · rw [if_neg k1]
        by_cases k2 : (tk T n key i).1 = 2 ∧ nn < 8
        · rw [if_pos k2]
          obtain ⟨I2, g1, g2, r2⟩ := w_not (Ls := Ls) (xs := xs) (d := d) (l4 := l4) h hs k2.1 (by omega)
          have iq := ih.1 o (nn + 1) (i + 1) I2 (-10 :: W) C ts l4 (by omega) ho (by omega) g1 (by
            show (if (-10 : Int32) = -11 then 1 else 0) + cnt (-11) W = o
            rw [if_neg (by decide), cW]; omega) (by
            show (if (-10 : Int32) = -10 then 1 else 0) + cnt (-10) W = nn + 1
            rw [if_pos rfl, cN]; omega) hts
          cases hx : rd (tk T n key) f 5 o (nn + 1) (i + 1) with
          | inl x =>
            rw [hx] at iq
            show MF S R I T n x _
            rw [r2]
            exact MF.tr g2 iq
          | inr vv =>
            obtain ⟨j, E⟩ := vv
            rw [hx] at iq
            obtain ⟨I3, ts2, l42, a1, a2, a3, a4, a5⟩ := iq
            have es : stl 6 (-10 :: W) (C ++ E) = stl 6 W (C ++ (E ++ [-10])) := by
              show (if (-10 : Int32) ≠ -11 ∧ 6 ≤ rk (-10) then stl 6 W (C ++ E ++ [-10]) else _) = _
              rw [if_pos ⟨by decide, by decide⟩, List.append_assoc]
            rw [es] at a1 a5
            exact ⟨I3, ts2, l42, a1, g2.trans' a2, a3, a4, r2.trans a5⟩
        · rw [if_neg k2]
          by_cases k3 : (tk T n key i).1 = 3 ∧ o < 8
          · rw [if_pos k3]
            obtain ⟨I2, g1, g2, r2⟩ := w_open (Ls := Ls) (xs := xs) (d := d) (l4 := l4) h hs k3.1 (by omega)
            rw [cW] at g1
            have tso : tsok (o + 1) (upd ts (o + 1) 0) := by
              intro q hq
              by_cases z : q = o + 1
              · rw [z, up_s]; exact Or.inl rfl
              · rw [up_n z]; exact hts q (by omega)
            have c11 : cnt (-11) (-11 :: W) = o + 1 := by
              show (if (-11 : Int32) = -11 then 1 else 0) + cnt (-11) W = o + 1
              rw [if_pos rfl, cW]; omega
            have iq := ih.2 0 (o + 1) nn (i + 1) I2 (-11 :: W) C (upd ts (o + 1) 0) l4 (by omega) (by omega) (by omega) hnn g1 c11 (by
              show (if (-11 : Int32) = -10 then 1 else 0) + cnt (-10) W = nn
              rw [if_neg (by decide), cN]; omega) (Or.inl rfl) (fun _ => up_s) tso
            cases hx : rd (tk T n key) f 0 (o + 1) nn (i + 1) with
            | inl x =>
              rw [hx] at iq
              show MF S R I T n x _
              rw [r2]
              exact MF.tr g2 iq
            | inr vv =>
              obtain ⟨j, E⟩ := vv
              rw [hx] at iq
              obtain ⟨I3, P, Q, ts2, l42, a1, a2, a3, a4, a5, a6, a7, a8, a9⟩ := iq
              have hst : stl 0 (P ++ -11 :: W) (C ++ Q) = (-11 :: W, C ++ E) := by
                rw [stl_P P _ _ (fun w hw => ⟨(a4 w hw).1, by omega⟩), stl_op, ← a3, List.append_assoc]
              have c11P : cnt (-11) (P ++ -11 :: W) = o + 1 := by rw [cnt_app, cnt_P (Or.inr rfl) P (fun w hw => (a4 w hw).1), c11]; omega
              simp only
              by_cases k4 : (tk T n key j).1 = 4
              · rw [if_pos k4]
                obtain ⟨I4, b1, b2, r4⟩ := n_close (Ls := Ls) (xs := xs) (d := d) (l4 := l42) h a1 k4 hst
                refine ⟨I4, ts2, l42, b1, (g2.trans' a2).trans' b2, fun k hk => a5 k (by omega), fun k hk => ?_, (r2.trans a9).trans r4⟩
                rw [a6 k (by omega), up_n (by omega)]
              · rw [if_neg k4]
                show MF S R I T n j _
                rw [r2, a9]
                refine MF.tr (g2.trans' a2) ?_
                by_cases c3 : tC T n j = 3
                · obtain ⟨I4, b1, b2, r4⟩ := n_end (Ls := Ls) (xs := xs) (d := d) (l4 := l42) h a1 c3
                  rw [if_neg (by omega)] at r4
                  exact ⟨I4, b2, b1.1.2.1.2.1, r4⟩
                · refine MF.of a1 (n_bad (Ls := Ls) (xs := xs) (d := d) (l4 := l42) h a1 c3 (fun q => k4 q.1) (by omega) (fun q => ?_))
                  have hj : jn (tk T n key j) (lvS (tk T n key j).2) = true := decide_eq_true ⟨q, rfl⟩
                  rcases a8 _ hj with z | z
                  · exact absurd z (by omega)
                  · have := (jn_rk hj).2.1
                    refine ⟨by omega, ?_⟩
                    rw [c11P, z.2]
                    decide
          · rw [if_neg k3]
            exact MF.of hs (w_bad (Ls := Ls) (xs := xs) (d := d) (l4 := l4) h hk hs k1 (by rw [cN]; exact k2) (by rw [cW]; exact k3))
    refine ⟨piece, ?_⟩
    intro lev o nn i I W C ts l4 hf hlev ho hnn hs cW cN cx t0 hts
    by_cases h5 : lev = 5
    · subst h5
      have pq := piece o nn i I W C ts l4 (by omega) ho hnn hs cW cN hts
      cases hx : rd (tk T n key) (f + 1) 5 o nn i with
      | inl x => rw [hx] at pq; exact pq
      | inr vv =>
        obtain ⟨j, E⟩ := vv
        rw [hx] at pq
        obtain ⟨I3, ts2, l42, a1, a2, a3, a4, a5⟩ := pq
        rw [stl_ctx cx (by decide)] at a1 a5
        exact ⟨I3, [], E, ts2, l42, a1, a2, List.append_nil E, fun w hw => absurd hw List.not_mem_nil, a3, fun k hk => a4 k (by omega), fun _ => a4 o (Nat.le_refl _), fun l hl => Or.inl (by have := (jn_rk hl).2.2.2; omega), a5⟩
    · have ih2 := fun (i : Nat) (I : mI) (W C : List Int32) (ts : Nat → Int32) (l4 : Option mV) hs cW cN cx t0 hts => ih.2 (lev + 1) o nn i I W C ts l4 (by omega) (by omega) ho hnn hs cW cN cx t0 hts
      have pq := ih2 i I W C ts l4 hs cW cN (ctx_m cx (by omega)) (fun q => t0 (by omega)) hts
      unfold rd
      rw [if_neg h5]
      cases hx : rd (tk T n key) f (lev + 1) o nn i with
      | inl x => rw [hx] at pq; exact pq
      | inr vv =>
        obtain ⟨j, E⟩ := vv
        rw [hx] at pq
        obtain ⟨I3, P, Q, ts2, l42, a1, a2, a3, a4, a5, a6, a7, a8, a9⟩ := pq
        obtain ⟨b1, b2, -⟩ := rd_b f _ _ _ _ _ _ hx
        have lq := l_mlev (Ls := Ls) (xs := xs) (d := d) (C := C) (f := f) (lev := lev) (o := o) (nn := nn) (m := if lev = 2 then 1 else 96) h (by omega) ho rfl cx cW cN ih2 (if lev = 2 then 1 else 96) 0 j I3 P Q ts2 l42 (by omega) a1 (fun w hw => ⟨(a4 w hw).1, by have := (a4 w hw).2; omega⟩) a5 (fun q _ => by rw [a7 (by omega)]; exact t0 (by omega)) (fun _ q => by omega) a8 (by omega)
        rw [a3] at lq
        simp only
        cases hy : rdl (tk T n key) lev (fun k => rd (tk T n key) f (lev + 1) o nn k) (if lev = 2 then 1 else 96) j E with
        | inl x =>
          rw [hy] at lq
          show MF S R I T n x _
          rw [a9]
          exact MF.tr a2 lq
        | inr ww =>
          obtain ⟨j3, E3⟩ := ww
          rw [hy] at lq
          obtain ⟨I4, P3, Q3, ts3, l43, d1, d2, d3, d4, d5, d6, d7, d8, d9⟩ := lq
          exact ⟨I4, P3, Q3, ts3, l43, d1, a2.trans' d2, d3, d4, d5, fun k hk => (d6 k hk).trans (a6 k hk), fun q => (d7 q).trans (a7 (by omega)), d8, a9.trans d9⟩
end MRD

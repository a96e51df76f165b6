/-! THE PROGRAM -/
def ptl (Ls : Nat) (xs : Nat → Int32) : List (List (Nat × mA)) := [
  pl_L_law Ls xs,
  pl_W_init,
  pl_M_init,
  pl_W_wreck,
  pl_M_wreck,
  pl_W_told,
  pl_M_told,
  pl_W_as,
  pl_M_as,
  pl_W_turns,
  pl_M_turns,
  pl_W_set,
  pl_M_set,
  pl_W_sweep,
  pl_M_sweep,
  pl_W_drag,
  pl_M_drag,
  pl_W_at,
  pl_M_at,
  pl_W_deal,
  pl_M_deal,
  pl_W_seed,
  pl_M_seed,
  pl_W_hours,
  pl_M_hours,
  pl_W_sky,
  pl_M_sky,
  pl_W_behind,
  pl_M_behind,
  pl_W_first,
  pl_M_first,
  pl_W_hole,
  pl_M_hole,
  pl_W_open,
  pl_M_open,
  pl_W_best,
  pl_M_best,
  pl_W_push,
  pl_M_push,
  pl_W_under,
  pl_M_under,
  pl_W_nearest,
  pl_M_nearest,
  pl_W_seen,
  pl_M_seen,
  pl_W_fee,
  pl_M_fee,
  pl_W_fine,
  pl_M_fine,
  pl_W_feed,
  pl_M_feed,
  pl_W_trim,
  pl_M_trim,
  pl_W_text,
  pl_M_text,
  pl_W_textTold,
  pl_M_textTold,
  pl_W_why,
  pl_M_why,
  pl_W_sheet,
  pl_M_sheet,
  pl_W_mark,
  pl_M_mark,
  pl_W_pour,
  pl_M_pour,
  pl_W_reads,
  pl_M_reads,
  pl_W_copy,
  pl_M_copy,
  pl_W_lay,
  pl_M_lay,
  pl_W_ask,
  pl_M_ask,
  pl_W_item,
  pl_M_item,
  pl_W_rest,
  pl_M_rest,
  pl_W_tell,
  pl_M_tell,
  pl_W_check,
  pl_M_check,
  pl_W_keep,
  pl_M_keep,
  pl_W_back,
  pl_M_back,
  pl_W_count,
  pl_M_count,
  pl_S_init,
  pl_F_init,
  pl_T_init,
  pl_R_init,
  pl_H_init,
  pl_O_init,
  pl_W_isKind,
  pl_W_within,
  pl_W_isPlace,
  pl_S_addWreck,
  pl_M_in,
  pl_M_isOf,
  pl_M_comes,
  pl_S_hasWreck,
  pl_S_hardOf,
  pl_K_goesAt,
  pl_K_worth,
  pl_M_isWreck,
  pl_M_of,
  pl_M_hardOf,
  pl_M_goesOf,
  pl_M_worthOf,
  pl_K_isOf,
  pl_M_isUnder,
  pl_M_becomes,
  pl_W_fits,
  pl_M_isUp,
  pl_M_put,
  pl_M_upAt,
  pl_JMath_min,
  pl_S_drawWreck,
  pl_M_draw,
  pl_S_passHours,
  pl_M_within,
  pl_M_goesOn,
  pl_S_upSet,
  pl_S_upMass,
  pl_S_upHeights,
  pl_M_ups,
  pl_F_behindHours,
  pl_JInteger_bitCount,
  pl_M_thinks,
  pl_M_putsBack,
  pl_F_firstBreak,
  pl_M_hour,
  pl_F_findHoles,
  pl_F_holeOver,
  pl_M_looksUp,
  pl_M_holeOf,
  pl_F_chooseSweep,
  pl_F_toldOf,
  pl_M_brokenBehind,
  pl_F_choosePace,
  pl_F_choosePlaceUnder,
  pl_F_nearestWay,
  pl_M_nearer,
  pl_W_isSheet,
  pl_H_isMissing,
  pl_F_chooseSeen,
  pl_M_isSheet,
  pl_M_round,
  pl_M_apart,
  pl_S_textFor,
  pl_X_valueOf,
  pl_M_counts,
  pl_M_worksOut,
  pl_T_hasRoomFor,
  pl_T_addBytes,
  pl_R_readTape,
  pl_S_addText,
  pl_M_go,
  pl_M_takesKey,
  pl_M_takesE,
  pl_H_becomeBlank,
  pl_H_hasPlace,
  pl_H_hasNumber,
  pl_W_held,
  pl_H_hasPlaces,
  pl_W_isSlot,
  pl_K_becomeAs,
  pl_H_becomeAs,
  pl_M_isSlot,
  pl_W_findingUnless,
  pl_F_rightOnes,
  pl_M_copyAll,
  pl_S_becomeAs,
  pl_K_init,
  pl_K_hardFrom,
  pl_S_draw,
  pl_S_goAll,
  pl_S_meetAll,
  pl_S_sinkByLot,
  pl_M_doMeet,
  pl_M_breaks,
  pl_M_sinks,
  pl_JArrays_fill,
  pl_F_blockAt,
  pl_F_chooseNone,
  pl_F_chooseIfLess,
  pl_S_upPlaces,
  pl_F_nearestNow,
  pl_JMath_floorMod,
  pl_W_wayRound,
  pl_X_operand,
  pl_X_joined,
  pl_M_two,
  pl_R_step,
  pl_R_readKey,
  pl_R_readLevel,
  pl_R_fail,
  pl_JArrays_copyOf,
  pl_X_init,
  pl_M_isLetter,
  pl_M_isFigure,
  pl_M_takesPart,
  pl_M_notsOpen,
  pl_M_settle,
  pl_M_signHere,
  pl_M_rank,
  pl_JMath_max,
  pl_S_upPlaceSum,
  pl_S_breakUp,
  pl_JMath_abs,
  pl_R_sortOf,
  pl_R_isWord,
  pl_R_readPiece,
  pl_R_joinsAt,
  pl_R_put,
  pl_M_nameOf,
  pl_JSt_length,
  pl_JSt_charAt,
  pl_R_readNumber,
  pl_R_readName,
  pl_R_isSign,
  pl_JSt_coder,
  pl_JSt_isLatin1,
  pl_JStL_charAt,
  pl_JSt_indexOf,
  pl_JSt_checkIndex,
  pl_JSt_indexOf2,
  pl_JPreconditions_checkIndex,
  pl_JStL_indexOf,
  pl_JStL_canEncode,
  pl_JStL_indexOfChar]
def PT (Ls : Nat) (xs : Nat → Int32) : Nat → Nat → mA := fun mi pc => a_find ((ptl Ls xs).getD mi []) pc
def z_all {α β : Type} (R : α → β → Prop) : List α → List β → Prop
  | [], _ => True
  | _, [] => True
  | a :: l, b :: r => R a b ∧ z_all R l r
theorem z_at {α β : Type} {R : α → β → Prop} (da : α) (db : β) (hd : R da db) : ∀ {l : List α} {r : List β} (i : Nat), l.length = r.length → z_all R l r → R (l.getD i da) (r.getD i db)
  | [], [], _, _, _ => by simpa using hd
  | [], _ :: _, _, h, _ => by simp at h
  | _ :: _, [], _, h, _ => by simp at h
  | a :: l, b :: r, 0, _, h => by simpa using h.1
  | a :: l, b :: r, i + 1, e, h => by
    have := z_at da db hd (l := l) (r := r) i (by simpa using e) h.2
    simpa using this
theorem z_c {α β : Type} {R : α → β → Prop} {a : α} {b : β} {l : List α} {r : List β} (h : R a b) (t : z_all R l r) : z_all R (a :: l) (b :: r) := ⟨h, t⟩
section PR
variable {B : Nat} {sp : Nat → Value} {D : va_G} {cA : Nat → ClassId} {Ls : Nat} {xs : Nat → Int32} {adK adV : Nat → Nat}
set_option maxRecDepth 20000 in
theorem P_all : z_all (fun (q : MethodName × ByteArray × Nat × Option FieldType) (l : List (Nat × mA)) => okall B sp D cA (SPf B sp Ls xs adK adV) MT q.1 q.2.1 q.2.2.1 q.2.2.2 l) mtl (ptl Ls xs) := by
  unfold mtl ptl
  exact
    z_c ol_L_law (
    z_c ol_W_init (
    z_c ol_M_init (
    z_c ol_W_wreck (
    z_c ol_M_wreck (
    z_c ol_W_told (
    z_c ol_M_told (
    z_c ol_W_as (
    z_c ol_M_as (
    z_c ol_W_turns (
    z_c ol_M_turns (
    z_c ol_W_set (
    z_c ol_M_set (
    z_c ol_W_sweep (
    z_c ol_M_sweep (
    z_c ol_W_drag (
    z_c ol_M_drag (
    z_c ol_W_at (
    z_c ol_M_at (
    z_c ol_W_deal (
    z_c ol_M_deal (
    z_c ol_W_seed (
    z_c ol_M_seed (
    z_c ol_W_hours (
    z_c ol_M_hours (
    z_c ol_W_sky (
    z_c ol_M_sky (
    z_c ol_W_behind (
    z_c ol_M_behind (
    z_c ol_W_first (
    z_c ol_M_first (
    z_c ol_W_hole (
    z_c ol_M_hole (
    z_c ol_W_open (
    z_c ol_M_open (
    z_c ol_W_best (
    z_c ol_M_best (
    z_c ol_W_push (
    z_c ol_M_push (
    z_c ol_W_under (
    z_c ol_M_under (
    z_c ol_W_nearest (
    z_c ol_M_nearest (
    z_c ol_W_seen (
    z_c ol_M_seen (
    z_c ol_W_fee (
    z_c ol_M_fee (
    z_c ol_W_fine (
    z_c ol_M_fine (
    z_c ol_W_feed (
    z_c ol_M_feed (
    z_c ol_W_trim (
    z_c ol_M_trim (
    z_c ol_W_text (
    z_c ol_M_text (
    z_c ol_W_textTold (
    z_c ol_M_textTold (
    z_c ol_W_why (
    z_c ol_M_why (
    z_c ol_W_sheet (
    z_c ol_M_sheet (
    z_c ol_W_mark (
    z_c ol_M_mark (
    z_c ol_W_pour (
    z_c ol_M_pour (
    z_c ol_W_reads (
    z_c ol_M_reads (
    z_c ol_W_copy (
    z_c ol_M_copy (
    z_c ol_W_lay (
    z_c ol_M_lay (
    z_c ol_W_ask (
    z_c ol_M_ask (
    z_c ol_W_item (
    z_c ol_M_item (
    z_c ol_W_rest (
    z_c ol_M_rest (
    z_c ol_W_tell (
    z_c ol_M_tell (
    z_c ol_W_check (
    z_c ol_M_check (
    z_c ol_W_keep (
    z_c ol_M_keep (
    z_c ol_W_back (
    z_c ol_M_back (
    z_c ol_W_count (
    z_c ol_M_count (
    z_c ol_S_init (
    z_c ol_F_init (
    z_c ol_T_init (
    z_c ol_R_init (
    z_c ol_H_init (
    z_c ol_O_init (
    z_c ol_W_isKind (
    z_c ol_W_within (
    z_c ol_W_isPlace (
    z_c ol_S_addWreck (
    z_c ol_M_in (
    z_c ol_M_isOf (
    z_c ol_M_comes (
    z_c ol_S_hasWreck (
    z_c ol_S_hardOf (
    z_c ol_K_goesAt (
    z_c ol_K_worth (
    z_c ol_M_isWreck (
    z_c ol_M_of (
    z_c ol_M_hardOf (
    z_c ol_M_goesOf (
    z_c ol_M_worthOf (
    z_c ol_K_isOf (
    z_c ol_M_isUnder (
    z_c ol_M_becomes (
    z_c ol_W_fits (
    z_c ol_M_isUp (
    z_c ol_M_put (
    z_c ol_M_upAt (
    z_c ol_JMath_min (
    z_c ol_S_drawWreck (
    z_c ol_M_draw (
    z_c ol_S_passHours (
    z_c ol_M_within (
    z_c ol_M_goesOn (
    z_c ol_S_upSet (
    z_c ol_S_upMass (
    z_c ol_S_upHeights (
    z_c ol_M_ups (
    z_c ol_F_behindHours (
    z_c ol_JInteger_bitCount (
    z_c ol_M_thinks (
    z_c ol_M_putsBack (
    z_c ol_F_firstBreak (
    z_c ol_M_hour (
    z_c ol_F_findHoles (
    z_c ol_F_holeOver (
    z_c ol_M_looksUp (
    z_c ol_M_holeOf (
    z_c ol_F_chooseSweep (
    z_c ol_F_toldOf (
    z_c ol_M_brokenBehind (
    z_c ol_F_choosePace (
    z_c ol_F_choosePlaceUnder (
    z_c ol_F_nearestWay (
    z_c ol_M_nearer (
    z_c ol_W_isSheet (
    z_c ol_H_isMissing (
    z_c ol_F_chooseSeen (
    z_c ol_M_isSheet (
    z_c ol_M_round (
    z_c ol_M_apart (
    z_c ol_S_textFor (
    z_c ol_X_valueOf (
    z_c ol_M_counts (
    z_c ol_M_worksOut (
    z_c ol_T_hasRoomFor (
    z_c ol_T_addBytes (
    z_c ol_R_readTape (
    z_c ol_S_addText (
    z_c ol_M_go (
    z_c ol_M_takesKey (
    z_c ol_M_takesE (
    z_c ol_H_becomeBlank (
    z_c ol_H_hasPlace (
    z_c ol_H_hasNumber (
    z_c ol_W_held (
    z_c ol_H_hasPlaces (
    z_c ol_W_isSlot (
    z_c ol_K_becomeAs (
    z_c ol_H_becomeAs (
    z_c ol_M_isSlot (
    z_c ol_W_findingUnless (
    z_c ol_F_rightOnes (
    z_c ol_M_copyAll (
    z_c ol_S_becomeAs (
    z_c ol_K_init (
    z_c ol_K_hardFrom (
    z_c ol_S_draw (
    z_c ol_S_goAll (
    z_c ol_S_meetAll (
    z_c ol_S_sinkByLot (
    z_c ol_M_doMeet (
    z_c ol_M_breaks (
    z_c ol_M_sinks (
    z_c ol_JArrays_fill (
    z_c ol_F_blockAt (
    z_c ol_F_chooseNone (
    z_c ol_F_chooseIfLess (
    z_c ol_S_upPlaces (
    z_c ol_F_nearestNow (
    z_c ol_JMath_floorMod (
    z_c ol_W_wayRound (
    z_c ol_X_operand (
    z_c ol_X_joined (
    z_c ol_M_two (
    z_c ol_R_step (
    z_c ol_R_readKey (
    z_c ol_R_readLevel (
    z_c ol_R_fail (
    z_c ol_JArrays_copyOf (
    z_c ol_X_init (
    z_c ol_M_isLetter (
    z_c ol_M_isFigure (
    z_c ol_M_takesPart (
    z_c ol_M_notsOpen (
    z_c ol_M_settle (
    z_c ol_M_signHere (
    z_c ol_M_rank (
    z_c ol_JMath_max (
    z_c ol_S_upPlaceSum (
    z_c ol_S_breakUp (
    z_c ol_JMath_abs (
    z_c ol_R_sortOf (
    z_c ol_R_isWord (
    z_c ol_R_readPiece (
    z_c ol_R_joinsAt (
    z_c ol_R_put (
    z_c ol_M_nameOf (
    z_c ol_JSt_length (
    z_c ol_JSt_charAt (
    z_c ol_R_readNumber (
    z_c ol_R_readName (
    z_c ol_R_isSign (
    z_c ol_JSt_coder (
    z_c ol_JSt_isLatin1 (
    z_c ol_JStL_charAt (
    z_c ol_JSt_indexOf (
    z_c ol_JSt_checkIndex (
    z_c ol_JSt_indexOf2 (
    z_c ol_JPreconditions_checkIndex (
    z_c ol_JStL_indexOf (
    z_c ol_JStL_canEncode (
    z_c ol_JStL_indexOfChar ( trivial)))))))))))))))))))))))))))))))))))))))))))))))))))))))))))))))))))))))))))))))))))))))))))))))))))))))))))))))))))))))))))))))))))))))))))))))))))))))))))))))))))))))))))))))))))))))))))))))))))))))))))))))))))))))))))))))))))))))
theorem P_ok (mi pc : Nat) : r_OK B sp D cA (SPf B sp Ls xs adK adV) MT (MT mi).1 (MT mi).2.1 (MT mi).2.2.1 (MT mi).2.2.2 pc (PT Ls xs mi pc) :=
  okf pc (z_at (R := fun (q : MethodName × ByteArray × Nat × Option FieldType) (l : List (Nat × mA)) => okall B sp D cA (SPf B sp Ls xs adK adV) MT q.1 q.2.1 q.2.2.1 q.2.2.2 l) (⟨"WreckSky", "", ""⟩, ⟨#[]⟩, 0, none) [] okn mi rfl P_all)
end PR

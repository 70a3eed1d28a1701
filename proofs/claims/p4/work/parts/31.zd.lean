/-! the codes of the small machine are the program's bytes, decoded -/
def z_dok (cc : ByteArray) (q : Nat × Instr) : Bool := match decode cc q.1 with
  | .ok (ins, len) => decide (ins = q.2) && (Nat.beq (z_len ins) len || Nat.beq (z_len ins) 0)
  | _ => false
theorem z_ch {α : Type} {p : α → Bool} {l : List α} (n : Nat) (h1 : (l.take n).all p = true) (h2 : (l.drop n).all p = true) : l.all p = true := by
  rw [← List.take_append_drop n l, List.all_append, h1, h2]
  rfl
theorem zd_X0_baseOf : zc_X0_baseOf.all (z_dok cX0_baseOf) = true := by decide +kernel
theorem zd_X0_hanOf : zc_X0_hanOf.all (z_dok cX0_hanOf) = true := by decide +kernel
theorem zd_X1_bit : zc_X1_bit.all (z_dok cX1_bit) = true := by decide +kernel
theorem zd_X1_chosenThrees : zc_X1_chosenThrees.all (z_dok cX1_chosenThrees) = true := by decide +kernel
theorem zd_X1_findThrees : zc_X1_findThrees.all (z_dok cX1_findThrees) = true := by decide +kernel
theorem zd_X1_isBetter : zc_X1_isBetter.all (z_dok cX1_isBetter) = true := by decide +kernel
theorem zd_X1_isHidden : zc_X1_isHidden.all (z_dok cX1_isHidden) = true := by decide +kernel
theorem zd_X1_mayHaveCompleted_0 : (zc_X1_mayHaveCompleted.take 40).all (z_dok cX1_mayHaveCompleted) = true := by decide +kernel
theorem zd_X1_mayHaveCompleted_40 : (zc_X1_mayHaveCompleted.drop 40).all (z_dok cX1_mayHaveCompleted) = true := by decide +kernel
theorem zd_X1_mayHaveCompleted : zc_X1_mayHaveCompleted.all (z_dok cX1_mayHaveCompleted) = true := (z_ch 40 zd_X1_mayHaveCompleted_0 zd_X1_mayHaveCompleted_40)
theorem zd_X1_pairFu : zc_X1_pairFu.all (z_dok cX1_pairFu) = true := by decide +kernel
theorem zd_X1_toldOnes : zc_X1_toldOnes.all (z_dok cX1_toldOnes) = true := by decide +kernel
theorem zd_X1_waitFu : zc_X1_waitFu.all (z_dok cX1_waitFu) = true := by decide +kernel
theorem zd_X2_throwTile : zc_X2_throwTile.all (z_dok cX2_throwTile) = true := by decide +kernel
theorem zd_X2_thrown : zc_X2_thrown.all (z_dok cX2_thrown) = true := by decide +kernel
theorem zd_X3_empty : zc_X3_empty.all (z_dok cX3_empty) = true := by decide +kernel
theorem zd_X3_isOpen : zc_X3_isOpen.all (z_dok cX3_isOpen) = true := by decide +kernel
theorem zd_X3_isSevenPairs : zc_X3_isSevenPairs.all (z_dok cX3_isSevenPairs) = true := by decide +kernel
theorem zd_X3_kinds : zc_X3_kinds.all (z_dok cX3_kinds) = true := by decide +kernel
theorem zd_X3_size : zc_X3_size.all (z_dok cX3_size) = true := by decide +kernel
theorem zd_X4_behind : zc_X4_behind.all (z_dok cX4_behind) = true := by decide +kernel
theorem zd_X4_build_0 : (zc_X4_build.take 40).all (z_dok cX4_build) = true := by decide +kernel
theorem zd_X4_build_40 : (zc_X4_build.drop 40).all (z_dok cX4_build) = true := by decide +kernel
theorem zd_X4_build : zc_X4_build.all (z_dok cX4_build) = true := (z_ch 40 zd_X4_build_0 zd_X4_build_40)
theorem zd_X4_kindAt : zc_X4_kindAt.all (z_dok cX4_kindAt) = true := by decide +kernel
theorem zd_X4_left : zc_X4_left.all (z_dok cX4_left) = true := by decide +kernel
theorem zd_X4_signs : zc_X4_signs.all (z_dok cX4_signs) = true := by decide +kernel
theorem zd_X5_part : zc_X5_part.all (z_dok cX5_part) = true := by decide +kernel
theorem zd_X6_at : zc_X6_at.all (z_dok cX6_at) = true := by decide +kernel
theorem zd_X6_desk : zc_X6_desk.all (z_dok cX6_desk) = true := by decide +kernel
theorem zd_X6_deskForms : zc_X6_deskForms.all (z_dok cX6_deskForms) = true := by decide +kernel
theorem zd_X6_holds : zc_X6_holds.all (z_dok cX6_holds) = true := by decide +kernel
theorem zd_X6_hundreds : zc_X6_hundreds.all (z_dok cX6_hundreds) = true := by decide +kernel
theorem zd_X6_isKind : zc_X6_isKind.all (z_dok cX6_isKind) = true := by decide +kernel
theorem zd_X6_isSeat : zc_X6_isSeat.all (z_dok cX6_isSeat) = true := by decide +kernel
theorem zd_X6_isWin : zc_X6_isWin.all (z_dok cX6_isWin) = true := by decide +kernel
theorem zd_X6_recordWin_0 : (zc_X6_recordWin.take 40).all (z_dok cX6_recordWin) = true := by decide +kernel
theorem zd_X6_recordWin_40 : (zc_X6_recordWin.drop 40).all (z_dok cX6_recordWin) = true := by decide +kernel
theorem zd_X6_recordWin : zc_X6_recordWin.all (z_dok cX6_recordWin) = true := (z_ch 40 zd_X6_recordWin_0 zd_X6_recordWin_40)
theorem zd_X6_startsRun : zc_X6_startsRun.all (z_dok cX6_startsRun) = true := by decide +kernel
theorem zd_X6_tilesOfEach : zc_X6_tilesOfEach.all (z_dok cX6_tilesOfEach) = true := by decide +kernel
theorem zd_X6_windOf : zc_X6_windOf.all (z_dok cX6_windOf) = true := by decide +kernel
theorem zd_X7_anySays : zc_X7_anySays.all (z_dok cX7_anySays) = true := by decide +kernel
theorem zd_X7_behind : zc_X7_behind.all (z_dok cX7_behind) = true := by decide +kernel
theorem zd_X7_bit : zc_X7_bit.all (z_dok cX7_bit) = true := by decide +kernel
theorem zd_X7_clear : zc_X7_clear.all (z_dok cX7_clear) = true := by decide +kernel
theorem zd_X7_desk : zc_X7_desk.all (z_dok cX7_desk) = true := by decide +kernel
theorem zd_X7_deskForms : zc_X7_deskForms.all (z_dok cX7_deskForms) = true := by decide +kernel
theorem zd_X7_ends_0 : (zc_X7_ends.take 40).all (z_dok cX7_ends) = true := by decide +kernel
theorem zd_X7_ends_40 : ((zc_X7_ends.drop 40).take 40).all (z_dok cX7_ends) = true := by decide +kernel
theorem zd_X7_ends_80 : ((zc_X7_ends.drop 40).drop 40).all (z_dok cX7_ends) = true := by decide +kernel
theorem zd_X7_ends : zc_X7_ends.all (z_dok cX7_ends) = true := (z_ch 40 zd_X7_ends_0 (z_ch 40 zd_X7_ends_40 zd_X7_ends_80))
theorem zd_X7_forms : zc_X7_forms.all (z_dok cX7_forms) = true := by decide +kernel
theorem zd_X7_gives : zc_X7_gives.all (z_dok cX7_gives) = true := by decide +kernel
theorem zd_X7_han : zc_X7_han.all (z_dok cX7_han) = true := by decide +kernel
theorem zd_X7_has : zc_X7_has.all (z_dok cX7_has) = true := by decide +kernel
theorem zd_X7_hasRun : zc_X7_hasRun.all (z_dok cX7_hasRun) = true := by decide +kernel
theorem zd_X7_hasThree : zc_X7_hasThree.all (z_dok cX7_hasThree) = true := by decide +kernel
theorem zd_X7_has_ : zc_X7_has_.all (z_dok cX7_has_) = true := by decide +kernel
theorem zd_X7_inHand : zc_X7_inHand.all (z_dok cX7_inHand) = true := by decide +kernel
theorem zd_X7_isDragon : zc_X7_isDragon.all (z_dok cX7_isDragon) = true := by decide +kernel
theorem zd_X7_isHidden : zc_X7_isHidden.all (z_dok cX7_isHidden) = true := by decide +kernel
theorem zd_X7_isHonour : zc_X7_isHonour.all (z_dok cX7_isHonour) = true := by decide +kernel
theorem zd_X7_isKind : zc_X7_isKind.all (z_dok cX7_isKind) = true := by decide +kernel
theorem zd_X7_isOpen : zc_X7_isOpen.all (z_dok cX7_isOpen) = true := by decide +kernel
theorem zd_X7_isOpen_ : zc_X7_isOpen_.all (z_dok cX7_isOpen_) = true := by decide +kernel
theorem zd_X7_isRun : zc_X7_isRun.all (z_dok cX7_isRun) = true := by decide +kernel
theorem zd_X7_isSeat : zc_X7_isSeat.all (z_dok cX7_isSeat) = true := by decide +kernel
theorem zd_X7_isTerminal : zc_X7_isTerminal.all (z_dok cX7_isTerminal) = true := by decide +kernel
theorem zd_X7_lays : zc_X7_lays.all (z_dok cX7_lays) = true := by decide +kernel
theorem zd_X7_left : zc_X7_left.all (z_dok cX7_left) = true := by decide +kernel
theorem zd_X7_nothing : zc_X7_nothing.all (z_dok cX7_nothing) = true := by decide +kernel
theorem zd_X7_pays : zc_X7_pays.all (z_dok cX7_pays) = true := by decide +kernel
theorem zd_X7_takeDesk_0 : (zc_X7_takeDesk.take 40).all (z_dok cX7_takeDesk) = true := by decide +kernel
theorem zd_X7_takeDesk_40 : (zc_X7_takeDesk.drop 40).all (z_dok cX7_takeDesk) = true := by decide +kernel
theorem zd_X7_takeDesk : zc_X7_takeDesk.all (z_dok cX7_takeDesk) = true := (z_ch 40 zd_X7_takeDesk_0 zd_X7_takeDesk_40)
theorem zd_X7_takesBets : zc_X7_takesBets.all (z_dok cX7_takesBets) = true := by decide +kernel
theorem zd_X7_touched : zc_X7_touched.all (z_dok cX7_touched) = true := by decide +kernel
theorem zd_X7_up : zc_X7_up.all (z_dok cX7_up) = true := by decide +kernel
theorem zd_X7_wall : zc_X7_wall.all (z_dok cX7_wall) = true := by decide +kernel
theorem zd_X7_windOf : zc_X7_windOf.all (z_dok cX7_windOf) = true := by decide +kernel
theorem zd_X7_won : zc_X7_won.all (z_dok cX7_won) = true := by decide +kernel
theorem zd_X7_writes_0 : (zc_X7_writes.take 40).all (z_dok cX7_writes) = true := by decide +kernel
theorem zd_X7_writes_40 : (zc_X7_writes.drop 40).all (z_dok cX7_writes) = true := by decide +kernel
theorem zd_X7_writes : zc_X7_writes.all (z_dok cX7_writes) = true := (z_ch 40 zd_X7_writes_0 zd_X7_writes_40)
theorem zd_J13_bitCount_95d88 : zc_J13_bitCount_95d88.all (z_dok cJ13_bitCount_95d88) = true := by decide +kernel
theorem zd_X1_endForms_0 : (zc_X1_endForms.take 40).all (z_dok cX1_endForms) = true := by decide +kernel
theorem zd_X1_endForms_40 : ((zc_X1_endForms.drop 40).take 40).all (z_dok cX1_endForms) = true := by decide +kernel
theorem zd_X1_endForms_80 : ((zc_X1_endForms.drop 40).drop 40).all (z_dok cX1_endForms) = true := by decide +kernel
theorem zd_X1_endForms : zc_X1_endForms.all (z_dok cX1_endForms) = true := (z_ch 40 zd_X1_endForms_0 (z_ch 40 zd_X1_endForms_40 zd_X1_endForms_80))
theorem zd_X1_fillWay_0 : (zc_X1_fillWay.take 40).all (z_dok cX1_fillWay) = true := by decide +kernel
theorem zd_X1_fillWay_40 : ((zc_X1_fillWay.drop 40).take 40).all (z_dok cX1_fillWay) = true := by decide +kernel
theorem zd_X1_fillWay_80 : ((zc_X1_fillWay.drop 40).drop 40).all (z_dok cX1_fillWay) = true := by decide +kernel
theorem zd_X1_fillWay : zc_X1_fillWay.all (z_dok cX1_fillWay) = true := (z_ch 40 zd_X1_fillWay_0 (z_ch 40 zd_X1_fillWay_40 zd_X1_fillWay_80))
theorem zd_X1_fuOf_0 : (zc_X1_fuOf.take 40).all (z_dok cX1_fuOf) = true := by decide +kernel
theorem zd_X1_fuOf_40 : (zc_X1_fuOf.drop 40).all (z_dok cX1_fuOf) = true := by decide +kernel
theorem zd_X1_fuOf : zc_X1_fuOf.all (z_dok cX1_fuOf) = true := (z_ch 40 zd_X1_fuOf_0 zd_X1_fuOf_40)
theorem zd_X1_likeRuns_0 : (zc_X1_likeRuns.take 40).all (z_dok cX1_likeRuns) = true := by decide +kernel
theorem zd_X1_likeRuns_40 : (zc_X1_likeRuns.drop 40).all (z_dok cX1_likeRuns) = true := by decide +kernel
theorem zd_X1_likeRuns : zc_X1_likeRuns.all (z_dok cX1_likeRuns) = true := (z_ch 40 zd_X1_likeRuns_0 zd_X1_likeRuns_40)
theorem zd_X1_offer_0 : (zc_X1_offer.take 40).all (z_dok cX1_offer) = true := by decide +kernel
theorem zd_X1_offer_40 : (zc_X1_offer.drop 40).all (z_dok cX1_offer) = true := by decide +kernel
theorem zd_X1_offer : zc_X1_offer.all (z_dok cX1_offer) = true := (z_ch 40 zd_X1_offer_0 zd_X1_offer_40)
theorem zd_X1_setForms_0 : (zc_X1_setForms.take 40).all (z_dok cX1_setForms) = true := by decide +kernel
theorem zd_X1_setForms_40 : ((zc_X1_setForms.drop 40).take 40).all (z_dok cX1_setForms) = true := by decide +kernel
theorem zd_X1_setForms_80 : (((zc_X1_setForms.drop 40).drop 40).take 40).all (z_dok cX1_setForms) = true := by decide +kernel
theorem zd_X1_setForms_120 : ((((zc_X1_setForms.drop 40).drop 40).drop 40).take 40).all (z_dok cX1_setForms) = true := by decide +kernel
theorem zd_X1_setForms_160 : (((((zc_X1_setForms.drop 40).drop 40).drop 40).drop 40).take 40).all (z_dok cX1_setForms) = true := by decide +kernel
theorem zd_X1_setForms_200 : (((((zc_X1_setForms.drop 40).drop 40).drop 40).drop 40).drop 40).all (z_dok cX1_setForms) = true := by decide +kernel
theorem zd_X1_setForms : zc_X1_setForms.all (z_dok cX1_setForms) = true := (z_ch 40 zd_X1_setForms_0 (z_ch 40 zd_X1_setForms_40 (z_ch 40 zd_X1_setForms_80 (z_ch 40 zd_X1_setForms_120 (z_ch 40 zd_X1_setForms_160 zd_X1_setForms_200)))))
theorem zd_X2_startHand : zc_X2_startHand.all (z_dok cX2_startHand) = true := by decide +kernel
theorem zd_X3_all : zc_X3_all.all (z_dok cX3_all) = true := by decide +kernel
theorem zd_X3_free : zc_X3_free.all (z_dok cX3_free) = true := by decide +kernel
theorem zd_X3_isThirteen : zc_X3_isThirteen.all (z_dok cX3_isThirteen) = true := by decide +kernel
theorem zd_X3_layDown_0 : (zc_X3_layDown.take 40).all (z_dok cX3_layDown) = true := by decide +kernel
theorem zd_X3_layDown_40 : (zc_X3_layDown.drop 40).all (z_dok cX3_layDown) = true := by decide +kernel
theorem zd_X3_layDown : zc_X3_layDown.all (z_dok cX3_layDown) = true := (z_ch 40 zd_X3_layDown_0 zd_X3_layDown_40)
theorem zd_X3_put : zc_X3_put.all (z_dok cX3_put) = true := by decide +kernel
theorem zd_X3_splitsBeside : zc_X3_splitsBeside.all (z_dok cX3_splitsBeside) = true := by decide +kernel
theorem zd_X4_draw : zc_X4_draw.all (z_dok cX4_draw) = true := by decide +kernel
theorem zd_X4_drawBehindFour : zc_X4_drawBehindFour.all (z_dok cX4_drawBehindFour) = true := by decide +kernel
theorem zd_X6_breakHand : zc_X6_breakHand.all (z_dok cX6_breakHand) = true := by decide +kernel
theorem zd_X6_clear : zc_X6_clear.all (z_dok cX6_clear) = true := by decide +kernel
theorem zd_X6_count_0 : (zc_X6_count.take 40).all (z_dok cX6_count) = true := by decide +kernel
theorem zd_X6_count_40 : (zc_X6_count.drop 40).all (z_dok cX6_count) = true := by decide +kernel
theorem zd_X6_count : zc_X6_count.all (z_dok cX6_count) = true := (z_ch 40 zd_X6_count_0 zd_X6_count_40)
theorem zd_X6_firstDraw : zc_X6_firstDraw.all (z_dok cX6_firstDraw) = true := by decide +kernel
theorem zd_X6_forms : zc_X6_forms.all (z_dok cX6_forms) = true := by decide +kernel
theorem zd_X6_keepsOther : zc_X6_keepsOther.all (z_dok cX6_keepsOther) = true := by decide +kernel
theorem zd_X6_laid : zc_X6_laid.all (z_dok cX6_laid) = true := by decide +kernel
theorem zd_X6_mayMakeFour : zc_X6_mayMakeFour.all (z_dok cX6_mayMakeFour) = true := by decide +kernel
theorem zd_X6_otherEnd : zc_X6_otherEnd.all (z_dok cX6_otherEnd) = true := by decide +kernel
theorem zd_X6_richest : zc_X6_richest.all (z_dok cX6_richest) = true := by decide +kernel
theorem zd_X6_seat_0 : (zc_X6_seat.take 40).all (z_dok cX6_seat) = true := by decide +kernel
theorem zd_X6_seat_40 : (zc_X6_seat.drop 40).all (z_dok cX6_seat) = true := by decide +kernel
theorem zd_X6_seat : zc_X6_seat.all (z_dok cX6_seat) = true := (z_ch 40 zd_X6_seat_0 zd_X6_seat_40)
theorem zd_X6_someoneIsBroke : zc_X6_someoneIsBroke.all (z_dok cX6_someoneIsBroke) = true := by decide +kernel
theorem zd_X6_someoneSays : zc_X6_someoneSays.all (z_dok cX6_someoneSays) = true := by decide +kernel
theorem zd_X6_toldForms_0 : (zc_X6_toldForms.take 40).all (z_dok cX6_toldForms) = true := by decide +kernel
theorem zd_X6_toldForms_40 : (zc_X6_toldForms.drop 40).all (z_dok cX6_toldForms) = true := by decide +kernel
theorem zd_X6_toldForms : zc_X6_toldForms.all (z_dok cX6_toldForms) = true := (z_ch 40 zd_X6_toldForms_0 zd_X6_toldForms_40)
theorem zd_X6_won : zc_X6_won.all (z_dok cX6_won) = true := by decide +kernel
theorem zd_X7_canDiscard : zc_X7_canDiscard.all (z_dok cX7_canDiscard) = true := by decide +kernel
theorem zd_X7_claims : zc_X7_claims.all (z_dok cX7_claims) = true := by decide +kernel
theorem zd_X7_compare_0 : (zc_X7_compare.take 40).all (z_dok cX7_compare) = true := by decide +kernel
theorem zd_X7_compare_40 : ((zc_X7_compare.drop 40).take 40).all (z_dok cX7_compare) = true := by decide +kernel
theorem zd_X7_compare_80 : (((zc_X7_compare.drop 40).drop 40).take 40).all (z_dok cX7_compare) = true := by decide +kernel
theorem zd_X7_compare_120 : ((((zc_X7_compare.drop 40).drop 40).drop 40).take 40).all (z_dok cX7_compare) = true := by decide +kernel
theorem zd_X7_compare_160 : (((((zc_X7_compare.drop 40).drop 40).drop 40).drop 40).take 40).all (z_dok cX7_compare) = true := by decide +kernel
theorem zd_X7_compare_200 : (((((zc_X7_compare.drop 40).drop 40).drop 40).drop 40).drop 40).all (z_dok cX7_compare) = true := by decide +kernel
theorem zd_X7_compare : zc_X7_compare.all (z_dok cX7_compare) = true := (z_ch 40 zd_X7_compare_0 (z_ch 40 zd_X7_compare_40 (z_ch 40 zd_X7_compare_80 (z_ch 40 zd_X7_compare_120 (z_ch 40 zd_X7_compare_160 zd_X7_compare_200)))))
theorem zd_X7_count_0 : (zc_X7_count.take 40).all (z_dok cX7_count) = true := by decide +kernel
theorem zd_X7_count_40 : (zc_X7_count.drop 40).all (z_dok cX7_count) = true := by decide +kernel
theorem zd_X7_count : zc_X7_count.all (z_dok cX7_count) = true := (z_ch 40 zd_X7_count_0 zd_X7_count_40)
theorem zd_X7_draws_0 : (zc_X7_draws.take 40).all (z_dok cX7_draws) = true := by decide +kernel
theorem zd_X7_draws_40 : (zc_X7_draws.drop 40).all (z_dok cX7_draws) = true := by decide +kernel
theorem zd_X7_draws : zc_X7_draws.all (z_dok cX7_draws) = true := (z_ch 40 zd_X7_draws_0 zd_X7_draws_40)
theorem zd_X7_hand : zc_X7_hand.all (z_dok cX7_hand) = true := by decide +kernel
theorem zd_X7_isEnd : zc_X7_isEnd.all (z_dok cX7_isEnd) = true := by decide +kernel
theorem zd_X7_laid : zc_X7_laid.all (z_dok cX7_laid) = true := by decide +kernel
theorem zd_X7_mayClaim : zc_X7_mayClaim.all (z_dok cX7_mayClaim) = true := by decide +kernel
theorem zd_X7_mayMake : zc_X7_mayMake.all (z_dok cX7_mayMake) = true := by decide +kernel
theorem zd_X7_of_0 : (zc_X7_of.take 40).all (z_dok cX7_of) = true := by decide +kernel
theorem zd_X7_of_40 : (zc_X7_of.drop 40).all (z_dok cX7_of) = true := by decide +kernel
theorem zd_X7_of : zc_X7_of.all (z_dok cX7_of) = true := (z_ch 40 zd_X7_of_0 zd_X7_of_40)
theorem zd_X7_river : zc_X7_river.all (z_dok cX7_river) = true := by decide +kernel
theorem zd_X7_seat_0 : (zc_X7_seat.take 40).all (z_dok cX7_seat) = true := by decide +kernel
theorem zd_X7_seat_40 : (zc_X7_seat.drop 40).all (z_dok cX7_seat) = true := by decide +kernel
theorem zd_X7_seat : zc_X7_seat.all (z_dok cX7_seat) = true := (z_ch 40 zd_X7_seat_0 zd_X7_seat_40)
theorem zd_X7_take_0 : (zc_X7_take.take 40).all (z_dok cX7_take) = true := by decide +kernel
theorem zd_X7_take_40 : (zc_X7_take.drop 40).all (z_dok cX7_take) = true := by decide +kernel
theorem zd_X7_take : zc_X7_take.all (z_dok cX7_take) = true := (z_ch 40 zd_X7_take_0 zd_X7_take_40)
theorem zd_X7_twins_0 : (zc_X7_twins.take 40).all (z_dok cX7_twins) = true := by decide +kernel
theorem zd_X7_twins_40 : (zc_X7_twins.drop 40).all (z_dok cX7_twins) = true := by decide +kernel
theorem zd_X7_twins : zc_X7_twins.all (z_dok cX7_twins) = true := (z_ch 40 zd_X7_twins_0 zd_X7_twins_40)
theorem zd_X1_isNineGates : zc_X1_isNineGates.all (z_dok cX1_isNineGates) = true := by decide +kernel
theorem zd_X1_weighCompleted_0 : (zc_X1_weighCompleted.take 40).all (z_dok cX1_weighCompleted) = true := by decide +kernel
theorem zd_X1_weighCompleted_40 : (zc_X1_weighCompleted.drop 40).all (z_dok cX1_weighCompleted) = true := by decide +kernel
theorem zd_X1_weighCompleted : zc_X1_weighCompleted.all (z_dok cX1_weighCompleted) = true := (z_ch 40 zd_X1_weighCompleted_0 zd_X1_weighCompleted_40)
theorem zd_X3_addToThree_0 : (zc_X3_addToThree.take 40).all (z_dok cX3_addToThree) = true := by decide +kernel
theorem zd_X3_addToThree_40 : (zc_X3_addToThree.drop 40).all (z_dok cX3_addToThree) = true := by decide +kernel
theorem zd_X3_addToThree : zc_X3_addToThree.all (z_dok cX3_addToThree) = true := (z_ch 40 zd_X3_addToThree_0 zd_X3_addToThree_40)
theorem zd_X3_isSetsAndPair : zc_X3_isSetsAndPair.all (z_dok cX3_isSetsAndPair) = true := by decide +kernel
theorem zd_X3_take : zc_X3_take.all (z_dok cX3_take) = true := by decide +kernel
theorem zd_X4_dearTiles : zc_X4_dearTiles.all (z_dok cX4_dearTiles) = true := by decide +kernel
theorem zd_X6_drawTile : zc_X6_drawTile.all (z_dok cX6_drawTile) = true := by decide +kernel
theorem zd_X6_endHand_0 : (zc_X6_endHand.take 40).all (z_dok cX6_endHand) = true := by decide +kernel
theorem zd_X6_endHand_40 : (zc_X6_endHand.drop 40).all (z_dok cX6_endHand) = true := by decide +kernel
theorem zd_X6_endHand : zc_X6_endHand.all (z_dok cX6_endHand) = true := (z_ch 40 zd_X6_endHand_0 zd_X6_endHand_40)
theorem zd_X6_hand : zc_X6_hand.all (z_dok cX6_hand) = true := by decide +kernel
theorem zd_X6_lay : zc_X6_lay.all (z_dok cX6_lay) = true := by decide +kernel
theorem zd_X6_mayClaimSet : zc_X6_mayClaimSet.all (z_dok cX6_mayClaimSet) = true := by decide +kernel
theorem zd_X6_mayThrow : zc_X6_mayThrow.all (z_dok cX6_mayThrow) = true := by decide +kernel
theorem zd_X6_set_0 : (zc_X6_set.take 40).all (z_dok cX6_set) = true := by decide +kernel
theorem zd_X6_set_40 : (zc_X6_set.drop 40).all (z_dok cX6_set) = true := by decide +kernel
theorem zd_X6_set : zc_X6_set.all (z_dok cX6_set) = true := (z_ch 40 zd_X6_set_0 zd_X6_set_40)
theorem zd_X7_add_0 : (zc_X7_add.take 40).all (z_dok cX7_add) = true := by decide +kernel
theorem zd_X7_add_40 : (zc_X7_add.drop 40).all (z_dok cX7_add) = true := by decide +kernel
theorem zd_X7_add : zc_X7_add.all (z_dok cX7_add) = true := (z_ch 40 zd_X7_add_0 zd_X7_add_40)
theorem zd_X7_deal_0 : (zc_X7_deal.take 40).all (z_dok cX7_deal) = true := by decide +kernel
theorem zd_X7_deal_40 : ((zc_X7_deal.drop 40).take 40).all (z_dok cX7_deal) = true := by decide +kernel
theorem zd_X7_deal_80 : (((zc_X7_deal.drop 40).drop 40).take 40).all (z_dok cX7_deal) = true := by decide +kernel
theorem zd_X7_deal_120 : ((((zc_X7_deal.drop 40).drop 40).drop 40).take 40).all (z_dok cX7_deal) = true := by decide +kernel
theorem zd_X7_deal_160 : ((((zc_X7_deal.drop 40).drop 40).drop 40).drop 40).all (z_dok cX7_deal) = true := by decide +kernel
theorem zd_X7_deal : zc_X7_deal.all (z_dok cX7_deal) = true := (z_ch 40 zd_X7_deal_0 (z_ch 40 zd_X7_deal_40 (z_ch 40 zd_X7_deal_80 (z_ch 40 zd_X7_deal_120 zd_X7_deal_160))))
theorem zd_X7_dearTiles_0 : (zc_X7_dearTiles.take 40).all (z_dok cX7_dearTiles) = true := by decide +kernel
theorem zd_X7_dearTiles_40 : (zc_X7_dearTiles.drop 40).all (z_dok cX7_dearTiles) = true := by decide +kernel
theorem zd_X7_dearTiles : zc_X7_dearTiles.all (z_dok cX7_dearTiles) = true := (z_ch 40 zd_X7_dearTiles_0 zd_X7_dearTiles_40)
theorem zd_X7_edges_0 : (zc_X7_edges.take 40).all (z_dok cX7_edges) = true := by decide +kernel
theorem zd_X7_edges_40 : ((zc_X7_edges.drop 40).take 40).all (z_dok cX7_edges) = true := by decide +kernel
theorem zd_X7_edges_80 : ((zc_X7_edges.drop 40).drop 40).all (z_dok cX7_edges) = true := by decide +kernel
theorem zd_X7_edges : zc_X7_edges.all (z_dok cX7_edges) = true := (z_ch 40 zd_X7_edges_0 (z_ch 40 zd_X7_edges_40 zd_X7_edges_80))
theorem zd_X7_hide : zc_X7_hide.all (z_dok cX7_hide) = true := by decide +kernel
theorem zd_X7_lay : zc_X7_lay.all (z_dok cX7_lay) = true := by decide +kernel
theorem zd_X7_nine_0 : (zc_X7_nine.take 40).all (z_dok cX7_nine) = true := by decide +kernel
theorem zd_X7_nine_40 : (zc_X7_nine.drop 40).all (z_dok cX7_nine) = true := by decide +kernel
theorem zd_X7_nine : zc_X7_nine.all (z_dok cX7_nine) = true := (z_ch 40 zd_X7_nine_0 zd_X7_nine_40)
theorem zd_X7_set_0 : (zc_X7_set.take 40).all (z_dok cX7_set) = true := by decide +kernel
theorem zd_X7_set_40 : (zc_X7_set.drop 40).all (z_dok cX7_set) = true := by decide +kernel
theorem zd_X7_set : zc_X7_set.all (z_dok cX7_set) = true := (z_ch 40 zd_X7_set_0 zd_X7_set_40)
theorem zd_X7_thirteen : zc_X7_thirteen.all (z_dok cX7_thirteen) = true := by decide +kernel
theorem zd_X7_tiles_0 : (zc_X7_tiles.take 40).all (z_dok cX7_tiles) = true := by decide +kernel
theorem zd_X7_tiles_40 : ((zc_X7_tiles.drop 40).take 40).all (z_dok cX7_tiles) = true := by decide +kernel
theorem zd_X7_tiles_80 : (((zc_X7_tiles.drop 40).drop 40).take 40).all (z_dok cX7_tiles) = true := by decide +kernel
theorem zd_X7_tiles_120 : ((((zc_X7_tiles.drop 40).drop 40).drop 40).take 40).all (z_dok cX7_tiles) = true := by decide +kernel
theorem zd_X7_tiles_160 : (((((zc_X7_tiles.drop 40).drop 40).drop 40).drop 40).take 40).all (z_dok cX7_tiles) = true := by decide +kernel
theorem zd_X7_tiles_200 : (((((zc_X7_tiles.drop 40).drop 40).drop 40).drop 40).drop 40).all (z_dok cX7_tiles) = true := by decide +kernel
theorem zd_X7_tiles : zc_X7_tiles.all (z_dok cX7_tiles) = true := (z_ch 40 zd_X7_tiles_0 (z_ch 40 zd_X7_tiles_40 (z_ch 40 zd_X7_tiles_80 (z_ch 40 zd_X7_tiles_120 (z_ch 40 zd_X7_tiles_160 zd_X7_tiles_200)))))
theorem zd_X1_tileForms_0 : (zc_X1_tileForms.take 40).all (z_dok cX1_tileForms) = true := by decide +kernel
theorem zd_X1_tileForms_40 : ((zc_X1_tileForms.drop 40).take 40).all (z_dok cX1_tileForms) = true := by decide +kernel
theorem zd_X1_tileForms_80 : ((zc_X1_tileForms.drop 40).drop 40).all (z_dok cX1_tileForms) = true := by decide +kernel
theorem zd_X1_tileForms : zc_X1_tileForms.all (z_dok cX1_tileForms) = true := (z_ch 40 zd_X1_tileForms_0 (z_ch 40 zd_X1_tileForms_40 zd_X1_tileForms_80))
theorem zd_X1_weighWay_0 : (zc_X1_weighWay.take 40).all (z_dok cX1_weighWay) = true := by decide +kernel
theorem zd_X1_weighWay_40 : (zc_X1_weighWay.drop 40).all (z_dok cX1_weighWay) = true := by decide +kernel
theorem zd_X1_weighWay : zc_X1_weighWay.all (z_dok cX1_weighWay) = true := (z_ch 40 zd_X1_weighWay_0 zd_X1_weighWay_40)
theorem zd_X3_waitsFor : zc_X3_waitsFor.all (z_dok cX3_waitsFor) = true := by decide +kernel
theorem zd_X6_add : zc_X6_add.all (z_dok cX6_add) = true := by decide +kernel
theorem zd_X6_deal_0 : (zc_X6_deal.take 40).all (z_dok cX6_deal) = true := by decide +kernel
theorem zd_X6_deal_40 : (zc_X6_deal.drop 40).all (z_dok cX6_deal) = true := by decide +kernel
theorem zd_X6_deal : zc_X6_deal.all (z_dok cX6_deal) = true := (z_ch 40 zd_X6_deal_0 zd_X6_deal_40)
theorem zd_X6_makeFour : zc_X6_makeFour.all (z_dok cX6_makeFour) = true := by decide +kernel
theorem zd_X6_nine : zc_X6_nine.all (z_dok cX6_nine) = true := by decide +kernel
theorem zd_X7_firstSort_0 : (zc_X7_firstSort.take 40).all (z_dok cX7_firstSort) = true := by decide +kernel
theorem zd_X7_firstSort_40 : ((zc_X7_firstSort.drop 40).take 40).all (z_dok cX7_firstSort) = true := by decide +kernel
theorem zd_X7_firstSort_80 : (((zc_X7_firstSort.drop 40).drop 40).take 40).all (z_dok cX7_firstSort) = true := by decide +kernel
theorem zd_X7_firstSort_120 : ((((zc_X7_firstSort.drop 40).drop 40).drop 40).take 40).all (z_dok cX7_firstSort) = true := by decide +kernel
theorem zd_X7_firstSort_160 : (((((zc_X7_firstSort.drop 40).drop 40).drop 40).drop 40).take 40).all (z_dok cX7_firstSort) = true := by decide +kernel
theorem zd_X7_firstSort_200 : ((((((zc_X7_firstSort.drop 40).drop 40).drop 40).drop 40).drop 40).take 40).all (z_dok cX7_firstSort) = true := by decide +kernel
theorem zd_X7_firstSort_240 : (((((((zc_X7_firstSort.drop 40).drop 40).drop 40).drop 40).drop 40).drop 40).take 40).all (z_dok cX7_firstSort) = true := by decide +kernel
theorem zd_X7_firstSort_280 : ((((((((zc_X7_firstSort.drop 40).drop 40).drop 40).drop 40).drop 40).drop 40).drop 40).take 40).all (z_dok cX7_firstSort) = true := by decide +kernel
theorem zd_X7_firstSort_320 : (((((((((zc_X7_firstSort.drop 40).drop 40).drop 40).drop 40).drop 40).drop 40).drop 40).drop 40).take 40).all (z_dok cX7_firstSort) = true := by decide +kernel
theorem zd_X7_firstSort_360 : ((((((((((zc_X7_firstSort.drop 40).drop 40).drop 40).drop 40).drop 40).drop 40).drop 40).drop 40).drop 40).take 40).all (z_dok cX7_firstSort) = true := by decide +kernel
theorem zd_X7_firstSort_400 : (((((((((((zc_X7_firstSort.drop 40).drop 40).drop 40).drop 40).drop 40).drop 40).drop 40).drop 40).drop 40).drop 40).take 40).all (z_dok cX7_firstSort) = true := by decide +kernel
theorem zd_X7_firstSort_440 : ((((((((((((zc_X7_firstSort.drop 40).drop 40).drop 40).drop 40).drop 40).drop 40).drop 40).drop 40).drop 40).drop 40).drop 40).take 40).all (z_dok cX7_firstSort) = true := by decide +kernel
theorem zd_X7_firstSort_480 : (((((((((((((zc_X7_firstSort.drop 40).drop 40).drop 40).drop 40).drop 40).drop 40).drop 40).drop 40).drop 40).drop 40).drop 40).drop 40).take 40).all (z_dok cX7_firstSort) = true := by decide +kernel
theorem zd_X7_firstSort_520 : ((((((((((((((zc_X7_firstSort.drop 40).drop 40).drop 40).drop 40).drop 40).drop 40).drop 40).drop 40).drop 40).drop 40).drop 40).drop 40).drop 40).take 40).all (z_dok cX7_firstSort) = true := by decide +kernel
theorem zd_X7_firstSort_560 : ((((((((((((((zc_X7_firstSort.drop 40).drop 40).drop 40).drop 40).drop 40).drop 40).drop 40).drop 40).drop 40).drop 40).drop 40).drop 40).drop 40).drop 40).all (z_dok cX7_firstSort) = true := by decide +kernel
theorem zd_X7_firstSort : zc_X7_firstSort.all (z_dok cX7_firstSort) = true := (z_ch 40 zd_X7_firstSort_0 (z_ch 40 zd_X7_firstSort_40 (z_ch 40 zd_X7_firstSort_80 (z_ch 40 zd_X7_firstSort_120 (z_ch 40 zd_X7_firstSort_160 (z_ch 40 zd_X7_firstSort_200 (z_ch 40 zd_X7_firstSort_240 (z_ch 40 zd_X7_firstSort_280 (z_ch 40 zd_X7_firstSort_320 (z_ch 40 zd_X7_firstSort_360 (z_ch 40 zd_X7_firstSort_400 (z_ch 40 zd_X7_firstSort_440 (z_ch 40 zd_X7_firstSort_480 (z_ch 40 zd_X7_firstSort_520 zd_X7_firstSort_560))))))))))))))
theorem zd_X7_pairsWay : zc_X7_pairsWay.all (z_dok cX7_pairsWay) = true := by decide +kernel
theorem zd_X1_judge_0 : (zc_X1_judge.take 40).all (z_dok cX1_judge) = true := by decide +kernel
theorem zd_X1_judge_40 : ((zc_X1_judge.drop 40).take 40).all (z_dok cX1_judge) = true := by decide +kernel
theorem zd_X1_judge_80 : ((zc_X1_judge.drop 40).drop 40).all (z_dok cX1_judge) = true := by decide +kernel
theorem zd_X1_judge : zc_X1_judge.all (z_dok cX1_judge) = true := (z_ch 40 zd_X1_judge_0 (z_ch 40 zd_X1_judge_40 zd_X1_judge_80))
theorem zd_X3_waiting : zc_X3_waiting.all (z_dok cX3_waiting) = true := by decide +kernel
theorem zd_X6_hide : zc_X6_hide.all (z_dok cX6_hide) = true := by decide +kernel
theorem zd_X6_letTileGo : zc_X6_letTileGo.all (z_dok cX6_letTileGo) = true := by decide +kernel
theorem zd_X7_way_0 : (zc_X7_way.take 40).all (z_dok cX7_way) = true := by decide +kernel
theorem zd_X7_way_40 : ((zc_X7_way.drop 40).take 40).all (z_dok cX7_way) = true := by decide +kernel
theorem zd_X7_way_80 : (((zc_X7_way.drop 40).drop 40).take 40).all (z_dok cX7_way) = true := by decide +kernel
theorem zd_X7_way_120 : (((zc_X7_way.drop 40).drop 40).drop 40).all (z_dok cX7_way) = true := by decide +kernel
theorem zd_X7_way : zc_X7_way.all (z_dok cX7_way) = true := (z_ch 40 zd_X7_way_0 (z_ch 40 zd_X7_way_40 (z_ch 40 zd_X7_way_80 zd_X7_way_120)))
theorem zd_X6_deskWaits : zc_X6_deskWaits.all (z_dok cX6_deskWaits) = true := by decide +kernel
theorem zd_X6_endUnwon_0 : (zc_X6_endUnwon.take 40).all (z_dok cX6_endUnwon) = true := by decide +kernel
theorem zd_X6_endUnwon_40 : (zc_X6_endUnwon.drop 40).all (z_dok cX6_endUnwon) = true := by decide +kernel
theorem zd_X6_endUnwon : zc_X6_endUnwon.all (z_dok cX6_endUnwon) = true := (z_ch 40 zd_X6_endUnwon_0 zd_X6_endUnwon_40)
theorem zd_X6_mayBet : zc_X6_mayBet.all (z_dok cX6_mayBet) = true := by decide +kernel
theorem zd_X6_takeSet : zc_X6_takeSet.all (z_dok cX6_takeSet) = true := by decide +kernel
theorem zd_X6_waits : zc_X6_waits.all (z_dok cX6_waits) = true := by decide +kernel
theorem zd_X6_weighHand_0 : (zc_X6_weighHand.take 40).all (z_dok cX6_weighHand) = true := by decide +kernel
theorem zd_X6_weighHand_40 : (zc_X6_weighHand.drop 40).all (z_dok cX6_weighHand) = true := by decide +kernel
theorem zd_X6_weighHand : zc_X6_weighHand.all (z_dok cX6_weighHand) = true := (z_ch 40 zd_X6_weighHand_0 zd_X6_weighHand_40)
theorem zd_X6_worth : zc_X6_worth.all (z_dok cX6_worth) = true := by decide +kernel
theorem zd_X7_sets_0 : (zc_X7_sets.take 40).all (z_dok cX7_sets) = true := by decide +kernel
theorem zd_X7_sets_40 : ((zc_X7_sets.drop 40).take 40).all (z_dok cX7_sets) = true := by decide +kernel
theorem zd_X7_sets_80 : (((zc_X7_sets.drop 40).drop 40).take 40).all (z_dok cX7_sets) = true := by decide +kernel
theorem zd_X7_sets_120 : ((((zc_X7_sets.drop 40).drop 40).drop 40).take 40).all (z_dok cX7_sets) = true := by decide +kernel
theorem zd_X7_sets_160 : ((((zc_X7_sets.drop 40).drop 40).drop 40).drop 40).all (z_dok cX7_sets) = true := by decide +kernel
theorem zd_X7_sets : zc_X7_sets.all (z_dok cX7_sets) = true := (z_ch 40 zd_X7_sets_0 (z_ch 40 zd_X7_sets_40 (z_ch 40 zd_X7_sets_80 (z_ch 40 zd_X7_sets_120 zd_X7_sets_160))))
theorem zd_X6_claim_0 : (zc_X6_claim.take 40).all (z_dok cX6_claim) = true := by decide +kernel
theorem zd_X6_claim_40 : (zc_X6_claim.drop 40).all (z_dok cX6_claim) = true := by decide +kernel
theorem zd_X6_claim : zc_X6_claim.all (z_dok cX6_claim) = true := (z_ch 40 zd_X6_claim_0 zd_X6_claim_40)
theorem zd_X6_discard_0 : (zc_X6_discard.take 40).all (z_dok cX6_discard) = true := by decide +kernel
theorem zd_X6_discard_40 : (zc_X6_discard.drop 40).all (z_dok cX6_discard) = true := by decide +kernel
theorem zd_X6_discard : zc_X6_discard.all (z_dok cX6_discard) = true := (z_ch 40 zd_X6_discard_0 zd_X6_discard_40)
theorem zd_X6_four : zc_X6_four.all (z_dok cX6_four) = true := by decide +kernel
theorem zd_X6_run_0 : (zc_X6_run.take 40).all (z_dok cX6_run) = true := by decide +kernel
theorem zd_X6_run_40 : ((zc_X6_run.drop 40).take 40).all (z_dok cX6_run) = true := by decide +kernel
theorem zd_X6_run_80 : ((zc_X6_run.drop 40).drop 40).all (z_dok cX6_run) = true := by decide +kernel
theorem zd_X6_run : zc_X6_run.all (z_dok cX6_run) = true := (z_ch 40 zd_X6_run_0 (z_ch 40 zd_X6_run_40 zd_X6_run_80))
theorem zd_X6_three : zc_X6_three.all (z_dok cX6_three) = true := by decide +kernel
theorem zd_X6_win_0 : (zc_X6_win.take 40).all (z_dok cX6_win) = true := by decide +kernel
theorem zd_X6_win_40 : ((zc_X6_win.drop 40).take 40).all (z_dok cX6_win) = true := by decide +kernel
theorem zd_X6_win_80 : ((zc_X6_win.drop 40).drop 40).all (z_dok cX6_win) = true := by decide +kernel
theorem zd_X6_win : zc_X6_win.all (z_dok cX6_win) = true := (z_ch 40 zd_X6_win_0 (z_ch 40 zd_X6_win_40 zd_X6_win_80))
theorem zd_X6_winByTile_0 : (zc_X6_winByTile.take 40).all (z_dok cX6_winByTile) = true := by decide +kernel
theorem zd_X6_winByTile_40 : ((zc_X6_winByTile.drop 40).take 40).all (z_dok cX6_winByTile) = true := by decide +kernel
theorem zd_X6_winByTile_80 : ((zc_X6_winByTile.drop 40).drop 40).all (z_dok cX6_winByTile) = true := by decide +kernel
theorem zd_X6_winByTile : zc_X6_winByTile.all (z_dok cX6_winByTile) = true := (z_ch 40 zd_X6_winByTile_0 (z_ch 40 zd_X6_winByTile_40 zd_X6_winByTile_80))
theorem zd_X7_apart_0 : (zc_X7_apart.take 40).all (z_dok cX7_apart) = true := by decide +kernel
theorem zd_X7_apart_40 : ((zc_X7_apart.drop 40).take 40).all (z_dok cX7_apart) = true := by decide +kernel
theorem zd_X7_apart_80 : (((zc_X7_apart.drop 40).drop 40).take 40).all (z_dok cX7_apart) = true := by decide +kernel
theorem zd_X7_apart_120 : (((zc_X7_apart.drop 40).drop 40).drop 40).all (z_dok cX7_apart) = true := by decide +kernel
theorem zd_X7_apart : zc_X7_apart.all (z_dok cX7_apart) = true := (z_ch 40 zd_X7_apart_0 (z_ch 40 zd_X7_apart_40 (z_ch 40 zd_X7_apart_80 zd_X7_apart_120)))
theorem zd_X6_pass : zc_X6_pass.all (z_dok cX6_pass) = true := by decide +kernel
theorem zd_X7_reckon : zc_X7_reckon.all (z_dok cX7_reckon) = true := by decide +kernel
theorem zd_X7_waitsOf_0 : (zc_X7_waitsOf.take 40).all (z_dok cX7_waitsOf) = true := by decide +kernel
theorem zd_X7_waitsOf_40 : (zc_X7_waitsOf.drop 40).all (z_dok cX7_waitsOf) = true := by decide +kernel
theorem zd_X7_waitsOf : zc_X7_waitsOf.all (z_dok cX7_waitsOf) = true := (z_ch 40 zd_X7_waitsOf_0 zd_X7_waitsOf_40)
theorem zd_X7_deskWaits : zc_X7_deskWaits.all (z_dok cX7_deskWaits) = true := by decide +kernel
theorem zd_X7_value_0 : (zc_X7_value.take 40).all (z_dok cX7_value) = true := by decide +kernel
theorem zd_X7_value_40 : ((zc_X7_value.drop 40).take 40).all (z_dok cX7_value) = true := by decide +kernel
theorem zd_X7_value_80 : (((zc_X7_value.drop 40).drop 40).take 40).all (z_dok cX7_value) = true := by decide +kernel
theorem zd_X7_value_120 : (((zc_X7_value.drop 40).drop 40).drop 40).all (z_dok cX7_value) = true := by decide +kernel
theorem zd_X7_value : zc_X7_value.all (z_dok cX7_value) = true := (z_ch 40 zd_X7_value_0 (z_ch 40 zd_X7_value_40 (z_ch 40 zd_X7_value_80 zd_X7_value_120)))
theorem zd_X7_waitsAt : zc_X7_waitsAt.all (z_dok cX7_waitsAt) = true := by decide +kernel
theorem zd_X7_worth_0 : (zc_X7_worth.take 40).all (z_dok cX7_worth) = true := by decide +kernel
theorem zd_X7_worth_40 : (zc_X7_worth.drop 40).all (z_dok cX7_worth) = true := by decide +kernel
theorem zd_X7_worth : zc_X7_worth.all (z_dok cX7_worth) = true := (z_ch 40 zd_X7_worth_0 zd_X7_worth_40)
theorem zd_X7_allWin_0 : (zc_X7_allWin.take 40).all (z_dok cX7_allWin) = true := by decide +kernel
theorem zd_X7_allWin_40 : ((zc_X7_allWin.drop 40).take 40).all (z_dok cX7_allWin) = true := by decide +kernel
theorem zd_X7_allWin_80 : ((zc_X7_allWin.drop 40).drop 40).all (z_dok cX7_allWin) = true := by decide +kernel
theorem zd_X7_allWin : zc_X7_allWin.all (z_dok cX7_allWin) = true := (z_ch 40 zd_X7_allWin_0 (z_ch 40 zd_X7_allWin_40 zd_X7_allWin_80))
theorem zd_X7_claim_0 : (zc_X7_claim.take 40).all (z_dok cX7_claim) = true := by decide +kernel
theorem zd_X7_claim_40 : (zc_X7_claim.drop 40).all (z_dok cX7_claim) = true := by decide +kernel
theorem zd_X7_claim : zc_X7_claim.all (z_dok cX7_claim) = true := (z_ch 40 zd_X7_claim_0 zd_X7_claim_40)
theorem zd_X7_discard_0 : (zc_X7_discard.take 40).all (z_dok cX7_discard) = true := by decide +kernel
theorem zd_X7_discard_40 : ((zc_X7_discard.drop 40).take 40).all (z_dok cX7_discard) = true := by decide +kernel
theorem zd_X7_discard_80 : (((zc_X7_discard.drop 40).drop 40).take 40).all (z_dok cX7_discard) = true := by decide +kernel
theorem zd_X7_discard_120 : (((zc_X7_discard.drop 40).drop 40).drop 40).all (z_dok cX7_discard) = true := by decide +kernel
theorem zd_X7_discard : zc_X7_discard.all (z_dok cX7_discard) = true := (z_ch 40 zd_X7_discard_0 (z_ch 40 zd_X7_discard_40 (z_ch 40 zd_X7_discard_80 zd_X7_discard_120)))
theorem zd_X7_nobodyWins_0 : (zc_X7_nobodyWins.take 40).all (z_dok cX7_nobodyWins) = true := by decide +kernel
theorem zd_X7_nobodyWins_40 : (zc_X7_nobodyWins.drop 40).all (z_dok cX7_nobodyWins) = true := by decide +kernel
theorem zd_X7_nobodyWins : zc_X7_nobodyWins.all (z_dok cX7_nobodyWins) = true := (z_ch 40 zd_X7_nobodyWins_0 zd_X7_nobodyWins_40)
theorem zd_X7_over : zc_X7_over.all (z_dok cX7_over) = true := by decide +kernel
theorem zd_X7_waits : zc_X7_waits.all (z_dok cX7_waits) = true := by decide +kernel
theorem zd_X7_win_0 : (zc_X7_win.take 40).all (z_dok cX7_win) = true := by decide +kernel
theorem zd_X7_win_40 : ((zc_X7_win.drop 40).take 40).all (z_dok cX7_win) = true := by decide +kernel
theorem zd_X7_win_80 : ((zc_X7_win.drop 40).drop 40).all (z_dok cX7_win) = true := by decide +kernel
theorem zd_X7_win : zc_X7_win.all (z_dok cX7_win) = true := (z_ch 40 zd_X7_win_0 (z_ch 40 zd_X7_win_40 zd_X7_win_80))
theorem zd_X7_four : zc_X7_four.all (z_dok cX7_four) = true := by decide +kernel
theorem zd_X7_pass_0 : (zc_X7_pass.take 40).all (z_dok cX7_pass) = true := by decide +kernel
theorem zd_X7_pass_40 : (zc_X7_pass.drop 40).all (z_dok cX7_pass) = true := by decide +kernel
theorem zd_X7_pass : zc_X7_pass.all (z_dok cX7_pass) = true := (z_ch 40 zd_X7_pass_0 zd_X7_pass_40)
theorem zd_X7_run_0 : (zc_X7_run.take 40).all (z_dok cX7_run) = true := by decide +kernel
theorem zd_X7_run_40 : ((zc_X7_run.drop 40).take 40).all (z_dok cX7_run) = true := by decide +kernel
theorem zd_X7_run_80 : (((zc_X7_run.drop 40).drop 40).take 40).all (z_dok cX7_run) = true := by decide +kernel
theorem zd_X7_run_120 : (((zc_X7_run.drop 40).drop 40).drop 40).all (z_dok cX7_run) = true := by decide +kernel
theorem zd_X7_run : zc_X7_run.all (z_dok cX7_run) = true := (z_ch 40 zd_X7_run_0 (z_ch 40 zd_X7_run_40 (z_ch 40 zd_X7_run_80 zd_X7_run_120)))
theorem zd_X7_three_0 : (zc_X7_three.take 40).all (z_dok cX7_three) = true := by decide +kernel
theorem zd_X7_three_40 : (zc_X7_three.drop 40).all (z_dok cX7_three) = true := by decide +kernel
theorem zd_X7_three : zc_X7_three.all (z_dok cX7_three) = true := (z_ch 40 zd_X7_three_0 zd_X7_three_40)
theorem zd_L_law_0 : (zc_L_law.take 40).all (z_dok cL_law) = true := by decide +kernel
theorem zd_L_law_40 : ((zc_L_law.drop 40).take 40).all (z_dok cL_law) = true := by decide +kernel
theorem zd_L_law_80 : (((zc_L_law.drop 40).drop 40).take 40).all (z_dok cL_law) = true := by decide +kernel
theorem zd_L_law_120 : ((((zc_L_law.drop 40).drop 40).drop 40).take 40).all (z_dok cL_law) = true := by decide +kernel
theorem zd_L_law_160 : (((((zc_L_law.drop 40).drop 40).drop 40).drop 40).take 40).all (z_dok cL_law) = true := by decide +kernel
theorem zd_L_law_200 : ((((((zc_L_law.drop 40).drop 40).drop 40).drop 40).drop 40).take 40).all (z_dok cL_law) = true := by decide +kernel
theorem zd_L_law_240 : (((((((zc_L_law.drop 40).drop 40).drop 40).drop 40).drop 40).drop 40).take 40).all (z_dok cL_law) = true := by decide +kernel
theorem zd_L_law_280 : ((((((((zc_L_law.drop 40).drop 40).drop 40).drop 40).drop 40).drop 40).drop 40).take 40).all (z_dok cL_law) = true := by decide +kernel
theorem zd_L_law_320 : (((((((((zc_L_law.drop 40).drop 40).drop 40).drop 40).drop 40).drop 40).drop 40).drop 40).take 40).all (z_dok cL_law) = true := by decide +kernel
theorem zd_L_law_360 : ((((((((((zc_L_law.drop 40).drop 40).drop 40).drop 40).drop 40).drop 40).drop 40).drop 40).drop 40).take 40).all (z_dok cL_law) = true := by decide +kernel
theorem zd_L_law_400 : (((((((((((zc_L_law.drop 40).drop 40).drop 40).drop 40).drop 40).drop 40).drop 40).drop 40).drop 40).drop 40).take 40).all (z_dok cL_law) = true := by decide +kernel
theorem zd_L_law_440 : ((((((((((((zc_L_law.drop 40).drop 40).drop 40).drop 40).drop 40).drop 40).drop 40).drop 40).drop 40).drop 40).drop 40).take 40).all (z_dok cL_law) = true := by decide +kernel
theorem zd_L_law_480 : (((((((((((((zc_L_law.drop 40).drop 40).drop 40).drop 40).drop 40).drop 40).drop 40).drop 40).drop 40).drop 40).drop 40).drop 40).take 40).all (z_dok cL_law) = true := by decide +kernel
theorem zd_L_law_520 : ((((((((((((((zc_L_law.drop 40).drop 40).drop 40).drop 40).drop 40).drop 40).drop 40).drop 40).drop 40).drop 40).drop 40).drop 40).drop 40).take 40).all (z_dok cL_law) = true := by decide +kernel
theorem zd_L_law_560 : (((((((((((((((zc_L_law.drop 40).drop 40).drop 40).drop 40).drop 40).drop 40).drop 40).drop 40).drop 40).drop 40).drop 40).drop 40).drop 40).drop 40).take 40).all (z_dok cL_law) = true := by decide +kernel
theorem zd_L_law_600 : (((((((((((((((zc_L_law.drop 40).drop 40).drop 40).drop 40).drop 40).drop 40).drop 40).drop 40).drop 40).drop 40).drop 40).drop 40).drop 40).drop 40).drop 40).all (z_dok cL_law) = true := by decide +kernel
theorem zd_L_law : zc_L_law.all (z_dok cL_law) = true := (z_ch 40 zd_L_law_0 (z_ch 40 zd_L_law_40 (z_ch 40 zd_L_law_80 (z_ch 40 zd_L_law_120 (z_ch 40 zd_L_law_160 (z_ch 40 zd_L_law_200 (z_ch 40 zd_L_law_240 (z_ch 40 zd_L_law_280 (z_ch 40 zd_L_law_320 (z_ch 40 zd_L_law_360 (z_ch 40 zd_L_law_400 (z_ch 40 zd_L_law_440 (z_ch 40 zd_L_law_480 (z_ch 40 zd_L_law_520 (z_ch 40 zd_L_law_560 zd_L_law_600)))))))))))))))

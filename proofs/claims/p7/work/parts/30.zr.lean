set_option maxRecDepth 100000 in
theorem zk_X0_baseOf : Cond.code yX0_baseOf cX0_baseOf 3 (some .int) ∈ TT := List.mem_filter.mpr ⟨List.mem_of_getElem? (i := 604) rfl, rfl⟩
set_option maxRecDepth 100000 in
theorem zk_X0_hanOf : Cond.code yX0_hanOf cX0_hanOf 5 (some .int) ∈ TT := List.mem_filter.mpr ⟨List.mem_of_getElem? (i := 597) rfl, rfl⟩
set_option maxRecDepth 100000 in
theorem zk_X1_bit : Cond.code yX1_bit cX1_bit 2 (some .long) ∈ TT := List.mem_filter.mpr ⟨List.mem_of_getElem? (i := 572) rfl, rfl⟩
set_option maxRecDepth 100000 in
theorem zk_X1_chosenThrees : Cond.code yX1_chosenThrees cX1_chosenThrees 5 (some .long) ∈ TT := List.mem_filter.mpr ⟨List.mem_of_getElem? (i := 618) rfl, rfl⟩
set_option maxRecDepth 100000 in
theorem zk_X1_findThrees : Cond.code yX1_findThrees cX1_findThrees 3 (some .int) ∈ TT := List.mem_filter.mpr ⟨List.mem_of_getElem? (i := 614) rfl, rfl⟩
set_option maxRecDepth 100000 in
theorem zk_X1_isBetter : Cond.code yX1_isBetter cX1_isBetter 6 (some .boolean) ∈ TT := List.mem_filter.mpr ⟨List.mem_of_getElem? (i := 608) rfl, rfl⟩
set_option maxRecDepth 100000 in
theorem zk_X1_isHidden : Cond.code yX1_isHidden cX1_isHidden 3 (some .boolean) ∈ TT := List.mem_filter.mpr ⟨List.mem_of_getElem? (i := 657) rfl, rfl⟩
set_option maxRecDepth 100000 in
theorem zk_X1_mayHaveCompleted : Cond.code yX1_mayHaveCompleted cX1_mayHaveCompleted 4 (some .boolean) ∈ TT := List.mem_filter.mpr ⟨List.mem_of_getElem? (i := 649) rfl, rfl⟩
set_option maxRecDepth 100000 in
theorem zk_X1_pairFu : Cond.code yX1_pairFu cX1_pairFu 1 (some .int) ∈ TT := List.mem_filter.mpr ⟨List.mem_of_getElem? (i := 661) rfl, rfl⟩
set_option maxRecDepth 100000 in
theorem zk_X1_toldOnes : Cond.code yX1_toldOnes cX1_toldOnes 5 (some .long) ∈ TT := List.mem_filter.mpr ⟨List.mem_of_getElem? (i := 558) rfl, rfl⟩
set_option maxRecDepth 100000 in
theorem zk_X1_waitFu : Cond.code yX1_waitFu cX1_waitFu 4 (some .int) ∈ TT := List.mem_filter.mpr ⟨List.mem_of_getElem? (i := 665) rfl, rfl⟩
set_option maxRecDepth 100000 in
theorem zk_X2_throwTile : Cond.code yX2_throwTile cX2_throwTile 2 none ∈ TT := List.mem_filter.mpr ⟨List.mem_of_getElem? (i := 498) rfl, rfl⟩
set_option maxRecDepth 100000 in
theorem zk_X2_thrown : Cond.code yX2_thrown cX2_thrown 2 (some .int) ∈ TT := List.mem_filter.mpr ⟨List.mem_of_getElem? (i := 928) rfl, rfl⟩
set_option maxRecDepth 100000 in
theorem zk_X3_empty : Cond.code yX3_empty cX3_empty 2 none ∈ TT := List.mem_filter.mpr ⟨List.mem_of_getElem? (i := 401) rfl, rfl⟩
set_option maxRecDepth 100000 in
theorem zk_X3_isOpen : Cond.code yX3_isOpen cX3_isOpen 2 (some .boolean) ∈ TT := List.mem_filter.mpr ⟨List.mem_of_getElem? (i := 453) rfl, rfl⟩
set_option maxRecDepth 100000 in
theorem zk_X3_isSevenPairs : Cond.code yX3_isSevenPairs cX3_isSevenPairs 2 (some .boolean) ∈ TT := List.mem_filter.mpr ⟨List.mem_of_getElem? (i := 473) rfl, rfl⟩
set_option maxRecDepth 100000 in
theorem zk_X3_kinds : Cond.code yX3_kinds cX3_kinds 4 (some .long) ∈ TT := List.mem_filter.mpr ⟨List.mem_of_getElem? (i := 481) rfl, rfl⟩
set_option maxRecDepth 100000 in
theorem zk_X3_size : Cond.code yX3_size cX3_size 1 (some .int) ∈ TT := List.mem_filter.mpr ⟨List.mem_of_getElem? (i := 469) rfl, rfl⟩
set_option maxRecDepth 100000 in
theorem zk_X4_behind : Cond.code yX4_behind cX4_behind 1 (some .int) ∈ TT := List.mem_filter.mpr ⟨List.mem_of_getElem? (i := 539) rfl, rfl⟩
set_option maxRecDepth 100000 in
theorem zk_X4_build : Cond.code yX4_build cX4_build 8 none ∈ TT := List.mem_filter.mpr ⟨List.mem_of_getElem? (i := 387) rfl, rfl⟩
set_option maxRecDepth 100000 in
theorem zk_X4_kindAt : Cond.code yX4_kindAt cX4_kindAt 2 (some .int) ∈ TT := List.mem_filter.mpr ⟨List.mem_of_getElem? (i := 405) rfl, rfl⟩
set_option maxRecDepth 100000 in
theorem zk_X4_left : Cond.code yX4_left cX4_left 1 (some .int) ∈ TT := List.mem_filter.mpr ⟨List.mem_of_getElem? (i := 457) rfl, rfl⟩
set_option maxRecDepth 100000 in
theorem zk_X4_signs : Cond.code yX4_signs cX4_signs 1 (some .int) ∈ TT := List.mem_filter.mpr ⟨List.mem_of_getElem? (i := 536) rfl, rfl⟩
set_option maxRecDepth 100000 in
theorem zk_X5_part : Cond.code yX5_part cX5_part 2 (some .int) ∈ TT := List.mem_filter.mpr ⟨List.mem_of_getElem? (i := 808) rfl, rfl⟩
set_option maxRecDepth 100000 in
theorem zk_X6_at : Cond.code yX6_at cX6_at 2 (some (.object "TileHouse$Seat")) ∈ TT := List.mem_filter.mpr ⟨List.mem_of_getElem? (i := 393) rfl, rfl⟩
set_option maxRecDepth 100000 in
theorem zk_X6_desk : Cond.code yX6_desk cX6_desk 2 (some .int) ∈ TT := List.mem_filter.mpr ⟨List.mem_of_getElem? (i := 842) rfl, rfl⟩
set_option maxRecDepth 100000 in
theorem zk_X6_deskForms : Cond.code yX6_deskForms cX6_deskForms 1 (some .long) ∈ TT := List.mem_filter.mpr ⟨List.mem_of_getElem? (i := 846) rfl, rfl⟩
set_option maxRecDepth 100000 in
theorem zk_X6_holds : Cond.code yX6_holds cX6_holds 3 (some .boolean) ∈ TT := List.mem_filter.mpr ⟨List.mem_of_getElem? (i := 440) rfl, rfl⟩
set_option maxRecDepth 100000 in
theorem zk_X6_hundreds : Cond.code yX6_hundreds cX6_hundreds 1 (some .int) ∈ TT := List.mem_filter.mpr ⟨List.mem_of_getElem? (i := 675) rfl, rfl⟩
set_option maxRecDepth 100000 in
theorem zk_X6_isKind : Cond.code yX6_isKind cX6_isKind 1 (some .boolean) ∈ TT := List.mem_filter.mpr ⟨List.mem_of_getElem? (i := 412) rfl, rfl⟩
set_option maxRecDepth 100000 in
theorem zk_X6_isSeat : Cond.code yX6_isSeat cX6_isSeat 1 (some .boolean) ∈ TT := List.mem_filter.mpr ⟨List.mem_of_getElem? (i := 719) rfl, rfl⟩
set_option maxRecDepth 100000 in
theorem zk_X6_isWin : Cond.code yX6_isWin cX6_isWin 2 (some .boolean) ∈ TT := List.mem_filter.mpr ⟨List.mem_of_getElem? (i := 804) rfl, rfl⟩
set_option maxRecDepth 100000 in
theorem zk_X6_recordWin : Cond.code yX6_recordWin cX6_recordWin 5 none ∈ TT := List.mem_filter.mpr ⟨List.mem_of_getElem? (i := 679) rfl, rfl⟩
set_option maxRecDepth 100000 in
theorem zk_X6_startsRun : Cond.code yX6_startsRun cX6_startsRun 1 (some .boolean) ∈ TT := List.mem_filter.mpr ⟨List.mem_of_getElem? (i := 493) rfl, rfl⟩
set_option maxRecDepth 100000 in
theorem zk_X6_tilesOfEach : Cond.code yX6_tilesOfEach cX6_tilesOfEach 1 (some .int) ∈ TT := List.mem_filter.mpr ⟨List.mem_of_getElem? (i := 740) rfl, rfl⟩
set_option maxRecDepth 100000 in
theorem zk_X6_windOf : Cond.code yX6_windOf cX6_windOf 2 (some .int) ∈ TT := List.mem_filter.mpr ⟨List.mem_of_getElem? (i := 547) rfl, rfl⟩
set_option maxRecDepth 100000 in
theorem zk_X7_anySays : Cond.code yX7_anySays cX7_anySays 1 (some .boolean) ∈ TT := List.mem_filter.mpr ⟨List.mem_of_getElem? (i := 1293) rfl, rfl⟩
set_option maxRecDepth 100000 in
theorem zk_X7_behind : Cond.code yX7_behind cX7_behind 1 (some .int) ∈ TT := List.mem_filter.mpr ⟨List.mem_of_getElem? (i := 1312) rfl, rfl⟩
set_option maxRecDepth 100000 in
theorem zk_X7_bit : Cond.code yX7_bit cX7_bit 1 (some .long) ∈ TT := List.mem_filter.mpr ⟨List.mem_of_getElem? (i := 1235) rfl, rfl⟩
set_option maxRecDepth 100000 in
theorem zk_X7_clear : Cond.code yX7_clear cX7_clear 2 none ∈ TT := List.mem_filter.mpr ⟨List.mem_of_getElem? (i := 1442) rfl, rfl⟩
set_option maxRecDepth 100000 in
theorem zk_X7_desk : Cond.code yX7_desk cX7_desk 2 (some .int) ∈ TT := List.mem_filter.mpr ⟨List.mem_of_getElem? (i := 1467) rfl, rfl⟩
set_option maxRecDepth 100000 in
theorem zk_X7_deskForms : Cond.code yX7_deskForms cX7_deskForms 1 (some .long) ∈ TT := List.mem_filter.mpr ⟨List.mem_of_getElem? (i := 1471) rfl, rfl⟩
set_option maxRecDepth 100000 in
theorem zk_X7_ends : Cond.code yX7_ends cX7_ends 7 none ∈ TT := List.mem_filter.mpr ⟨List.mem_of_getElem? (i := 1335) rfl, rfl⟩
set_option maxRecDepth 100000 in
theorem zk_X7_forms : Cond.code yX7_forms cX7_forms 2 (some .long) ∈ TT := List.mem_filter.mpr ⟨List.mem_of_getElem? (i := 1430) rfl, rfl⟩
set_option maxRecDepth 100000 in
theorem zk_X7_gives : Cond.code yX7_gives cX7_gives 4 none ∈ TT := List.mem_filter.mpr ⟨List.mem_of_getElem? (i := 1159) rfl, rfl⟩
set_option maxRecDepth 100000 in
theorem zk_X7_han : Cond.code yX7_han cX7_han 2 (some .int) ∈ TT := List.mem_filter.mpr ⟨List.mem_of_getElem? (i := 1271) rfl, rfl⟩
set_option maxRecDepth 100000 in
theorem zk_X7_has : Cond.code yX7_has cX7_has 3 (some .boolean) ∈ TT := List.mem_filter.mpr ⟨List.mem_of_getElem? (i := 1205) rfl, rfl⟩
set_option maxRecDepth 100000 in
theorem zk_X7_hasRun : Cond.code yX7_hasRun cX7_hasRun 4 (some .boolean) ∈ TT := List.mem_filter.mpr ⟨List.mem_of_getElem? (i := 1247) rfl, rfl⟩
set_option maxRecDepth 100000 in
theorem zk_X7_hasThree : Cond.code yX7_hasThree cX7_hasThree 4 (some .boolean) ∈ TT := List.mem_filter.mpr ⟨List.mem_of_getElem? (i := 1243) rfl, rfl⟩
set_option maxRecDepth 100000 in
theorem zk_X7_has_ : Cond.code yX7_has_ cX7_has_ 3 (some .int) ∈ TT := List.mem_filter.mpr ⟨List.mem_of_getElem? (i := 1174) rfl, rfl⟩
set_option maxRecDepth 100000 in
theorem zk_X7_inHand : Cond.code yX7_inHand cX7_inHand 3 (some .int) ∈ TT := List.mem_filter.mpr ⟨List.mem_of_getElem? (i := 1198) rfl, rfl⟩
set_option maxRecDepth 100000 in
theorem zk_X7_isDragon : Cond.code yX7_isDragon cX7_isDragon 1 (some .boolean) ∈ TT := List.mem_filter.mpr ⟨List.mem_of_getElem? (i := 1232) rfl, rfl⟩
set_option maxRecDepth 100000 in
theorem zk_X7_isHidden : Cond.code yX7_isHidden cX7_isHidden 2 (some .boolean) ∈ TT := List.mem_filter.mpr ⟨List.mem_of_getElem? (i := 1229) rfl, rfl⟩
set_option maxRecDepth 100000 in
theorem zk_X7_isHonour : Cond.code yX7_isHonour cX7_isHonour 1 (some .boolean) ∈ TT := List.mem_filter.mpr ⟨List.mem_of_getElem? (i := 1257) rfl, rfl⟩
set_option maxRecDepth 100000 in
theorem zk_X7_isKind : Cond.code yX7_isKind cX7_isKind 1 (some .boolean) ∈ TT := List.mem_filter.mpr ⟨List.mem_of_getElem? (i := 1170) rfl, rfl⟩
set_option maxRecDepth 100000 in
theorem zk_X7_isOpen : Cond.code yX7_isOpen cX7_isOpen 3 (some .boolean) ∈ TT := List.mem_filter.mpr ⟨List.mem_of_getElem? (i := 1225) rfl, rfl⟩
set_option maxRecDepth 100000 in
theorem zk_X7_isOpen_ : Cond.code yX7_isOpen_ cX7_isOpen_ 4 (some .boolean) ∈ TT := List.mem_filter.mpr ⟨List.mem_of_getElem? (i := 1178) rfl, rfl⟩
set_option maxRecDepth 100000 in
theorem zk_X7_isRun : Cond.code yX7_isRun cX7_isRun 1 (some .boolean) ∈ TT := List.mem_filter.mpr ⟨List.mem_of_getElem? (i := 1277) rfl, rfl⟩
set_option maxRecDepth 100000 in
theorem zk_X7_isSeat : Cond.code yX7_isSeat cX7_isSeat 1 (some .boolean) ∈ TT := List.mem_filter.mpr ⟨List.mem_of_getElem? (i := 1358) rfl, rfl⟩
set_option maxRecDepth 100000 in
theorem zk_X7_isTerminal : Cond.code yX7_isTerminal cX7_isTerminal 1 (some .boolean) ∈ TT := List.mem_filter.mpr ⟨List.mem_of_getElem? (i := 1260) rfl, rfl⟩
set_option maxRecDepth 100000 in
theorem zk_X7_lays : Cond.code yX7_lays cX7_lays 4 none ∈ TT := List.mem_filter.mpr ⟨List.mem_of_getElem? (i := 1370) rfl, rfl⟩
set_option maxRecDepth 100000 in
theorem zk_X7_left : Cond.code yX7_left cX7_left 1 (some .int) ∈ TT := List.mem_filter.mpr ⟨List.mem_of_getElem? (i := 1182) rfl, rfl⟩
set_option maxRecDepth 100000 in
theorem zk_X7_nothing : Cond.code yX7_nothing cX7_nothing 1 none ∈ TT := List.mem_filter.mpr ⟨List.mem_of_getElem? (i := 1463) rfl, rfl⟩
set_option maxRecDepth 100000 in
theorem zk_X7_pays : Cond.code yX7_pays cX7_pays 4 none ∈ TT := List.mem_filter.mpr ⟨List.mem_of_getElem? (i := 1327) rfl, rfl⟩
set_option maxRecDepth 100000 in
theorem zk_X7_takeDesk : Cond.code yX7_takeDesk cX7_takeDesk 2 none ∈ TT := List.mem_filter.mpr ⟨List.mem_of_getElem? (i := 1450) rfl, rfl⟩
set_option maxRecDepth 100000 in
theorem zk_X7_takesBets : Cond.code yX7_takesBets cX7_takesBets 2 none ∈ TT := List.mem_filter.mpr ⟨List.mem_of_getElem? (i := 1331) rfl, rfl⟩
set_option maxRecDepth 100000 in
theorem zk_X7_touched : Cond.code yX7_touched cX7_touched 2 none ∈ TT := List.mem_filter.mpr ⟨List.mem_of_getElem? (i := 1343) rfl, rfl⟩
set_option maxRecDepth 100000 in
theorem zk_X7_up : Cond.code yX7_up cX7_up 1 (some .int) ∈ TT := List.mem_filter.mpr ⟨List.mem_of_getElem? (i := 1323) rfl, rfl⟩
set_option maxRecDepth 100000 in
theorem zk_X7_wall : Cond.code yX7_wall cX7_wall 2 (some .int) ∈ TT := List.mem_filter.mpr ⟨List.mem_of_getElem? (i := 1438) rfl, rfl⟩
set_option maxRecDepth 100000 in
theorem zk_X7_windOf : Cond.code yX7_windOf cX7_windOf 2 (some .int) ∈ TT := List.mem_filter.mpr ⟨List.mem_of_getElem? (i := 1305) rfl, rfl⟩
set_option maxRecDepth 100000 in
theorem zk_X7_won : Cond.code yX7_won cX7_won 3 (some .int) ∈ TT := List.mem_filter.mpr ⟨List.mem_of_getElem? (i := 1426) rfl, rfl⟩
set_option maxRecDepth 100000 in
theorem zk_X7_writes : Cond.code yX7_writes cX7_writes 5 none ∈ TT := List.mem_filter.mpr ⟨List.mem_of_getElem? (i := 1320) rfl, rfl⟩
set_option maxRecDepth 100000 in
theorem zk_J13_bitCount_95d88 : Cond.code yJ13_bitCount_95d88 cJ13_bitCount_95d88 2 (some .int) ∈ TT := List.mem_filter.mpr ⟨List.mem_of_getElem? (i := 591) rfl, rfl⟩
set_option maxRecDepth 100000 in
theorem zk_X1_endForms : Cond.code yX1_endForms cX1_endForms 7 (some .long) ∈ TT := List.mem_filter.mpr ⟨List.mem_of_getElem? (i := 643) rfl, rfl⟩
set_option maxRecDepth 100000 in
theorem zk_X1_fillWay : Cond.code yX1_fillWay cX1_fillWay 10 (some .boolean) ∈ TT := List.mem_filter.mpr ⟨List.mem_of_getElem? (i := 622) rfl, rfl⟩
set_option maxRecDepth 100000 in
theorem zk_X1_fuOf : Cond.code yX1_fuOf cX1_fuOf 6 (some .int) ∈ TT := List.mem_filter.mpr ⟨List.mem_of_getElem? (i := 669) rfl, rfl⟩
set_option maxRecDepth 100000 in
theorem zk_X1_likeRuns : Cond.code yX1_likeRuns cX1_likeRuns 5 (some .long) ∈ TT := List.mem_filter.mpr ⟨List.mem_of_getElem? (i := 632) rfl, rfl⟩
set_option maxRecDepth 100000 in
theorem zk_X1_offer : Cond.code yX1_offer cX1_offer 10 none ∈ TT := List.mem_filter.mpr ⟨List.mem_of_getElem? (i := 586) rfl, rfl⟩
set_option maxRecDepth 100000 in
theorem zk_X1_setForms : Cond.code yX1_setForms cX1_setForms 5 (some .long) ∈ TT := List.mem_filter.mpr ⟨List.mem_of_getElem? (i := 636) rfl, rfl⟩
set_option maxRecDepth 100000 in
theorem zk_X2_startHand : Cond.code yX2_startHand cX2_startHand 1 none ∈ TT := List.mem_filter.mpr ⟨List.mem_of_getElem? (i := 397) rfl, rfl⟩
set_option maxRecDepth 100000 in
theorem zk_X3_all : Cond.code yX3_all cX3_all 2 (some .int) ∈ TT := List.mem_filter.mpr ⟨List.mem_of_getElem? (i := 543) rfl, rfl⟩
set_option maxRecDepth 100000 in
theorem zk_X3_free : Cond.code yX3_free cX3_free 2 (some .int) ∈ TT := List.mem_filter.mpr ⟨List.mem_of_getElem? (i := 437) rfl, rfl⟩
set_option maxRecDepth 100000 in
theorem zk_X3_isThirteen : Cond.code yX3_isThirteen cX3_isThirteen 1 (some .boolean) ∈ TT := List.mem_filter.mpr ⟨List.mem_of_getElem? (i := 477) rfl, rfl⟩
set_option maxRecDepth 100000 in
theorem zk_X3_layDown : Cond.code yX3_layDown cX3_layDown 6 none ∈ TT := List.mem_filter.mpr ⟨List.mem_of_getElem? (i := 737) rfl, rfl⟩
set_option maxRecDepth 100000 in
theorem zk_X3_put : Cond.code yX3_put cX3_put 3 none ∈ TT := List.mem_filter.mpr ⟨List.mem_of_getElem? (i := 409) rfl, rfl⟩
set_option maxRecDepth 100000 in
theorem zk_X3_splitsBeside : Cond.code yX3_splitsBeside cX3_splitsBeside 7 (some .boolean) ∈ TT := List.mem_filter.mpr ⟨List.mem_of_getElem? (i := 490) rfl, rfl⟩
set_option maxRecDepth 100000 in
theorem zk_X4_draw : Cond.code yX4_draw cX4_draw 1 (some .int) ∈ TT := List.mem_filter.mpr ⟨List.mem_of_getElem? (i := 425) rfl, rfl⟩
set_option maxRecDepth 100000 in
theorem zk_X4_drawBehindFour : Cond.code yX4_drawBehindFour cX4_drawBehindFour 1 (some .int) ∈ TT := List.mem_filter.mpr ⟨List.mem_of_getElem? (i := 420) rfl, rfl⟩
set_option maxRecDepth 100000 in
theorem zk_X6_breakHand : Cond.code yX6_breakHand cX6_breakHand 2 none ∈ TT := List.mem_filter.mpr ⟨List.mem_of_getElem? (i := 704) rfl, rfl⟩
set_option maxRecDepth 100000 in
theorem zk_X6_clear : Cond.code yX6_clear cX6_clear 1 none ∈ TT := List.mem_filter.mpr ⟨List.mem_of_getElem? (i := 821) rfl, rfl⟩
set_option maxRecDepth 100000 in
theorem zk_X6_count : Cond.code yX6_count cX6_count 2 (some .int) ∈ TT := List.mem_filter.mpr ⟨List.mem_of_getElem? (i := 816) rfl, rfl⟩
set_option maxRecDepth 100000 in
theorem zk_X6_firstDraw : Cond.code yX6_firstDraw cX6_firstDraw 3 (some .long) ∈ TT := List.mem_filter.mpr ⟨List.mem_of_getElem? (i := 528) rfl, rfl⟩
set_option maxRecDepth 100000 in
theorem zk_X6_forms : Cond.code yX6_forms cX6_forms 2 (some .long) ∈ TT := List.mem_filter.mpr ⟨List.mem_of_getElem? (i := 812) rfl, rfl⟩
set_option maxRecDepth 100000 in
theorem zk_X6_keepsOther : Cond.code yX6_keepsOther cX6_keepsOther 7 (some .boolean) ∈ TT := List.mem_filter.mpr ⟨List.mem_of_getElem? (i := 729) rfl, rfl⟩
set_option maxRecDepth 100000 in
theorem zk_X6_laid : Cond.code yX6_laid cX6_laid 5 (some .int) ∈ TT := List.mem_filter.mpr ⟨List.mem_of_getElem? (i := 788) rfl, rfl⟩
set_option maxRecDepth 100000 in
theorem zk_X6_mayMakeFour : Cond.code yX6_mayMakeFour cX6_mayMakeFour 1 (some .boolean) ∈ TT := List.mem_filter.mpr ⟨List.mem_of_getElem? (i := 756) rfl, rfl⟩
set_option maxRecDepth 100000 in
theorem zk_X6_otherEnd : Cond.code yX6_otherEnd cX6_otherEnd 2 (some .long) ∈ TT := List.mem_filter.mpr ⟨List.mem_of_getElem? (i := 724) rfl, rfl⟩
set_option maxRecDepth 100000 in
theorem zk_X6_richest : Cond.code yX6_richest cX6_richest 3 (some .int) ∈ TT := List.mem_filter.mpr ⟨List.mem_of_getElem? (i := 691) rfl, rfl⟩
set_option maxRecDepth 100000 in
theorem zk_X6_seat : Cond.code yX6_seat cX6_seat 4 (some .int) ∈ TT := List.mem_filter.mpr ⟨List.mem_of_getElem? (i := 796) rfl, rfl⟩
set_option maxRecDepth 100000 in
theorem zk_X6_someoneIsBroke : Cond.code yX6_someoneIsBroke cX6_someoneIsBroke 2 (some .boolean) ∈ TT := List.mem_filter.mpr ⟨List.mem_of_getElem? (i := 687) rfl, rfl⟩
set_option maxRecDepth 100000 in
theorem zk_X6_someoneSays : Cond.code yX6_someoneSays cX6_someoneSays 2 (some .boolean) ∈ TT := List.mem_filter.mpr ⟨List.mem_of_getElem? (i := 506) rfl, rfl⟩
set_option maxRecDepth 100000 in
theorem zk_X6_toldForms : Cond.code yX6_toldForms cX6_toldForms 5 (some .long) ∈ TT := List.mem_filter.mpr ⟨List.mem_of_getElem? (i := 518) rfl, rfl⟩
set_option maxRecDepth 100000 in
theorem zk_X6_won : Cond.code yX6_won cX6_won 3 (some .int) ∈ TT := List.mem_filter.mpr ⟨List.mem_of_getElem? (i := 800) rfl, rfl⟩
set_option maxRecDepth 100000 in
theorem zk_X7_canDiscard : Cond.code yX7_canDiscard cX7_canDiscard 4 (some .boolean) ∈ TT := List.mem_filter.mpr ⟨List.mem_of_getElem? (i := 1362) rfl, rfl⟩
set_option maxRecDepth 100000 in
theorem zk_X7_claims : Cond.code yX7_claims cX7_claims 4 none ∈ TT := List.mem_filter.mpr ⟨List.mem_of_getElem? (i := 1366) rfl, rfl⟩
set_option maxRecDepth 100000 in
theorem zk_X7_compare : Cond.code yX7_compare cX7_compare 7 none ∈ TT := List.mem_filter.mpr ⟨List.mem_of_getElem? (i := 1268) rfl, rfl⟩
set_option maxRecDepth 100000 in
theorem zk_X7_count : Cond.code yX7_count cX7_count 2 (some .int) ∈ TT := List.mem_filter.mpr ⟨List.mem_of_getElem? (i := 1434) rfl, rfl⟩
set_option maxRecDepth 100000 in
theorem zk_X7_draws : Cond.code yX7_draws cX7_draws 4 none ∈ TT := List.mem_filter.mpr ⟨List.mem_of_getElem? (i := 1163) rfl, rfl⟩
set_option maxRecDepth 100000 in
theorem zk_X7_hand : Cond.code yX7_hand cX7_hand 3 (some .int) ∈ TT := List.mem_filter.mpr ⟨List.mem_of_getElem? (i := 1406) rfl, rfl⟩
set_option maxRecDepth 100000 in
theorem zk_X7_isEnd : Cond.code yX7_isEnd cX7_isEnd 1 (some .boolean) ∈ TT := List.mem_filter.mpr ⟨List.mem_of_getElem? (i := 1254) rfl, rfl⟩
set_option maxRecDepth 100000 in
theorem zk_X7_laid : Cond.code yX7_laid cX7_laid 4 (some .int) ∈ TT := List.mem_filter.mpr ⟨List.mem_of_getElem? (i := 1410) rfl, rfl⟩
set_option maxRecDepth 100000 in
theorem zk_X7_mayClaim : Cond.code yX7_mayClaim cX7_mayClaim 2 (some .boolean) ∈ TT := List.mem_filter.mpr ⟨List.mem_of_getElem? (i := 1355) rfl, rfl⟩
set_option maxRecDepth 100000 in
theorem zk_X7_mayMake : Cond.code yX7_mayMake cX7_mayMake 1 (some .boolean) ∈ TT := List.mem_filter.mpr ⟨List.mem_of_getElem? (i := 1386) rfl, rfl⟩
set_option maxRecDepth 100000 in
theorem zk_X7_of : Cond.code yX7_of cX7_of 4 (some .int) ∈ TT := List.mem_filter.mpr ⟨List.mem_of_getElem? (i := 1202) rfl, rfl⟩
set_option maxRecDepth 100000 in
theorem zk_X7_river : Cond.code yX7_river cX7_river 3 (some .int) ∈ TT := List.mem_filter.mpr ⟨List.mem_of_getElem? (i := 1414) rfl, rfl⟩
set_option maxRecDepth 100000 in
theorem zk_X7_seat : Cond.code yX7_seat cX7_seat 3 (some .int) ∈ TT := List.mem_filter.mpr ⟨List.mem_of_getElem? (i := 1422) rfl, rfl⟩
set_option maxRecDepth 100000 in
theorem zk_X7_take : Cond.code yX7_take cX7_take 3 none ∈ TT := List.mem_filter.mpr ⟨List.mem_of_getElem? (i := 1190) rfl, rfl⟩
set_option maxRecDepth 100000 in
theorem zk_X7_twins : Cond.code yX7_twins cX7_twins 5 none ∈ TT := List.mem_filter.mpr ⟨List.mem_of_getElem? (i := 1239) rfl, rfl⟩
set_option maxRecDepth 100000 in
theorem zk_X1_isNineGates : Cond.code yX1_isNineGates cX1_isNineGates 4 (some .boolean) ∈ TT := List.mem_filter.mpr ⟨List.mem_of_getElem? (i := 580) rfl, rfl⟩
set_option maxRecDepth 100000 in
theorem zk_X1_weighCompleted : Cond.code yX1_weighCompleted cX1_weighCompleted 8 none ∈ TT := List.mem_filter.mpr ⟨List.mem_of_getElem? (i := 653) rfl, rfl⟩
set_option maxRecDepth 100000 in
theorem zk_X3_addToThree : Cond.code yX3_addToThree cX3_addToThree 3 (some .boolean) ∈ TT := List.mem_filter.mpr ⟨List.mem_of_getElem? (i := 764) rfl, rfl⟩
set_option maxRecDepth 100000 in
theorem zk_X3_isSetsAndPair : Cond.code yX3_isSetsAndPair cX3_isSetsAndPair 2 (some .boolean) ∈ TT := List.mem_filter.mpr ⟨List.mem_of_getElem? (i := 486) rfl, rfl⟩
set_option maxRecDepth 100000 in
theorem zk_X3_take : Cond.code yX3_take cX3_take 3 none ∈ TT := List.mem_filter.mpr ⟨List.mem_of_getElem? (i := 444) rfl, rfl⟩
set_option maxRecDepth 100000 in
theorem zk_X4_dearTiles : Cond.code yX4_dearTiles cX4_dearTiles 6 (some .int) ∈ TT := List.mem_filter.mpr ⟨List.mem_of_getElem? (i := 532) rfl, rfl⟩
set_option maxRecDepth 100000 in
theorem zk_X6_drawTile : Cond.code yX6_drawTile cX6_drawTile 4 none ∈ TT := List.mem_filter.mpr ⟨List.mem_of_getElem? (i := 416) rfl, rfl⟩
set_option maxRecDepth 100000 in
theorem zk_X6_endHand : Cond.code yX6_endHand cX6_endHand 5 none ∈ TT := List.mem_filter.mpr ⟨List.mem_of_getElem? (i := 683) rfl, rfl⟩
set_option maxRecDepth 100000 in
theorem zk_X6_hand : Cond.code yX6_hand cX6_hand 3 (some .int) ∈ TT := List.mem_filter.mpr ⟨List.mem_of_getElem? (i := 784) rfl, rfl⟩
set_option maxRecDepth 100000 in
theorem zk_X6_lay : Cond.code yX6_lay cX6_lay 3 (some .boolean) ∈ TT := List.mem_filter.mpr ⟨List.mem_of_getElem? (i := 826) rfl, rfl⟩
set_option maxRecDepth 100000 in
theorem zk_X6_mayClaimSet : Cond.code yX6_mayClaimSet cX6_mayClaimSet 2 (some .boolean) ∈ TT := List.mem_filter.mpr ⟨List.mem_of_getElem? (i := 716) rfl, rfl⟩
set_option maxRecDepth 100000 in
theorem zk_X6_mayThrow : Cond.code yX6_mayThrow cX6_mayThrow 3 (some .boolean) ∈ TT := List.mem_filter.mpr ⟨List.mem_of_getElem? (i := 433) rfl, rfl⟩
set_option maxRecDepth 100000 in
theorem zk_X6_set : Cond.code yX6_set cX6_set 6 (some .boolean) ∈ TT := List.mem_filter.mpr ⟨List.mem_of_getElem? (i := 833) rfl, rfl⟩
set_option maxRecDepth 100000 in
theorem zk_X7_add : Cond.code yX7_add cX7_add 3 (some .boolean) ∈ TT := List.mem_filter.mpr ⟨List.mem_of_getElem? (i := 1390) rfl, rfl⟩
set_option maxRecDepth 100000 in
theorem zk_X7_deal : Cond.code yX7_deal cX7_deal 8 (some .boolean) ∈ TT := List.mem_filter.mpr ⟨List.mem_of_getElem? (i := 1153) rfl, rfl⟩
set_option maxRecDepth 100000 in
theorem zk_X7_dearTiles : Cond.code yX7_dearTiles cX7_dearTiles 4 (some .int) ∈ TT := List.mem_filter.mpr ⟨List.mem_of_getElem? (i := 1309) rfl, rfl⟩
set_option maxRecDepth 100000 in
theorem zk_X7_edges : Cond.code yX7_edges cX7_edges 9 none ∈ TT := List.mem_filter.mpr ⟨List.mem_of_getElem? (i := 1251) rfl, rfl⟩
set_option maxRecDepth 100000 in
theorem zk_X7_hide : Cond.code yX7_hide cX7_hide 2 (some .boolean) ∈ TT := List.mem_filter.mpr ⟨List.mem_of_getElem? (i := 1382) rfl, rfl⟩
set_option maxRecDepth 100000 in
theorem zk_X7_lay : Cond.code yX7_lay cX7_lay 3 (some .boolean) ∈ TT := List.mem_filter.mpr ⟨List.mem_of_getElem? (i := 1446) rfl, rfl⟩
set_option maxRecDepth 100000 in
theorem zk_X7_nine : Cond.code yX7_nine cX7_nine 3 (some .boolean) ∈ TT := List.mem_filter.mpr ⟨List.mem_of_getElem? (i := 1402) rfl, rfl⟩
set_option maxRecDepth 100000 in
theorem zk_X7_set : Cond.code yX7_set cX7_set 5 (some .boolean) ∈ TT := List.mem_filter.mpr ⟨List.mem_of_getElem? (i := 1454) rfl, rfl⟩
set_option maxRecDepth 100000 in
theorem zk_X7_thirteen : Cond.code yX7_thirteen cX7_thirteen 1 none ∈ TT := List.mem_filter.mpr ⟨List.mem_of_getElem? (i := 1285) rfl, rfl⟩
set_option maxRecDepth 100000 in
theorem zk_X7_tiles : Cond.code yX7_tiles cX7_tiles 12 none ∈ TT := List.mem_filter.mpr ⟨List.mem_of_getElem? (i := 1264) rfl, rfl⟩
set_option maxRecDepth 100000 in
theorem zk_X1_tileForms : Cond.code yX1_tileForms cX1_tileForms 6 (some .long) ∈ TT := List.mem_filter.mpr ⟨List.mem_of_getElem? (i := 566) rfl, rfl⟩
set_option maxRecDepth 100000 in
theorem zk_X1_weighWay : Cond.code yX1_weighWay cX1_weighWay 4 none ∈ TT := List.mem_filter.mpr ⟨List.mem_of_getElem? (i := 628) rfl, rfl⟩
set_option maxRecDepth 100000 in
theorem zk_X3_waitsFor : Cond.code yX3_waitsFor cX3_waitsFor 3 (some .boolean) ∈ TT := List.mem_filter.mpr ⟨List.mem_of_getElem? (i := 465) rfl, rfl⟩
set_option maxRecDepth 100000 in
theorem zk_X6_add : Cond.code yX6_add cX6_add 2 (some .boolean) ∈ TT := List.mem_filter.mpr ⟨List.mem_of_getElem? (i := 760) rfl, rfl⟩
set_option maxRecDepth 100000 in
theorem zk_X6_deal : Cond.code yX6_deal cX6_deal 6 (some .boolean) ∈ TT := List.mem_filter.mpr ⟨List.mem_of_getElem? (i := 383) rfl, rfl⟩
set_option maxRecDepth 100000 in
theorem zk_X6_makeFour : Cond.code yX6_makeFour cX6_makeFour 2 none ∈ TT := List.mem_filter.mpr ⟨List.mem_of_getElem? (i := 700) rfl, rfl⟩
set_option maxRecDepth 100000 in
theorem zk_X6_nine : Cond.code yX6_nine cX6_nine 1 (some .boolean) ∈ TT := List.mem_filter.mpr ⟨List.mem_of_getElem? (i := 777) rfl, rfl⟩
set_option maxRecDepth 100000 in
theorem zk_X7_firstSort : Cond.code yX7_firstSort cX7_firstSort 14 none ∈ TT := List.mem_filter.mpr ⟨List.mem_of_getElem? (i := 1221) rfl, rfl⟩
set_option maxRecDepth 100000 in
theorem zk_X7_pairsWay : Cond.code yX7_pairsWay cX7_pairsWay 1 none ∈ TT := List.mem_filter.mpr ⟨List.mem_of_getElem? (i := 1281) rfl, rfl⟩
set_option maxRecDepth 100000 in
theorem zk_X1_judge : Cond.code yX1_judge cX1_judge 11 none ∈ TT := List.mem_filter.mpr ⟨List.mem_of_getElem? (i := 551) rfl, rfl⟩
set_option maxRecDepth 100000 in
theorem zk_X3_waiting : Cond.code yX3_waiting cX3_waiting 4 (some .long) ∈ TT := List.mem_filter.mpr ⟨List.mem_of_getElem? (i := 461) rfl, rfl⟩
set_option maxRecDepth 100000 in
theorem zk_X6_hide : Cond.code yX6_hide cX6_hide 2 (some .boolean) ∈ TT := List.mem_filter.mpr ⟨List.mem_of_getElem? (i := 752) rfl, rfl⟩
set_option maxRecDepth 100000 in
theorem zk_X6_letTileGo : Cond.code yX6_letTileGo cX6_letTileGo 3 none ∈ TT := List.mem_filter.mpr ⟨List.mem_of_getElem? (i := 695) rfl, rfl⟩
set_option maxRecDepth 100000 in
theorem zk_X7_way : Cond.code yX7_way cX7_way 5 none ∈ TT := List.mem_filter.mpr ⟨List.mem_of_getElem? (i := 1217) rfl, rfl⟩
set_option maxRecDepth 100000 in
theorem zk_X6_deskWaits : Cond.code yX6_deskWaits cX6_deskWaits 1 (some .long) ∈ TT := List.mem_filter.mpr ⟨List.mem_of_getElem? (i := 850) rfl, rfl⟩
set_option maxRecDepth 100000 in
theorem zk_X6_endUnwon : Cond.code yX6_endUnwon cX6_endUnwon 6 none ∈ TT := List.mem_filter.mpr ⟨List.mem_of_getElem? (i := 708) rfl, rfl⟩
set_option maxRecDepth 100000 in
theorem zk_X6_mayBet : Cond.code yX6_mayBet cX6_mayBet 2 (some .boolean) ∈ TT := List.mem_filter.mpr ⟨List.mem_of_getElem? (i := 449) rfl, rfl⟩
set_option maxRecDepth 100000 in
theorem zk_X6_takeSet : Cond.code yX6_takeSet cX6_takeSet 5 none ∈ TT := List.mem_filter.mpr ⟨List.mem_of_getElem? (i := 733) rfl, rfl⟩
set_option maxRecDepth 100000 in
theorem zk_X6_waits : Cond.code yX6_waits cX6_waits 2 (some .long) ∈ TT := List.mem_filter.mpr ⟨List.mem_of_getElem? (i := 792) rfl, rfl⟩
set_option maxRecDepth 100000 in
theorem zk_X6_weighHand : Cond.code yX6_weighHand cX6_weighHand 7 (some .int) ∈ TT := List.mem_filter.mpr ⟨List.mem_of_getElem? (i := 514) rfl, rfl⟩
set_option maxRecDepth 100000 in
theorem zk_X6_worth : Cond.code yX6_worth cX6_worth 7 (some .int) ∈ TT := List.mem_filter.mpr ⟨List.mem_of_getElem? (i := 838) rfl, rfl⟩
set_option maxRecDepth 100000 in
theorem zk_X7_sets : Cond.code yX7_sets cX7_sets 7 none ∈ TT := List.mem_filter.mpr ⟨List.mem_of_getElem? (i := 1213) rfl, rfl⟩
set_option maxRecDepth 100000 in
theorem zk_X6_claim : Cond.code yX6_claim cX6_claim 5 (some .boolean) ∈ TT := List.mem_filter.mpr ⟨List.mem_of_getElem? (i := 773) rfl, rfl⟩
set_option maxRecDepth 100000 in
theorem zk_X6_discard : Cond.code yX6_discard cX6_discard 4 (some .boolean) ∈ TT := List.mem_filter.mpr ⟨List.mem_of_getElem? (i := 429) rfl, rfl⟩
set_option maxRecDepth 100000 in
theorem zk_X6_four : Cond.code yX6_four cX6_four 2 (some .boolean) ∈ TT := List.mem_filter.mpr ⟨List.mem_of_getElem? (i := 748) rfl, rfl⟩
set_option maxRecDepth 100000 in
theorem zk_X6_run : Cond.code yX6_run cX6_run 6 (some .boolean) ∈ TT := List.mem_filter.mpr ⟨List.mem_of_getElem? (i := 712) rfl, rfl⟩
set_option maxRecDepth 100000 in
theorem zk_X6_three : Cond.code yX6_three cX6_three 4 (some .boolean) ∈ TT := List.mem_filter.mpr ⟨List.mem_of_getElem? (i := 744) rfl, rfl⟩
set_option maxRecDepth 100000 in
theorem zk_X6_win : Cond.code yX6_win cX6_win 6 (some .boolean) ∈ TT := List.mem_filter.mpr ⟨List.mem_of_getElem? (i := 769) rfl, rfl⟩
set_option maxRecDepth 100000 in
theorem zk_X6_winByTile : Cond.code yX6_winByTile cX6_winByTile 7 none ∈ TT := List.mem_filter.mpr ⟨List.mem_of_getElem? (i := 510) rfl, rfl⟩
set_option maxRecDepth 100000 in
theorem zk_X7_apart : Cond.code yX7_apart cX7_apart 6 none ∈ TT := List.mem_filter.mpr ⟨List.mem_of_getElem? (i := 1209) rfl, rfl⟩
set_option maxRecDepth 100000 in
theorem zk_X6_pass : Cond.code yX6_pass cX6_pass 1 (some .boolean) ∈ TT := List.mem_filter.mpr ⟨List.mem_of_getElem? (i := 502) rfl, rfl⟩
set_option maxRecDepth 100000 in
theorem zk_X7_reckon : Cond.code yX7_reckon cX7_reckon 9 none ∈ TT := List.mem_filter.mpr ⟨List.mem_of_getElem? (i := 1316) rfl, rfl⟩
set_option maxRecDepth 100000 in
theorem zk_X7_waitsOf : Cond.code yX7_waitsOf cX7_waitsOf 5 (some .long) ∈ TT := List.mem_filter.mpr ⟨List.mem_of_getElem? (i := 1194) rfl, rfl⟩
set_option maxRecDepth 100000 in
theorem zk_X7_deskWaits : Cond.code yX7_deskWaits cX7_deskWaits 1 (some .long) ∈ TT := List.mem_filter.mpr ⟨List.mem_of_getElem? (i := 1475) rfl, rfl⟩
set_option maxRecDepth 100000 in
theorem zk_X7_value : Cond.code yX7_value cX7_value 6 none ∈ TT := List.mem_filter.mpr ⟨List.mem_of_getElem? (i := 1301) rfl, rfl⟩
set_option maxRecDepth 100000 in
theorem zk_X7_waitsAt : Cond.code yX7_waitsAt cX7_waitsAt 2 (some .long) ∈ TT := List.mem_filter.mpr ⟨List.mem_of_getElem? (i := 1186) rfl, rfl⟩
set_option maxRecDepth 100000 in
theorem zk_X7_worth : Cond.code yX7_worth cX7_worth 9 (some .int) ∈ TT := List.mem_filter.mpr ⟨List.mem_of_getElem? (i := 1458) rfl, rfl⟩
set_option maxRecDepth 100000 in
theorem zk_X7_allWin : Cond.code yX7_allWin cX7_allWin 5 none ∈ TT := List.mem_filter.mpr ⟨List.mem_of_getElem? (i := 1297) rfl, rfl⟩
set_option maxRecDepth 100000 in
theorem zk_X7_claim : Cond.code yX7_claim cX7_claim 5 (some .boolean) ∈ TT := List.mem_filter.mpr ⟨List.mem_of_getElem? (i := 1398) rfl, rfl⟩
set_option maxRecDepth 100000 in
theorem zk_X7_discard : Cond.code yX7_discard cX7_discard 5 (some .boolean) ∈ TT := List.mem_filter.mpr ⟨List.mem_of_getElem? (i := 1167) rfl, rfl⟩
set_option maxRecDepth 100000 in
theorem zk_X7_nobodyWins : Cond.code yX7_nobodyWins cX7_nobodyWins 4 none ∈ TT := List.mem_filter.mpr ⟨List.mem_of_getElem? (i := 1347) rfl, rfl⟩
set_option maxRecDepth 100000 in
theorem zk_X7_over : Cond.code yX7_over cX7_over 2 none ∈ TT := List.mem_filter.mpr ⟨List.mem_of_getElem? (i := 1339) rfl, rfl⟩
set_option maxRecDepth 100000 in
theorem zk_X7_waits : Cond.code yX7_waits cX7_waits 2 (some .long) ∈ TT := List.mem_filter.mpr ⟨List.mem_of_getElem? (i := 1418) rfl, rfl⟩
set_option maxRecDepth 100000 in
theorem zk_X7_win : Cond.code yX7_win cX7_win 4 (some .boolean) ∈ TT := List.mem_filter.mpr ⟨List.mem_of_getElem? (i := 1394) rfl, rfl⟩
set_option maxRecDepth 100000 in
theorem zk_X7_four : Cond.code yX7_four cX7_four 2 (some .boolean) ∈ TT := List.mem_filter.mpr ⟨List.mem_of_getElem? (i := 1378) rfl, rfl⟩
set_option maxRecDepth 100000 in
theorem zk_X7_pass : Cond.code yX7_pass cX7_pass 2 (some .boolean) ∈ TT := List.mem_filter.mpr ⟨List.mem_of_getElem? (i := 1289) rfl, rfl⟩
set_option maxRecDepth 100000 in
theorem zk_X7_run : Cond.code yX7_run cX7_run 5 (some .boolean) ∈ TT := List.mem_filter.mpr ⟨List.mem_of_getElem? (i := 1351) rfl, rfl⟩
set_option maxRecDepth 100000 in
theorem zk_X7_three : Cond.code yX7_three cX7_three 3 (some .boolean) ∈ TT := List.mem_filter.mpr ⟨List.mem_of_getElem? (i := 1374) rfl, rfl⟩

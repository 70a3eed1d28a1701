set_option maxRecDepth 100000 in
theorem zk_X0_baseOf : Cond.code yX0_baseOf cX0_baseOf 3 (some .int) ∈ TT := List.mem_filter.mpr ⟨lwm_3 (List.mem_of_getElem? (i := 36) rfl), rfl⟩
set_option maxRecDepth 100000 in
theorem zk_X0_hanOf : Cond.code yX0_hanOf cX0_hanOf 5 (some .int) ∈ TT := List.mem_filter.mpr ⟨lwm_3 (List.mem_of_getElem? (i := 29) rfl), rfl⟩
set_option maxRecDepth 100000 in
theorem zk_X1_bit : Cond.code yX1_bit cX1_bit 2 (some .long) ∈ TT := List.mem_filter.mpr ⟨lwm_3 (List.mem_of_getElem? (i := 4) rfl), rfl⟩
set_option maxRecDepth 100000 in
theorem zk_X1_chosenThrees : Cond.code yX1_chosenThrees cX1_chosenThrees 5 (some .long) ∈ TT := List.mem_filter.mpr ⟨lwm_3 (List.mem_of_getElem? (i := 50) rfl), rfl⟩
set_option maxRecDepth 100000 in
theorem zk_X1_findThrees : Cond.code yX1_findThrees cX1_findThrees 3 (some .int) ∈ TT := List.mem_filter.mpr ⟨lwm_3 (List.mem_of_getElem? (i := 46) rfl), rfl⟩
set_option maxRecDepth 100000 in
theorem zk_X1_isBetter : Cond.code yX1_isBetter cX1_isBetter 6 (some .boolean) ∈ TT := List.mem_filter.mpr ⟨lwm_3 (List.mem_of_getElem? (i := 40) rfl), rfl⟩
set_option maxRecDepth 100000 in
theorem zk_X1_isHidden : Cond.code yX1_isHidden cX1_isHidden 3 (some .boolean) ∈ TT := List.mem_filter.mpr ⟨lwm_3 (List.mem_of_getElem? (i := 89) rfl), rfl⟩
set_option maxRecDepth 100000 in
theorem zk_X1_mayHaveCompleted : Cond.code yX1_mayHaveCompleted cX1_mayHaveCompleted 4 (some .boolean) ∈ TT := List.mem_filter.mpr ⟨lwm_3 (List.mem_of_getElem? (i := 81) rfl), rfl⟩
set_option maxRecDepth 100000 in
theorem zk_X1_pairFu : Cond.code yX1_pairFu cX1_pairFu 1 (some .int) ∈ TT := List.mem_filter.mpr ⟨lwm_3 (List.mem_of_getElem? (i := 93) rfl), rfl⟩
set_option maxRecDepth 100000 in
theorem zk_X1_toldOnes : Cond.code yX1_toldOnes cX1_toldOnes 5 (some .long) ∈ TT := List.mem_filter.mpr ⟨lwm_2 (List.mem_of_getElem? (i := 230) rfl), rfl⟩
set_option maxRecDepth 100000 in
theorem zk_X1_waitFu : Cond.code yX1_waitFu cX1_waitFu 4 (some .int) ∈ TT := List.mem_filter.mpr ⟨lwm_3 (List.mem_of_getElem? (i := 97) rfl), rfl⟩
set_option maxRecDepth 100000 in
theorem zk_X2_throwTile : Cond.code yX2_throwTile cX2_throwTile 2 none ∈ TT := List.mem_filter.mpr ⟨lwm_2 (List.mem_of_getElem? (i := 170) rfl), rfl⟩
set_option maxRecDepth 100000 in
theorem zk_X2_thrown : Cond.code yX2_thrown cX2_thrown 2 (some .int) ∈ TT := List.mem_filter.mpr ⟨lwm_4 (List.mem_of_getElem? (i := 120) rfl), rfl⟩
set_option maxRecDepth 100000 in
theorem zk_X3_empty : Cond.code yX3_empty cX3_empty 2 none ∈ TT := List.mem_filter.mpr ⟨lwm_2 (List.mem_of_getElem? (i := 73) rfl), rfl⟩
set_option maxRecDepth 100000 in
theorem zk_X3_isOpen : Cond.code yX3_isOpen cX3_isOpen 2 (some .boolean) ∈ TT := List.mem_filter.mpr ⟨lwm_2 (List.mem_of_getElem? (i := 125) rfl), rfl⟩
set_option maxRecDepth 100000 in
theorem zk_X3_isSevenPairs : Cond.code yX3_isSevenPairs cX3_isSevenPairs 2 (some .boolean) ∈ TT := List.mem_filter.mpr ⟨lwm_2 (List.mem_of_getElem? (i := 145) rfl), rfl⟩
set_option maxRecDepth 100000 in
theorem zk_X3_kinds : Cond.code yX3_kinds cX3_kinds 4 (some .long) ∈ TT := List.mem_filter.mpr ⟨lwm_2 (List.mem_of_getElem? (i := 153) rfl), rfl⟩
set_option maxRecDepth 100000 in
theorem zk_X3_size : Cond.code yX3_size cX3_size 1 (some .int) ∈ TT := List.mem_filter.mpr ⟨lwm_2 (List.mem_of_getElem? (i := 141) rfl), rfl⟩
set_option maxRecDepth 100000 in
theorem zk_X4_behind : Cond.code yX4_behind cX4_behind 1 (some .int) ∈ TT := List.mem_filter.mpr ⟨lwm_2 (List.mem_of_getElem? (i := 211) rfl), rfl⟩
set_option maxRecDepth 100000 in
theorem zk_X4_build : Cond.code yX4_build cX4_build 8 none ∈ TT := List.mem_filter.mpr ⟨lwm_2 (List.mem_of_getElem? (i := 59) rfl), rfl⟩
set_option maxRecDepth 100000 in
theorem zk_X4_kindAt : Cond.code yX4_kindAt cX4_kindAt 2 (some .int) ∈ TT := List.mem_filter.mpr ⟨lwm_2 (List.mem_of_getElem? (i := 77) rfl), rfl⟩
set_option maxRecDepth 100000 in
theorem zk_X4_left : Cond.code yX4_left cX4_left 1 (some .int) ∈ TT := List.mem_filter.mpr ⟨lwm_2 (List.mem_of_getElem? (i := 129) rfl), rfl⟩
set_option maxRecDepth 100000 in
theorem zk_X4_signs : Cond.code yX4_signs cX4_signs 1 (some .int) ∈ TT := List.mem_filter.mpr ⟨lwm_2 (List.mem_of_getElem? (i := 208) rfl), rfl⟩
set_option maxRecDepth 100000 in
theorem zk_X5_part : Cond.code yX5_part cX5_part 2 (some .int) ∈ TT := List.mem_filter.mpr ⟨lwm_4 (List.mem_of_getElem? (i := 0) rfl), rfl⟩
set_option maxRecDepth 100000 in
theorem zk_X6_at : Cond.code yX6_at cX6_at 2 (some (.object "TileHouse$Seat")) ∈ TT := List.mem_filter.mpr ⟨lwm_2 (List.mem_of_getElem? (i := 65) rfl), rfl⟩
set_option maxRecDepth 100000 in
theorem zk_X6_desk : Cond.code yX6_desk cX6_desk 2 (some .int) ∈ TT := List.mem_filter.mpr ⟨lwm_4 (List.mem_of_getElem? (i := 34) rfl), rfl⟩
set_option maxRecDepth 100000 in
theorem zk_X6_deskForms : Cond.code yX6_deskForms cX6_deskForms 1 (some .long) ∈ TT := List.mem_filter.mpr ⟨lwm_4 (List.mem_of_getElem? (i := 38) rfl), rfl⟩
set_option maxRecDepth 100000 in
theorem zk_X6_holds : Cond.code yX6_holds cX6_holds 3 (some .boolean) ∈ TT := List.mem_filter.mpr ⟨lwm_2 (List.mem_of_getElem? (i := 112) rfl), rfl⟩
set_option maxRecDepth 100000 in
theorem zk_X6_hundreds : Cond.code yX6_hundreds cX6_hundreds 1 (some .int) ∈ TT := List.mem_filter.mpr ⟨lwm_3 (List.mem_of_getElem? (i := 107) rfl), rfl⟩
set_option maxRecDepth 100000 in
theorem zk_X6_isKind : Cond.code yX6_isKind cX6_isKind 1 (some .boolean) ∈ TT := List.mem_filter.mpr ⟨lwm_2 (List.mem_of_getElem? (i := 84) rfl), rfl⟩
set_option maxRecDepth 100000 in
theorem zk_X6_isSeat : Cond.code yX6_isSeat cX6_isSeat 1 (some .boolean) ∈ TT := List.mem_filter.mpr ⟨lwm_3 (List.mem_of_getElem? (i := 151) rfl), rfl⟩
set_option maxRecDepth 100000 in
theorem zk_X6_isWin : Cond.code yX6_isWin cX6_isWin 2 (some .boolean) ∈ TT := List.mem_filter.mpr ⟨lwm_3 (List.mem_of_getElem? (i := 236) rfl), rfl⟩
set_option maxRecDepth 100000 in
theorem zk_X6_recordWin : Cond.code yX6_recordWin cX6_recordWin 5 none ∈ TT := List.mem_filter.mpr ⟨lwm_3 (List.mem_of_getElem? (i := 111) rfl), rfl⟩
set_option maxRecDepth 100000 in
theorem zk_X6_startsRun : Cond.code yX6_startsRun cX6_startsRun 1 (some .boolean) ∈ TT := List.mem_filter.mpr ⟨lwm_2 (List.mem_of_getElem? (i := 165) rfl), rfl⟩
set_option maxRecDepth 100000 in
theorem zk_X6_tilesOfEach : Cond.code yX6_tilesOfEach cX6_tilesOfEach 1 (some .int) ∈ TT := List.mem_filter.mpr ⟨lwm_3 (List.mem_of_getElem? (i := 172) rfl), rfl⟩
set_option maxRecDepth 100000 in
theorem zk_X6_windOf : Cond.code yX6_windOf cX6_windOf 2 (some .int) ∈ TT := List.mem_filter.mpr ⟨lwm_2 (List.mem_of_getElem? (i := 219) rfl), rfl⟩
set_option maxRecDepth 100000 in
theorem zk_X7_anySays : Cond.code yX7_anySays cX7_anySays 1 (some .boolean) ∈ TT := List.mem_filter.mpr ⟨lwm_6 (List.mem_of_getElem? (i := 5) rfl), rfl⟩
set_option maxRecDepth 100000 in
theorem zk_X7_behind : Cond.code yX7_behind cX7_behind 1 (some .int) ∈ TT := List.mem_filter.mpr ⟨lwm_6 (List.mem_of_getElem? (i := 24) rfl), rfl⟩
set_option maxRecDepth 100000 in
theorem zk_X7_bit : Cond.code yX7_bit cX7_bit 1 (some .long) ∈ TT := List.mem_filter.mpr ⟨lwm_5 (List.mem_of_getElem? (i := 187) rfl), rfl⟩
set_option maxRecDepth 100000 in
theorem zk_X7_clear : Cond.code yX7_clear cX7_clear 2 none ∈ TT := List.mem_filter.mpr ⟨lwm_6 (List.mem_of_getElem? (i := 154) rfl), rfl⟩
set_option maxRecDepth 100000 in
theorem zk_X7_desk : Cond.code yX7_desk cX7_desk 2 (some .int) ∈ TT := List.mem_filter.mpr ⟨lwm_6 (List.mem_of_getElem? (i := 179) rfl), rfl⟩
set_option maxRecDepth 100000 in
theorem zk_X7_deskForms : Cond.code yX7_deskForms cX7_deskForms 1 (some .long) ∈ TT := List.mem_filter.mpr ⟨lwm_6 (List.mem_of_getElem? (i := 183) rfl), rfl⟩
set_option maxRecDepth 100000 in
theorem zk_X7_ends : Cond.code yX7_ends cX7_ends 7 none ∈ TT := List.mem_filter.mpr ⟨lwm_6 (List.mem_of_getElem? (i := 47) rfl), rfl⟩
set_option maxRecDepth 100000 in
theorem zk_X7_forms : Cond.code yX7_forms cX7_forms 2 (some .long) ∈ TT := List.mem_filter.mpr ⟨lwm_6 (List.mem_of_getElem? (i := 142) rfl), rfl⟩
set_option maxRecDepth 100000 in
theorem zk_X7_gives : Cond.code yX7_gives cX7_gives 4 none ∈ TT := List.mem_filter.mpr ⟨lwm_5 (List.mem_of_getElem? (i := 111) rfl), rfl⟩
set_option maxRecDepth 100000 in
theorem zk_X7_han : Cond.code yX7_han cX7_han 2 (some .int) ∈ TT := List.mem_filter.mpr ⟨lwm_5 (List.mem_of_getElem? (i := 223) rfl), rfl⟩
set_option maxRecDepth 100000 in
theorem zk_X7_has : Cond.code yX7_has cX7_has 3 (some .boolean) ∈ TT := List.mem_filter.mpr ⟨lwm_5 (List.mem_of_getElem? (i := 157) rfl), rfl⟩
set_option maxRecDepth 100000 in
theorem zk_X7_hasRun : Cond.code yX7_hasRun cX7_hasRun 4 (some .boolean) ∈ TT := List.mem_filter.mpr ⟨lwm_5 (List.mem_of_getElem? (i := 199) rfl), rfl⟩
set_option maxRecDepth 100000 in
theorem zk_X7_hasThree : Cond.code yX7_hasThree cX7_hasThree 4 (some .boolean) ∈ TT := List.mem_filter.mpr ⟨lwm_5 (List.mem_of_getElem? (i := 195) rfl), rfl⟩
set_option maxRecDepth 100000 in
theorem zk_X7_has_ : Cond.code yX7_has_ cX7_has_ 3 (some .int) ∈ TT := List.mem_filter.mpr ⟨lwm_5 (List.mem_of_getElem? (i := 126) rfl), rfl⟩
set_option maxRecDepth 100000 in
theorem zk_X7_inHand : Cond.code yX7_inHand cX7_inHand 3 (some .int) ∈ TT := List.mem_filter.mpr ⟨lwm_5 (List.mem_of_getElem? (i := 150) rfl), rfl⟩
set_option maxRecDepth 100000 in
theorem zk_X7_isDragon : Cond.code yX7_isDragon cX7_isDragon 1 (some .boolean) ∈ TT := List.mem_filter.mpr ⟨lwm_5 (List.mem_of_getElem? (i := 184) rfl), rfl⟩
set_option maxRecDepth 100000 in
theorem zk_X7_isHidden : Cond.code yX7_isHidden cX7_isHidden 2 (some .boolean) ∈ TT := List.mem_filter.mpr ⟨lwm_5 (List.mem_of_getElem? (i := 181) rfl), rfl⟩
set_option maxRecDepth 100000 in
theorem zk_X7_isHonour : Cond.code yX7_isHonour cX7_isHonour 1 (some .boolean) ∈ TT := List.mem_filter.mpr ⟨lwm_5 (List.mem_of_getElem? (i := 209) rfl), rfl⟩
set_option maxRecDepth 100000 in
theorem zk_X7_isKind : Cond.code yX7_isKind cX7_isKind 1 (some .boolean) ∈ TT := List.mem_filter.mpr ⟨lwm_5 (List.mem_of_getElem? (i := 122) rfl), rfl⟩
set_option maxRecDepth 100000 in
theorem zk_X7_isOpen : Cond.code yX7_isOpen cX7_isOpen 3 (some .boolean) ∈ TT := List.mem_filter.mpr ⟨lwm_5 (List.mem_of_getElem? (i := 177) rfl), rfl⟩
set_option maxRecDepth 100000 in
theorem zk_X7_isOpen_ : Cond.code yX7_isOpen_ cX7_isOpen_ 4 (some .boolean) ∈ TT := List.mem_filter.mpr ⟨lwm_5 (List.mem_of_getElem? (i := 130) rfl), rfl⟩
set_option maxRecDepth 100000 in
theorem zk_X7_isRun : Cond.code yX7_isRun cX7_isRun 1 (some .boolean) ∈ TT := List.mem_filter.mpr ⟨lwm_5 (List.mem_of_getElem? (i := 229) rfl), rfl⟩
set_option maxRecDepth 100000 in
theorem zk_X7_isSeat : Cond.code yX7_isSeat cX7_isSeat 1 (some .boolean) ∈ TT := List.mem_filter.mpr ⟨lwm_6 (List.mem_of_getElem? (i := 70) rfl), rfl⟩
set_option maxRecDepth 100000 in
theorem zk_X7_isTerminal : Cond.code yX7_isTerminal cX7_isTerminal 1 (some .boolean) ∈ TT := List.mem_filter.mpr ⟨lwm_5 (List.mem_of_getElem? (i := 212) rfl), rfl⟩
set_option maxRecDepth 100000 in
theorem zk_X7_lays : Cond.code yX7_lays cX7_lays 4 none ∈ TT := List.mem_filter.mpr ⟨lwm_6 (List.mem_of_getElem? (i := 82) rfl), rfl⟩
set_option maxRecDepth 100000 in
theorem zk_X7_left : Cond.code yX7_left cX7_left 1 (some .int) ∈ TT := List.mem_filter.mpr ⟨lwm_5 (List.mem_of_getElem? (i := 134) rfl), rfl⟩
set_option maxRecDepth 100000 in
theorem zk_X7_nothing : Cond.code yX7_nothing cX7_nothing 1 none ∈ TT := List.mem_filter.mpr ⟨lwm_6 (List.mem_of_getElem? (i := 175) rfl), rfl⟩
set_option maxRecDepth 100000 in
theorem zk_X7_pays : Cond.code yX7_pays cX7_pays 4 none ∈ TT := List.mem_filter.mpr ⟨lwm_6 (List.mem_of_getElem? (i := 39) rfl), rfl⟩
set_option maxRecDepth 100000 in
theorem zk_X7_takeDesk : Cond.code yX7_takeDesk cX7_takeDesk 2 none ∈ TT := List.mem_filter.mpr ⟨lwm_6 (List.mem_of_getElem? (i := 162) rfl), rfl⟩
set_option maxRecDepth 100000 in
theorem zk_X7_takesBets : Cond.code yX7_takesBets cX7_takesBets 2 none ∈ TT := List.mem_filter.mpr ⟨lwm_6 (List.mem_of_getElem? (i := 43) rfl), rfl⟩
set_option maxRecDepth 100000 in
theorem zk_X7_touched : Cond.code yX7_touched cX7_touched 2 none ∈ TT := List.mem_filter.mpr ⟨lwm_6 (List.mem_of_getElem? (i := 55) rfl), rfl⟩
set_option maxRecDepth 100000 in
theorem zk_X7_up : Cond.code yX7_up cX7_up 1 (some .int) ∈ TT := List.mem_filter.mpr ⟨lwm_6 (List.mem_of_getElem? (i := 35) rfl), rfl⟩
set_option maxRecDepth 100000 in
theorem zk_X7_wall : Cond.code yX7_wall cX7_wall 2 (some .int) ∈ TT := List.mem_filter.mpr ⟨lwm_6 (List.mem_of_getElem? (i := 150) rfl), rfl⟩
set_option maxRecDepth 100000 in
theorem zk_X7_windOf : Cond.code yX7_windOf cX7_windOf 2 (some .int) ∈ TT := List.mem_filter.mpr ⟨lwm_6 (List.mem_of_getElem? (i := 17) rfl), rfl⟩
set_option maxRecDepth 100000 in
theorem zk_X7_won : Cond.code yX7_won cX7_won 3 (some .int) ∈ TT := List.mem_filter.mpr ⟨lwm_6 (List.mem_of_getElem? (i := 138) rfl), rfl⟩
set_option maxRecDepth 100000 in
theorem zk_X7_writes : Cond.code yX7_writes cX7_writes 5 none ∈ TT := List.mem_filter.mpr ⟨lwm_6 (List.mem_of_getElem? (i := 32) rfl), rfl⟩
set_option maxRecDepth 100000 in
theorem zk_J13_bitCount_95d88 : Cond.code yJ13_bitCount_95d88 cJ13_bitCount_95d88 2 (some .int) ∈ TT := List.mem_filter.mpr ⟨lwm_3 (List.mem_of_getElem? (i := 23) rfl), rfl⟩
set_option maxRecDepth 100000 in
theorem zk_X1_endForms : Cond.code yX1_endForms cX1_endForms 7 (some .long) ∈ TT := List.mem_filter.mpr ⟨lwm_3 (List.mem_of_getElem? (i := 75) rfl), rfl⟩
set_option maxRecDepth 100000 in
theorem zk_X1_fillWay : Cond.code yX1_fillWay cX1_fillWay 10 (some .boolean) ∈ TT := List.mem_filter.mpr ⟨lwm_3 (List.mem_of_getElem? (i := 54) rfl), rfl⟩
set_option maxRecDepth 100000 in
theorem zk_X1_fuOf : Cond.code yX1_fuOf cX1_fuOf 6 (some .int) ∈ TT := List.mem_filter.mpr ⟨lwm_3 (List.mem_of_getElem? (i := 101) rfl), rfl⟩
set_option maxRecDepth 100000 in
theorem zk_X1_likeRuns : Cond.code yX1_likeRuns cX1_likeRuns 5 (some .long) ∈ TT := List.mem_filter.mpr ⟨lwm_3 (List.mem_of_getElem? (i := 64) rfl), rfl⟩
set_option maxRecDepth 100000 in
theorem zk_X1_offer : Cond.code yX1_offer cX1_offer 10 none ∈ TT := List.mem_filter.mpr ⟨lwm_3 (List.mem_of_getElem? (i := 18) rfl), rfl⟩
set_option maxRecDepth 100000 in
theorem zk_X1_setForms : Cond.code yX1_setForms cX1_setForms 5 (some .long) ∈ TT := List.mem_filter.mpr ⟨lwm_3 (List.mem_of_getElem? (i := 68) rfl), rfl⟩
set_option maxRecDepth 100000 in
theorem zk_X2_startHand : Cond.code yX2_startHand cX2_startHand 1 none ∈ TT := List.mem_filter.mpr ⟨lwm_2 (List.mem_of_getElem? (i := 69) rfl), rfl⟩
set_option maxRecDepth 100000 in
theorem zk_X3_all : Cond.code yX3_all cX3_all 2 (some .int) ∈ TT := List.mem_filter.mpr ⟨lwm_2 (List.mem_of_getElem? (i := 215) rfl), rfl⟩
set_option maxRecDepth 100000 in
theorem zk_X3_free : Cond.code yX3_free cX3_free 2 (some .int) ∈ TT := List.mem_filter.mpr ⟨lwm_2 (List.mem_of_getElem? (i := 109) rfl), rfl⟩
set_option maxRecDepth 100000 in
theorem zk_X3_isThirteen : Cond.code yX3_isThirteen cX3_isThirteen 1 (some .boolean) ∈ TT := List.mem_filter.mpr ⟨lwm_2 (List.mem_of_getElem? (i := 149) rfl), rfl⟩
set_option maxRecDepth 100000 in
theorem zk_X3_layDown : Cond.code yX3_layDown cX3_layDown 6 none ∈ TT := List.mem_filter.mpr ⟨lwm_3 (List.mem_of_getElem? (i := 169) rfl), rfl⟩
set_option maxRecDepth 100000 in
theorem zk_X3_put : Cond.code yX3_put cX3_put 3 none ∈ TT := List.mem_filter.mpr ⟨lwm_2 (List.mem_of_getElem? (i := 81) rfl), rfl⟩
set_option maxRecDepth 100000 in
theorem zk_X3_splitsBeside : Cond.code yX3_splitsBeside cX3_splitsBeside 7 (some .boolean) ∈ TT := List.mem_filter.mpr ⟨lwm_2 (List.mem_of_getElem? (i := 162) rfl), rfl⟩
set_option maxRecDepth 100000 in
theorem zk_X4_draw : Cond.code yX4_draw cX4_draw 1 (some .int) ∈ TT := List.mem_filter.mpr ⟨lwm_2 (List.mem_of_getElem? (i := 97) rfl), rfl⟩
set_option maxRecDepth 100000 in
theorem zk_X4_drawBehindFour : Cond.code yX4_drawBehindFour cX4_drawBehindFour 1 (some .int) ∈ TT := List.mem_filter.mpr ⟨lwm_2 (List.mem_of_getElem? (i := 92) rfl), rfl⟩
set_option maxRecDepth 100000 in
theorem zk_X6_breakHand : Cond.code yX6_breakHand cX6_breakHand 2 none ∈ TT := List.mem_filter.mpr ⟨lwm_3 (List.mem_of_getElem? (i := 136) rfl), rfl⟩
set_option maxRecDepth 100000 in
theorem zk_X6_clear : Cond.code yX6_clear cX6_clear 1 none ∈ TT := List.mem_filter.mpr ⟨lwm_4 (List.mem_of_getElem? (i := 13) rfl), rfl⟩
set_option maxRecDepth 100000 in
theorem zk_X6_count : Cond.code yX6_count cX6_count 2 (some .int) ∈ TT := List.mem_filter.mpr ⟨lwm_4 (List.mem_of_getElem? (i := 8) rfl), rfl⟩
set_option maxRecDepth 100000 in
theorem zk_X6_firstDraw : Cond.code yX6_firstDraw cX6_firstDraw 3 (some .long) ∈ TT := List.mem_filter.mpr ⟨lwm_2 (List.mem_of_getElem? (i := 200) rfl), rfl⟩
set_option maxRecDepth 100000 in
theorem zk_X6_forms : Cond.code yX6_forms cX6_forms 2 (some .long) ∈ TT := List.mem_filter.mpr ⟨lwm_4 (List.mem_of_getElem? (i := 4) rfl), rfl⟩
set_option maxRecDepth 100000 in
theorem zk_X6_keepsOther : Cond.code yX6_keepsOther cX6_keepsOther 7 (some .boolean) ∈ TT := List.mem_filter.mpr ⟨lwm_3 (List.mem_of_getElem? (i := 161) rfl), rfl⟩
set_option maxRecDepth 100000 in
theorem zk_X6_laid : Cond.code yX6_laid cX6_laid 5 (some .int) ∈ TT := List.mem_filter.mpr ⟨lwm_3 (List.mem_of_getElem? (i := 220) rfl), rfl⟩
set_option maxRecDepth 100000 in
theorem zk_X6_mayMakeFour : Cond.code yX6_mayMakeFour cX6_mayMakeFour 1 (some .boolean) ∈ TT := List.mem_filter.mpr ⟨lwm_3 (List.mem_of_getElem? (i := 188) rfl), rfl⟩
set_option maxRecDepth 100000 in
theorem zk_X6_otherEnd : Cond.code yX6_otherEnd cX6_otherEnd 2 (some .long) ∈ TT := List.mem_filter.mpr ⟨lwm_3 (List.mem_of_getElem? (i := 156) rfl), rfl⟩
set_option maxRecDepth 100000 in
theorem zk_X6_richest : Cond.code yX6_richest cX6_richest 3 (some .int) ∈ TT := List.mem_filter.mpr ⟨lwm_3 (List.mem_of_getElem? (i := 123) rfl), rfl⟩
set_option maxRecDepth 100000 in
theorem zk_X6_seat : Cond.code yX6_seat cX6_seat 4 (some .int) ∈ TT := List.mem_filter.mpr ⟨lwm_3 (List.mem_of_getElem? (i := 228) rfl), rfl⟩
set_option maxRecDepth 100000 in
theorem zk_X6_someoneIsBroke : Cond.code yX6_someoneIsBroke cX6_someoneIsBroke 2 (some .boolean) ∈ TT := List.mem_filter.mpr ⟨lwm_3 (List.mem_of_getElem? (i := 119) rfl), rfl⟩
set_option maxRecDepth 100000 in
theorem zk_X6_someoneSays : Cond.code yX6_someoneSays cX6_someoneSays 2 (some .boolean) ∈ TT := List.mem_filter.mpr ⟨lwm_2 (List.mem_of_getElem? (i := 178) rfl), rfl⟩
set_option maxRecDepth 100000 in
theorem zk_X6_toldForms : Cond.code yX6_toldForms cX6_toldForms 5 (some .long) ∈ TT := List.mem_filter.mpr ⟨lwm_2 (List.mem_of_getElem? (i := 190) rfl), rfl⟩
set_option maxRecDepth 100000 in
theorem zk_X6_won : Cond.code yX6_won cX6_won 3 (some .int) ∈ TT := List.mem_filter.mpr ⟨lwm_3 (List.mem_of_getElem? (i := 232) rfl), rfl⟩
set_option maxRecDepth 100000 in
theorem zk_X7_canDiscard : Cond.code yX7_canDiscard cX7_canDiscard 4 (some .boolean) ∈ TT := List.mem_filter.mpr ⟨lwm_6 (List.mem_of_getElem? (i := 74) rfl), rfl⟩
set_option maxRecDepth 100000 in
theorem zk_X7_claims : Cond.code yX7_claims cX7_claims 4 none ∈ TT := List.mem_filter.mpr ⟨lwm_6 (List.mem_of_getElem? (i := 78) rfl), rfl⟩
set_option maxRecDepth 100000 in
theorem zk_X7_compare : Cond.code yX7_compare cX7_compare 7 none ∈ TT := List.mem_filter.mpr ⟨lwm_5 (List.mem_of_getElem? (i := 220) rfl), rfl⟩
set_option maxRecDepth 100000 in
theorem zk_X7_count : Cond.code yX7_count cX7_count 2 (some .int) ∈ TT := List.mem_filter.mpr ⟨lwm_6 (List.mem_of_getElem? (i := 146) rfl), rfl⟩
set_option maxRecDepth 100000 in
theorem zk_X7_draws : Cond.code yX7_draws cX7_draws 4 none ∈ TT := List.mem_filter.mpr ⟨lwm_5 (List.mem_of_getElem? (i := 115) rfl), rfl⟩
set_option maxRecDepth 100000 in
theorem zk_X7_hand : Cond.code yX7_hand cX7_hand 3 (some .int) ∈ TT := List.mem_filter.mpr ⟨lwm_6 (List.mem_of_getElem? (i := 118) rfl), rfl⟩
set_option maxRecDepth 100000 in
theorem zk_X7_isEnd : Cond.code yX7_isEnd cX7_isEnd 1 (some .boolean) ∈ TT := List.mem_filter.mpr ⟨lwm_5 (List.mem_of_getElem? (i := 206) rfl), rfl⟩
set_option maxRecDepth 100000 in
theorem zk_X7_laid : Cond.code yX7_laid cX7_laid 4 (some .int) ∈ TT := List.mem_filter.mpr ⟨lwm_6 (List.mem_of_getElem? (i := 122) rfl), rfl⟩
set_option maxRecDepth 100000 in
theorem zk_X7_mayClaim : Cond.code yX7_mayClaim cX7_mayClaim 2 (some .boolean) ∈ TT := List.mem_filter.mpr ⟨lwm_6 (List.mem_of_getElem? (i := 67) rfl), rfl⟩
set_option maxRecDepth 100000 in
theorem zk_X7_mayMake : Cond.code yX7_mayMake cX7_mayMake 1 (some .boolean) ∈ TT := List.mem_filter.mpr ⟨lwm_6 (List.mem_of_getElem? (i := 98) rfl), rfl⟩
set_option maxRecDepth 100000 in
theorem zk_X7_of : Cond.code yX7_of cX7_of 4 (some .int) ∈ TT := List.mem_filter.mpr ⟨lwm_5 (List.mem_of_getElem? (i := 154) rfl), rfl⟩
set_option maxRecDepth 100000 in
theorem zk_X7_river : Cond.code yX7_river cX7_river 3 (some .int) ∈ TT := List.mem_filter.mpr ⟨lwm_6 (List.mem_of_getElem? (i := 126) rfl), rfl⟩
set_option maxRecDepth 100000 in
theorem zk_X7_seat : Cond.code yX7_seat cX7_seat 3 (some .int) ∈ TT := List.mem_filter.mpr ⟨lwm_6 (List.mem_of_getElem? (i := 134) rfl), rfl⟩
set_option maxRecDepth 100000 in
theorem zk_X7_take : Cond.code yX7_take cX7_take 3 none ∈ TT := List.mem_filter.mpr ⟨lwm_5 (List.mem_of_getElem? (i := 142) rfl), rfl⟩
set_option maxRecDepth 100000 in
theorem zk_X7_twins : Cond.code yX7_twins cX7_twins 5 none ∈ TT := List.mem_filter.mpr ⟨lwm_5 (List.mem_of_getElem? (i := 191) rfl), rfl⟩
set_option maxRecDepth 100000 in
theorem zk_X1_isNineGates : Cond.code yX1_isNineGates cX1_isNineGates 4 (some .boolean) ∈ TT := List.mem_filter.mpr ⟨lwm_3 (List.mem_of_getElem? (i := 12) rfl), rfl⟩
set_option maxRecDepth 100000 in
theorem zk_X1_weighCompleted : Cond.code yX1_weighCompleted cX1_weighCompleted 8 none ∈ TT := List.mem_filter.mpr ⟨lwm_3 (List.mem_of_getElem? (i := 85) rfl), rfl⟩
set_option maxRecDepth 100000 in
theorem zk_X3_addToThree : Cond.code yX3_addToThree cX3_addToThree 3 (some .boolean) ∈ TT := List.mem_filter.mpr ⟨lwm_3 (List.mem_of_getElem? (i := 196) rfl), rfl⟩
set_option maxRecDepth 100000 in
theorem zk_X3_isSetsAndPair : Cond.code yX3_isSetsAndPair cX3_isSetsAndPair 2 (some .boolean) ∈ TT := List.mem_filter.mpr ⟨lwm_2 (List.mem_of_getElem? (i := 158) rfl), rfl⟩
set_option maxRecDepth 100000 in
theorem zk_X3_take : Cond.code yX3_take cX3_take 3 none ∈ TT := List.mem_filter.mpr ⟨lwm_2 (List.mem_of_getElem? (i := 116) rfl), rfl⟩
set_option maxRecDepth 100000 in
theorem zk_X4_dearTiles : Cond.code yX4_dearTiles cX4_dearTiles 6 (some .int) ∈ TT := List.mem_filter.mpr ⟨lwm_2 (List.mem_of_getElem? (i := 204) rfl), rfl⟩
set_option maxRecDepth 100000 in
theorem zk_X6_drawTile : Cond.code yX6_drawTile cX6_drawTile 4 none ∈ TT := List.mem_filter.mpr ⟨lwm_2 (List.mem_of_getElem? (i := 88) rfl), rfl⟩
set_option maxRecDepth 100000 in
theorem zk_X6_endHand : Cond.code yX6_endHand cX6_endHand 5 none ∈ TT := List.mem_filter.mpr ⟨lwm_3 (List.mem_of_getElem? (i := 115) rfl), rfl⟩
set_option maxRecDepth 100000 in
theorem zk_X6_hand : Cond.code yX6_hand cX6_hand 3 (some .int) ∈ TT := List.mem_filter.mpr ⟨lwm_3 (List.mem_of_getElem? (i := 216) rfl), rfl⟩
set_option maxRecDepth 100000 in
theorem zk_X6_lay : Cond.code yX6_lay cX6_lay 3 (some .boolean) ∈ TT := List.mem_filter.mpr ⟨lwm_4 (List.mem_of_getElem? (i := 18) rfl), rfl⟩
set_option maxRecDepth 100000 in
theorem zk_X6_mayClaimSet : Cond.code yX6_mayClaimSet cX6_mayClaimSet 2 (some .boolean) ∈ TT := List.mem_filter.mpr ⟨lwm_3 (List.mem_of_getElem? (i := 148) rfl), rfl⟩
set_option maxRecDepth 100000 in
theorem zk_X6_mayThrow : Cond.code yX6_mayThrow cX6_mayThrow 3 (some .boolean) ∈ TT := List.mem_filter.mpr ⟨lwm_2 (List.mem_of_getElem? (i := 105) rfl), rfl⟩
set_option maxRecDepth 100000 in
theorem zk_X6_set : Cond.code yX6_set cX6_set 6 (some .boolean) ∈ TT := List.mem_filter.mpr ⟨lwm_4 (List.mem_of_getElem? (i := 25) rfl), rfl⟩
set_option maxRecDepth 100000 in
theorem zk_X7_add : Cond.code yX7_add cX7_add 3 (some .boolean) ∈ TT := List.mem_filter.mpr ⟨lwm_6 (List.mem_of_getElem? (i := 102) rfl), rfl⟩
set_option maxRecDepth 100000 in
theorem zk_X7_deal : Cond.code yX7_deal cX7_deal 8 (some .boolean) ∈ TT := List.mem_filter.mpr ⟨lwm_5 (List.mem_of_getElem? (i := 105) rfl), rfl⟩
set_option maxRecDepth 100000 in
theorem zk_X7_dearTiles : Cond.code yX7_dearTiles cX7_dearTiles 4 (some .int) ∈ TT := List.mem_filter.mpr ⟨lwm_6 (List.mem_of_getElem? (i := 21) rfl), rfl⟩
set_option maxRecDepth 100000 in
theorem zk_X7_edges : Cond.code yX7_edges cX7_edges 9 none ∈ TT := List.mem_filter.mpr ⟨lwm_5 (List.mem_of_getElem? (i := 203) rfl), rfl⟩
set_option maxRecDepth 100000 in
theorem zk_X7_hide : Cond.code yX7_hide cX7_hide 2 (some .boolean) ∈ TT := List.mem_filter.mpr ⟨lwm_6 (List.mem_of_getElem? (i := 94) rfl), rfl⟩
set_option maxRecDepth 100000 in
theorem zk_X7_lay : Cond.code yX7_lay cX7_lay 3 (some .boolean) ∈ TT := List.mem_filter.mpr ⟨lwm_6 (List.mem_of_getElem? (i := 158) rfl), rfl⟩
set_option maxRecDepth 100000 in
theorem zk_X7_nine : Cond.code yX7_nine cX7_nine 3 (some .boolean) ∈ TT := List.mem_filter.mpr ⟨lwm_6 (List.mem_of_getElem? (i := 114) rfl), rfl⟩
set_option maxRecDepth 100000 in
theorem zk_X7_set : Cond.code yX7_set cX7_set 5 (some .boolean) ∈ TT := List.mem_filter.mpr ⟨lwm_6 (List.mem_of_getElem? (i := 166) rfl), rfl⟩
set_option maxRecDepth 100000 in
theorem zk_X7_thirteen : Cond.code yX7_thirteen cX7_thirteen 1 none ∈ TT := List.mem_filter.mpr ⟨lwm_5 (List.mem_of_getElem? (i := 237) rfl), rfl⟩
set_option maxRecDepth 100000 in
theorem zk_X7_tiles : Cond.code yX7_tiles cX7_tiles 12 none ∈ TT := List.mem_filter.mpr ⟨lwm_5 (List.mem_of_getElem? (i := 216) rfl), rfl⟩
set_option maxRecDepth 100000 in
theorem zk_X1_tileForms : Cond.code yX1_tileForms cX1_tileForms 6 (some .long) ∈ TT := List.mem_filter.mpr ⟨lwm_2 (List.mem_of_getElem? (i := 238) rfl), rfl⟩
set_option maxRecDepth 100000 in
theorem zk_X1_weighWay : Cond.code yX1_weighWay cX1_weighWay 4 none ∈ TT := List.mem_filter.mpr ⟨lwm_3 (List.mem_of_getElem? (i := 60) rfl), rfl⟩
set_option maxRecDepth 100000 in
theorem zk_X3_waitsFor : Cond.code yX3_waitsFor cX3_waitsFor 3 (some .boolean) ∈ TT := List.mem_filter.mpr ⟨lwm_2 (List.mem_of_getElem? (i := 137) rfl), rfl⟩
set_option maxRecDepth 100000 in
theorem zk_X6_add : Cond.code yX6_add cX6_add 2 (some .boolean) ∈ TT := List.mem_filter.mpr ⟨lwm_3 (List.mem_of_getElem? (i := 192) rfl), rfl⟩
set_option maxRecDepth 100000 in
theorem zk_X6_deal : Cond.code yX6_deal cX6_deal 6 (some .boolean) ∈ TT := List.mem_filter.mpr ⟨lwm_2 (List.mem_of_getElem? (i := 55) rfl), rfl⟩
set_option maxRecDepth 100000 in
theorem zk_X6_makeFour : Cond.code yX6_makeFour cX6_makeFour 2 none ∈ TT := List.mem_filter.mpr ⟨lwm_3 (List.mem_of_getElem? (i := 132) rfl), rfl⟩
set_option maxRecDepth 100000 in
theorem zk_X6_nine : Cond.code yX6_nine cX6_nine 1 (some .boolean) ∈ TT := List.mem_filter.mpr ⟨lwm_3 (List.mem_of_getElem? (i := 209) rfl), rfl⟩
set_option maxRecDepth 100000 in
theorem zk_X7_firstSort : Cond.code yX7_firstSort cX7_firstSort 14 none ∈ TT := List.mem_filter.mpr ⟨lwm_5 (List.mem_of_getElem? (i := 173) rfl), rfl⟩
set_option maxRecDepth 100000 in
theorem zk_X7_pairsWay : Cond.code yX7_pairsWay cX7_pairsWay 1 none ∈ TT := List.mem_filter.mpr ⟨lwm_5 (List.mem_of_getElem? (i := 233) rfl), rfl⟩
set_option maxRecDepth 100000 in
theorem zk_X1_judge : Cond.code yX1_judge cX1_judge 11 none ∈ TT := List.mem_filter.mpr ⟨lwm_2 (List.mem_of_getElem? (i := 223) rfl), rfl⟩
set_option maxRecDepth 100000 in
theorem zk_X3_waiting : Cond.code yX3_waiting cX3_waiting 4 (some .long) ∈ TT := List.mem_filter.mpr ⟨lwm_2 (List.mem_of_getElem? (i := 133) rfl), rfl⟩
set_option maxRecDepth 100000 in
theorem zk_X6_hide : Cond.code yX6_hide cX6_hide 2 (some .boolean) ∈ TT := List.mem_filter.mpr ⟨lwm_3 (List.mem_of_getElem? (i := 184) rfl), rfl⟩
set_option maxRecDepth 100000 in
theorem zk_X6_letTileGo : Cond.code yX6_letTileGo cX6_letTileGo 3 none ∈ TT := List.mem_filter.mpr ⟨lwm_3 (List.mem_of_getElem? (i := 127) rfl), rfl⟩
set_option maxRecDepth 100000 in
theorem zk_X7_way : Cond.code yX7_way cX7_way 5 none ∈ TT := List.mem_filter.mpr ⟨lwm_5 (List.mem_of_getElem? (i := 169) rfl), rfl⟩
set_option maxRecDepth 100000 in
theorem zk_X6_deskWaits : Cond.code yX6_deskWaits cX6_deskWaits 1 (some .long) ∈ TT := List.mem_filter.mpr ⟨lwm_4 (List.mem_of_getElem? (i := 42) rfl), rfl⟩
set_option maxRecDepth 100000 in
theorem zk_X6_endUnwon : Cond.code yX6_endUnwon cX6_endUnwon 6 none ∈ TT := List.mem_filter.mpr ⟨lwm_3 (List.mem_of_getElem? (i := 140) rfl), rfl⟩
set_option maxRecDepth 100000 in
theorem zk_X6_mayBet : Cond.code yX6_mayBet cX6_mayBet 2 (some .boolean) ∈ TT := List.mem_filter.mpr ⟨lwm_2 (List.mem_of_getElem? (i := 121) rfl), rfl⟩
set_option maxRecDepth 100000 in
theorem zk_X6_takeSet : Cond.code yX6_takeSet cX6_takeSet 5 none ∈ TT := List.mem_filter.mpr ⟨lwm_3 (List.mem_of_getElem? (i := 165) rfl), rfl⟩
set_option maxRecDepth 100000 in
theorem zk_X6_waits : Cond.code yX6_waits cX6_waits 2 (some .long) ∈ TT := List.mem_filter.mpr ⟨lwm_3 (List.mem_of_getElem? (i := 224) rfl), rfl⟩
set_option maxRecDepth 100000 in
theorem zk_X6_weighHand : Cond.code yX6_weighHand cX6_weighHand 7 (some .int) ∈ TT := List.mem_filter.mpr ⟨lwm_2 (List.mem_of_getElem? (i := 186) rfl), rfl⟩
set_option maxRecDepth 100000 in
theorem zk_X6_worth : Cond.code yX6_worth cX6_worth 7 (some .int) ∈ TT := List.mem_filter.mpr ⟨lwm_4 (List.mem_of_getElem? (i := 30) rfl), rfl⟩
set_option maxRecDepth 100000 in
theorem zk_X7_sets : Cond.code yX7_sets cX7_sets 7 none ∈ TT := List.mem_filter.mpr ⟨lwm_5 (List.mem_of_getElem? (i := 165) rfl), rfl⟩
set_option maxRecDepth 100000 in
theorem zk_X6_claim : Cond.code yX6_claim cX6_claim 5 (some .boolean) ∈ TT := List.mem_filter.mpr ⟨lwm_3 (List.mem_of_getElem? (i := 205) rfl), rfl⟩
set_option maxRecDepth 100000 in
theorem zk_X6_discard : Cond.code yX6_discard cX6_discard 4 (some .boolean) ∈ TT := List.mem_filter.mpr ⟨lwm_2 (List.mem_of_getElem? (i := 101) rfl), rfl⟩
set_option maxRecDepth 100000 in
theorem zk_X6_four : Cond.code yX6_four cX6_four 2 (some .boolean) ∈ TT := List.mem_filter.mpr ⟨lwm_3 (List.mem_of_getElem? (i := 180) rfl), rfl⟩
set_option maxRecDepth 100000 in
theorem zk_X6_run : Cond.code yX6_run cX6_run 6 (some .boolean) ∈ TT := List.mem_filter.mpr ⟨lwm_3 (List.mem_of_getElem? (i := 144) rfl), rfl⟩
set_option maxRecDepth 100000 in
theorem zk_X6_three : Cond.code yX6_three cX6_three 4 (some .boolean) ∈ TT := List.mem_filter.mpr ⟨lwm_3 (List.mem_of_getElem? (i := 176) rfl), rfl⟩
set_option maxRecDepth 100000 in
theorem zk_X6_win : Cond.code yX6_win cX6_win 6 (some .boolean) ∈ TT := List.mem_filter.mpr ⟨lwm_3 (List.mem_of_getElem? (i := 201) rfl), rfl⟩
set_option maxRecDepth 100000 in
theorem zk_X6_winByTile : Cond.code yX6_winByTile cX6_winByTile 7 none ∈ TT := List.mem_filter.mpr ⟨lwm_2 (List.mem_of_getElem? (i := 182) rfl), rfl⟩
set_option maxRecDepth 100000 in
theorem zk_X7_apart : Cond.code yX7_apart cX7_apart 6 none ∈ TT := List.mem_filter.mpr ⟨lwm_5 (List.mem_of_getElem? (i := 161) rfl), rfl⟩
set_option maxRecDepth 100000 in
theorem zk_X6_pass : Cond.code yX6_pass cX6_pass 1 (some .boolean) ∈ TT := List.mem_filter.mpr ⟨lwm_2 (List.mem_of_getElem? (i := 174) rfl), rfl⟩
set_option maxRecDepth 100000 in
theorem zk_X7_reckon : Cond.code yX7_reckon cX7_reckon 9 none ∈ TT := List.mem_filter.mpr ⟨lwm_6 (List.mem_of_getElem? (i := 28) rfl), rfl⟩
set_option maxRecDepth 100000 in
theorem zk_X7_waitsOf : Cond.code yX7_waitsOf cX7_waitsOf 5 (some .long) ∈ TT := List.mem_filter.mpr ⟨lwm_5 (List.mem_of_getElem? (i := 146) rfl), rfl⟩
set_option maxRecDepth 100000 in
theorem zk_X7_deskWaits : Cond.code yX7_deskWaits cX7_deskWaits 1 (some .long) ∈ TT := List.mem_filter.mpr ⟨lwm_6 (List.mem_of_getElem? (i := 187) rfl), rfl⟩
set_option maxRecDepth 100000 in
theorem zk_X7_value : Cond.code yX7_value cX7_value 6 none ∈ TT := List.mem_filter.mpr ⟨lwm_6 (List.mem_of_getElem? (i := 13) rfl), rfl⟩
set_option maxRecDepth 100000 in
theorem zk_X7_waitsAt : Cond.code yX7_waitsAt cX7_waitsAt 2 (some .long) ∈ TT := List.mem_filter.mpr ⟨lwm_5 (List.mem_of_getElem? (i := 138) rfl), rfl⟩
set_option maxRecDepth 100000 in
theorem zk_X7_worth : Cond.code yX7_worth cX7_worth 9 (some .int) ∈ TT := List.mem_filter.mpr ⟨lwm_6 (List.mem_of_getElem? (i := 170) rfl), rfl⟩
set_option maxRecDepth 100000 in
theorem zk_X7_allWin : Cond.code yX7_allWin cX7_allWin 5 none ∈ TT := List.mem_filter.mpr ⟨lwm_6 (List.mem_of_getElem? (i := 9) rfl), rfl⟩
set_option maxRecDepth 100000 in
theorem zk_X7_claim : Cond.code yX7_claim cX7_claim 5 (some .boolean) ∈ TT := List.mem_filter.mpr ⟨lwm_6 (List.mem_of_getElem? (i := 110) rfl), rfl⟩
set_option maxRecDepth 100000 in
theorem zk_X7_discard : Cond.code yX7_discard cX7_discard 5 (some .boolean) ∈ TT := List.mem_filter.mpr ⟨lwm_5 (List.mem_of_getElem? (i := 119) rfl), rfl⟩
set_option maxRecDepth 100000 in
theorem zk_X7_nobodyWins : Cond.code yX7_nobodyWins cX7_nobodyWins 4 none ∈ TT := List.mem_filter.mpr ⟨lwm_6 (List.mem_of_getElem? (i := 59) rfl), rfl⟩
set_option maxRecDepth 100000 in
theorem zk_X7_over : Cond.code yX7_over cX7_over 2 none ∈ TT := List.mem_filter.mpr ⟨lwm_6 (List.mem_of_getElem? (i := 51) rfl), rfl⟩
set_option maxRecDepth 100000 in
theorem zk_X7_waits : Cond.code yX7_waits cX7_waits 2 (some .long) ∈ TT := List.mem_filter.mpr ⟨lwm_6 (List.mem_of_getElem? (i := 130) rfl), rfl⟩
set_option maxRecDepth 100000 in
theorem zk_X7_win : Cond.code yX7_win cX7_win 4 (some .boolean) ∈ TT := List.mem_filter.mpr ⟨lwm_6 (List.mem_of_getElem? (i := 106) rfl), rfl⟩
set_option maxRecDepth 100000 in
theorem zk_X7_four : Cond.code yX7_four cX7_four 2 (some .boolean) ∈ TT := List.mem_filter.mpr ⟨lwm_6 (List.mem_of_getElem? (i := 90) rfl), rfl⟩
set_option maxRecDepth 100000 in
theorem zk_X7_pass : Cond.code yX7_pass cX7_pass 2 (some .boolean) ∈ TT := List.mem_filter.mpr ⟨lwm_6 (List.mem_of_getElem? (i := 1) rfl), rfl⟩
set_option maxRecDepth 100000 in
theorem zk_X7_run : Cond.code yX7_run cX7_run 5 (some .boolean) ∈ TT := List.mem_filter.mpr ⟨lwm_6 (List.mem_of_getElem? (i := 63) rfl), rfl⟩
set_option maxRecDepth 100000 in
theorem zk_X7_three : Cond.code yX7_three cX7_three 3 (some .boolean) ∈ TT := List.mem_filter.mpr ⟨lwm_6 (List.mem_of_getElem? (i := 86) rfl), rfl⟩

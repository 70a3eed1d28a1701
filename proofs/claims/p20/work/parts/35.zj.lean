/-! every method of the small machine: its word, its bytes -/
noncomputable def z_cd (j : Nat) : List (Nat × Instr) := z_codes.getD j []
noncomputable def z_mok (j : Nat) : Prop := Cond.code (z_y j) (z_cc j) (z_ml j) (z_rt j) ∈ TT ∧ (z_cd j).all (z_dok (z_cc j)) = true
noncomputable def z_upto (P : Nat → Prop) : Nat → Prop
  | 0 => True
  | n + 1 => z_upto P n ∧ P n
theorem z_upto_lt {P : Nat → Prop} {n : Nat} (h : z_upto P n) : ∀ j, j < n → P j := by
  induction n with
  | zero => intro j hj; exact absurd hj (Nat.not_lt_zero j)
  | succ n ih =>
    intro j hj
    rcases Nat.lt_or_ge j n with q | q
    · exact ih h.1 j q
    · have : j = n := by omega
      rw [this]
      exact h.2
theorem zu_0 : z_upto z_mok 0 := trivial
set_option maxRecDepth 10000 in
theorem zu_1 : z_upto z_mok 1 := ⟨zu_0, zk_X0_baseOf, zd_X0_baseOf⟩
set_option maxRecDepth 10000 in
theorem zu_2 : z_upto z_mok 2 := ⟨zu_1, zk_X0_hanOf, zd_X0_hanOf⟩
set_option maxRecDepth 10000 in
theorem zu_3 : z_upto z_mok 3 := ⟨zu_2, zk_X1_bit, zd_X1_bit⟩
set_option maxRecDepth 10000 in
theorem zu_4 : z_upto z_mok 4 := ⟨zu_3, zk_X1_chosenThrees, zd_X1_chosenThrees⟩
set_option maxRecDepth 10000 in
theorem zu_5 : z_upto z_mok 5 := ⟨zu_4, zk_X1_findThrees, zd_X1_findThrees⟩
set_option maxRecDepth 10000 in
theorem zu_6 : z_upto z_mok 6 := ⟨zu_5, zk_X1_isBetter, zd_X1_isBetter⟩
set_option maxRecDepth 10000 in
theorem zu_7 : z_upto z_mok 7 := ⟨zu_6, zk_X1_isHidden, zd_X1_isHidden⟩
set_option maxRecDepth 10000 in
theorem zu_8 : z_upto z_mok 8 := ⟨zu_7, zk_X1_mayHaveCompleted, zd_X1_mayHaveCompleted⟩
set_option maxRecDepth 10000 in
theorem zu_9 : z_upto z_mok 9 := ⟨zu_8, zk_X1_pairFu, zd_X1_pairFu⟩
set_option maxRecDepth 10000 in
theorem zu_10 : z_upto z_mok 10 := ⟨zu_9, zk_X1_toldOnes, zd_X1_toldOnes⟩
set_option maxRecDepth 10000 in
theorem zu_11 : z_upto z_mok 11 := ⟨zu_10, zk_X1_waitFu, zd_X1_waitFu⟩
set_option maxRecDepth 10000 in
theorem zu_12 : z_upto z_mok 12 := ⟨zu_11, zk_X2_throwTile, zd_X2_throwTile⟩
set_option maxRecDepth 10000 in
theorem zu_13 : z_upto z_mok 13 := ⟨zu_12, zk_X2_thrown, zd_X2_thrown⟩
set_option maxRecDepth 10000 in
theorem zu_14 : z_upto z_mok 14 := ⟨zu_13, zk_X3_empty, zd_X3_empty⟩
set_option maxRecDepth 10000 in
theorem zu_15 : z_upto z_mok 15 := ⟨zu_14, zk_X3_isOpen, zd_X3_isOpen⟩
set_option maxRecDepth 10000 in
theorem zu_16 : z_upto z_mok 16 := ⟨zu_15, zk_X3_isSevenPairs, zd_X3_isSevenPairs⟩
set_option maxRecDepth 10000 in
theorem zu_17 : z_upto z_mok 17 := ⟨zu_16, zk_X3_kinds, zd_X3_kinds⟩
set_option maxRecDepth 10000 in
theorem zu_18 : z_upto z_mok 18 := ⟨zu_17, zk_X3_size, zd_X3_size⟩
set_option maxRecDepth 10000 in
theorem zu_19 : z_upto z_mok 19 := ⟨zu_18, zk_X4_behind, zd_X4_behind⟩
set_option maxRecDepth 10000 in
theorem zu_20 : z_upto z_mok 20 := ⟨zu_19, zk_X4_build, zd_X4_build⟩
set_option maxRecDepth 10000 in
theorem zu_21 : z_upto z_mok 21 := ⟨zu_20, zk_X4_kindAt, zd_X4_kindAt⟩
set_option maxRecDepth 10000 in
theorem zu_22 : z_upto z_mok 22 := ⟨zu_21, zk_X4_left, zd_X4_left⟩
set_option maxRecDepth 10000 in
theorem zu_23 : z_upto z_mok 23 := ⟨zu_22, zk_X4_signs, zd_X4_signs⟩
set_option maxRecDepth 10000 in
theorem zu_24 : z_upto z_mok 24 := ⟨zu_23, zk_X5_part, zd_X5_part⟩
set_option maxRecDepth 10000 in
theorem zu_25 : z_upto z_mok 25 := ⟨zu_24, zk_X6_at, zd_X6_at⟩
set_option maxRecDepth 10000 in
theorem zu_26 : z_upto z_mok 26 := ⟨zu_25, zk_X6_desk, zd_X6_desk⟩
set_option maxRecDepth 10000 in
theorem zu_27 : z_upto z_mok 27 := ⟨zu_26, zk_X6_deskForms, zd_X6_deskForms⟩
set_option maxRecDepth 10000 in
theorem zu_28 : z_upto z_mok 28 := ⟨zu_27, zk_X6_holds, zd_X6_holds⟩
set_option maxRecDepth 10000 in
theorem zu_29 : z_upto z_mok 29 := ⟨zu_28, zk_X6_hundreds, zd_X6_hundreds⟩
set_option maxRecDepth 10000 in
theorem zu_30 : z_upto z_mok 30 := ⟨zu_29, zk_X6_isKind, zd_X6_isKind⟩
set_option maxRecDepth 10000 in
theorem zu_31 : z_upto z_mok 31 := ⟨zu_30, zk_X6_isSeat, zd_X6_isSeat⟩
set_option maxRecDepth 10000 in
theorem zu_32 : z_upto z_mok 32 := ⟨zu_31, zk_X6_isWin, zd_X6_isWin⟩
set_option maxRecDepth 10000 in
theorem zu_33 : z_upto z_mok 33 := ⟨zu_32, zk_X6_recordWin, zd_X6_recordWin⟩
set_option maxRecDepth 10000 in
theorem zu_34 : z_upto z_mok 34 := ⟨zu_33, zk_X6_startsRun, zd_X6_startsRun⟩
set_option maxRecDepth 10000 in
theorem zu_35 : z_upto z_mok 35 := ⟨zu_34, zk_X6_tilesOfEach, zd_X6_tilesOfEach⟩
set_option maxRecDepth 10000 in
theorem zu_36 : z_upto z_mok 36 := ⟨zu_35, zk_X6_windOf, zd_X6_windOf⟩
set_option maxRecDepth 10000 in
theorem zu_37 : z_upto z_mok 37 := ⟨zu_36, zk_X7_anySays, zd_X7_anySays⟩
set_option maxRecDepth 10000 in
theorem zu_38 : z_upto z_mok 38 := ⟨zu_37, zk_X7_behind, zd_X7_behind⟩
set_option maxRecDepth 10000 in
theorem zu_39 : z_upto z_mok 39 := ⟨zu_38, zk_X7_bit, zd_X7_bit⟩
set_option maxRecDepth 10000 in
theorem zu_40 : z_upto z_mok 40 := ⟨zu_39, zk_X7_clear, zd_X7_clear⟩
set_option maxRecDepth 10000 in
theorem zu_41 : z_upto z_mok 41 := ⟨zu_40, zk_X7_desk, zd_X7_desk⟩
set_option maxRecDepth 10000 in
theorem zu_42 : z_upto z_mok 42 := ⟨zu_41, zk_X7_deskForms, zd_X7_deskForms⟩
set_option maxRecDepth 10000 in
theorem zu_43 : z_upto z_mok 43 := ⟨zu_42, zk_X7_ends, zd_X7_ends⟩
set_option maxRecDepth 10000 in
theorem zu_44 : z_upto z_mok 44 := ⟨zu_43, zk_X7_forms, zd_X7_forms⟩
set_option maxRecDepth 10000 in
theorem zu_45 : z_upto z_mok 45 := ⟨zu_44, zk_X7_gives, zd_X7_gives⟩
set_option maxRecDepth 10000 in
theorem zu_46 : z_upto z_mok 46 := ⟨zu_45, zk_X7_han, zd_X7_han⟩
set_option maxRecDepth 10000 in
theorem zu_47 : z_upto z_mok 47 := ⟨zu_46, zk_X7_has, zd_X7_has⟩
set_option maxRecDepth 10000 in
theorem zu_48 : z_upto z_mok 48 := ⟨zu_47, zk_X7_hasRun, zd_X7_hasRun⟩
set_option maxRecDepth 10000 in
theorem zu_49 : z_upto z_mok 49 := ⟨zu_48, zk_X7_hasThree, zd_X7_hasThree⟩
set_option maxRecDepth 10000 in
theorem zu_50 : z_upto z_mok 50 := ⟨zu_49, zk_X7_has_, zd_X7_has_⟩
set_option maxRecDepth 10000 in
theorem zu_51 : z_upto z_mok 51 := ⟨zu_50, zk_X7_inHand, zd_X7_inHand⟩
set_option maxRecDepth 10000 in
theorem zu_52 : z_upto z_mok 52 := ⟨zu_51, zk_X7_isDragon, zd_X7_isDragon⟩
set_option maxRecDepth 10000 in
theorem zu_53 : z_upto z_mok 53 := ⟨zu_52, zk_X7_isHidden, zd_X7_isHidden⟩
set_option maxRecDepth 10000 in
theorem zu_54 : z_upto z_mok 54 := ⟨zu_53, zk_X7_isHonour, zd_X7_isHonour⟩
set_option maxRecDepth 10000 in
theorem zu_55 : z_upto z_mok 55 := ⟨zu_54, zk_X7_isKind, zd_X7_isKind⟩
set_option maxRecDepth 10000 in
theorem zu_56 : z_upto z_mok 56 := ⟨zu_55, zk_X7_isOpen, zd_X7_isOpen⟩
set_option maxRecDepth 10000 in
theorem zu_57 : z_upto z_mok 57 := ⟨zu_56, zk_X7_isOpen_, zd_X7_isOpen_⟩
set_option maxRecDepth 10000 in
theorem zu_58 : z_upto z_mok 58 := ⟨zu_57, zk_X7_isRun, zd_X7_isRun⟩
set_option maxRecDepth 10000 in
theorem zu_59 : z_upto z_mok 59 := ⟨zu_58, zk_X7_isSeat, zd_X7_isSeat⟩
set_option maxRecDepth 10000 in
theorem zu_60 : z_upto z_mok 60 := ⟨zu_59, zk_X7_isTerminal, zd_X7_isTerminal⟩
set_option maxRecDepth 10000 in
theorem zu_61 : z_upto z_mok 61 := ⟨zu_60, zk_X7_lays, zd_X7_lays⟩
set_option maxRecDepth 10000 in
theorem zu_62 : z_upto z_mok 62 := ⟨zu_61, zk_X7_left, zd_X7_left⟩
set_option maxRecDepth 10000 in
theorem zu_63 : z_upto z_mok 63 := ⟨zu_62, zk_X7_nothing, zd_X7_nothing⟩
set_option maxRecDepth 10000 in
theorem zu_64 : z_upto z_mok 64 := ⟨zu_63, zk_X7_pays, zd_X7_pays⟩
set_option maxRecDepth 10000 in
theorem zu_65 : z_upto z_mok 65 := ⟨zu_64, zk_X7_takeDesk, zd_X7_takeDesk⟩
set_option maxRecDepth 10000 in
theorem zu_66 : z_upto z_mok 66 := ⟨zu_65, zk_X7_takesBets, zd_X7_takesBets⟩
set_option maxRecDepth 10000 in
theorem zu_67 : z_upto z_mok 67 := ⟨zu_66, zk_X7_touched, zd_X7_touched⟩
set_option maxRecDepth 10000 in
theorem zu_68 : z_upto z_mok 68 := ⟨zu_67, zk_X7_up, zd_X7_up⟩
set_option maxRecDepth 10000 in
theorem zu_69 : z_upto z_mok 69 := ⟨zu_68, zk_X7_wall, zd_X7_wall⟩
set_option maxRecDepth 10000 in
theorem zu_70 : z_upto z_mok 70 := ⟨zu_69, zk_X7_windOf, zd_X7_windOf⟩
set_option maxRecDepth 10000 in
theorem zu_71 : z_upto z_mok 71 := ⟨zu_70, zk_X7_won, zd_X7_won⟩
set_option maxRecDepth 10000 in
theorem zu_72 : z_upto z_mok 72 := ⟨zu_71, zk_X7_writes, zd_X7_writes⟩
set_option maxRecDepth 10000 in
theorem zu_73 : z_upto z_mok 73 := ⟨zu_72, zk_J13_bitCount_95d88, zd_J13_bitCount_95d88⟩
set_option maxRecDepth 10000 in
theorem zu_74 : z_upto z_mok 74 := ⟨zu_73, zk_X1_endForms, zd_X1_endForms⟩
set_option maxRecDepth 10000 in
theorem zu_75 : z_upto z_mok 75 := ⟨zu_74, zk_X1_fillWay, zd_X1_fillWay⟩
set_option maxRecDepth 10000 in
theorem zu_76 : z_upto z_mok 76 := ⟨zu_75, zk_X1_fuOf, zd_X1_fuOf⟩
set_option maxRecDepth 10000 in
theorem zu_77 : z_upto z_mok 77 := ⟨zu_76, zk_X1_likeRuns, zd_X1_likeRuns⟩
set_option maxRecDepth 10000 in
theorem zu_78 : z_upto z_mok 78 := ⟨zu_77, zk_X1_offer, zd_X1_offer⟩
set_option maxRecDepth 10000 in
theorem zu_79 : z_upto z_mok 79 := ⟨zu_78, zk_X1_setForms, zd_X1_setForms⟩
set_option maxRecDepth 10000 in
theorem zu_80 : z_upto z_mok 80 := ⟨zu_79, zk_X2_startHand, zd_X2_startHand⟩
set_option maxRecDepth 10000 in
theorem zu_81 : z_upto z_mok 81 := ⟨zu_80, zk_X3_all, zd_X3_all⟩
set_option maxRecDepth 10000 in
theorem zu_82 : z_upto z_mok 82 := ⟨zu_81, zk_X3_free, zd_X3_free⟩
set_option maxRecDepth 10000 in
theorem zu_83 : z_upto z_mok 83 := ⟨zu_82, zk_X3_isThirteen, zd_X3_isThirteen⟩
set_option maxRecDepth 10000 in
theorem zu_84 : z_upto z_mok 84 := ⟨zu_83, zk_X3_layDown, zd_X3_layDown⟩
set_option maxRecDepth 10000 in
theorem zu_85 : z_upto z_mok 85 := ⟨zu_84, zk_X3_put, zd_X3_put⟩
set_option maxRecDepth 10000 in
theorem zu_86 : z_upto z_mok 86 := ⟨zu_85, zk_X3_splitsBeside, zd_X3_splitsBeside⟩
set_option maxRecDepth 10000 in
theorem zu_87 : z_upto z_mok 87 := ⟨zu_86, zk_X4_draw, zd_X4_draw⟩
set_option maxRecDepth 10000 in
theorem zu_88 : z_upto z_mok 88 := ⟨zu_87, zk_X4_drawBehindFour, zd_X4_drawBehindFour⟩
set_option maxRecDepth 10000 in
theorem zu_89 : z_upto z_mok 89 := ⟨zu_88, zk_X6_breakHand, zd_X6_breakHand⟩
set_option maxRecDepth 10000 in
theorem zu_90 : z_upto z_mok 90 := ⟨zu_89, zk_X6_clear, zd_X6_clear⟩
set_option maxRecDepth 10000 in
theorem zu_91 : z_upto z_mok 91 := ⟨zu_90, zk_X6_count, zd_X6_count⟩
set_option maxRecDepth 10000 in
theorem zu_92 : z_upto z_mok 92 := ⟨zu_91, zk_X6_firstDraw, zd_X6_firstDraw⟩
set_option maxRecDepth 10000 in
theorem zu_93 : z_upto z_mok 93 := ⟨zu_92, zk_X6_forms, zd_X6_forms⟩
set_option maxRecDepth 10000 in
theorem zu_94 : z_upto z_mok 94 := ⟨zu_93, zk_X6_keepsOther, zd_X6_keepsOther⟩
set_option maxRecDepth 10000 in
theorem zu_95 : z_upto z_mok 95 := ⟨zu_94, zk_X6_laid, zd_X6_laid⟩
set_option maxRecDepth 10000 in
theorem zu_96 : z_upto z_mok 96 := ⟨zu_95, zk_X6_mayMakeFour, zd_X6_mayMakeFour⟩
set_option maxRecDepth 10000 in
theorem zu_97 : z_upto z_mok 97 := ⟨zu_96, zk_X6_otherEnd, zd_X6_otherEnd⟩
set_option maxRecDepth 10000 in
theorem zu_98 : z_upto z_mok 98 := ⟨zu_97, zk_X6_richest, zd_X6_richest⟩
set_option maxRecDepth 10000 in
theorem zu_99 : z_upto z_mok 99 := ⟨zu_98, zk_X6_seat, zd_X6_seat⟩
set_option maxRecDepth 10000 in
theorem zu_100 : z_upto z_mok 100 := ⟨zu_99, zk_X6_someoneIsBroke, zd_X6_someoneIsBroke⟩
set_option maxRecDepth 10000 in
theorem zu_101 : z_upto z_mok 101 := ⟨zu_100, zk_X6_someoneSays, zd_X6_someoneSays⟩
set_option maxRecDepth 10000 in
theorem zu_102 : z_upto z_mok 102 := ⟨zu_101, zk_X6_toldForms, zd_X6_toldForms⟩
set_option maxRecDepth 10000 in
theorem zu_103 : z_upto z_mok 103 := ⟨zu_102, zk_X6_won, zd_X6_won⟩
set_option maxRecDepth 10000 in
theorem zu_104 : z_upto z_mok 104 := ⟨zu_103, zk_X7_canDiscard, zd_X7_canDiscard⟩
set_option maxRecDepth 10000 in
theorem zu_105 : z_upto z_mok 105 := ⟨zu_104, zk_X7_claims, zd_X7_claims⟩
set_option maxRecDepth 10000 in
theorem zu_106 : z_upto z_mok 106 := ⟨zu_105, zk_X7_compare, zd_X7_compare⟩
set_option maxRecDepth 10000 in
theorem zu_107 : z_upto z_mok 107 := ⟨zu_106, zk_X7_count, zd_X7_count⟩
set_option maxRecDepth 10000 in
theorem zu_108 : z_upto z_mok 108 := ⟨zu_107, zk_X7_draws, zd_X7_draws⟩
set_option maxRecDepth 10000 in
theorem zu_109 : z_upto z_mok 109 := ⟨zu_108, zk_X7_hand, zd_X7_hand⟩
set_option maxRecDepth 10000 in
theorem zu_110 : z_upto z_mok 110 := ⟨zu_109, zk_X7_isEnd, zd_X7_isEnd⟩
set_option maxRecDepth 10000 in
theorem zu_111 : z_upto z_mok 111 := ⟨zu_110, zk_X7_laid, zd_X7_laid⟩
set_option maxRecDepth 10000 in
theorem zu_112 : z_upto z_mok 112 := ⟨zu_111, zk_X7_mayClaim, zd_X7_mayClaim⟩
set_option maxRecDepth 10000 in
theorem zu_113 : z_upto z_mok 113 := ⟨zu_112, zk_X7_mayMake, zd_X7_mayMake⟩
set_option maxRecDepth 10000 in
theorem zu_114 : z_upto z_mok 114 := ⟨zu_113, zk_X7_of, zd_X7_of⟩
set_option maxRecDepth 10000 in
theorem zu_115 : z_upto z_mok 115 := ⟨zu_114, zk_X7_river, zd_X7_river⟩
set_option maxRecDepth 10000 in
theorem zu_116 : z_upto z_mok 116 := ⟨zu_115, zk_X7_seat, zd_X7_seat⟩
set_option maxRecDepth 10000 in
theorem zu_117 : z_upto z_mok 117 := ⟨zu_116, zk_X7_take, zd_X7_take⟩
set_option maxRecDepth 10000 in
theorem zu_118 : z_upto z_mok 118 := ⟨zu_117, zk_X7_twins, zd_X7_twins⟩
set_option maxRecDepth 10000 in
theorem zu_119 : z_upto z_mok 119 := ⟨zu_118, zk_X1_isNineGates, zd_X1_isNineGates⟩
set_option maxRecDepth 10000 in
theorem zu_120 : z_upto z_mok 120 := ⟨zu_119, zk_X1_weighCompleted, zd_X1_weighCompleted⟩
set_option maxRecDepth 10000 in
theorem zu_121 : z_upto z_mok 121 := ⟨zu_120, zk_X3_addToThree, zd_X3_addToThree⟩
set_option maxRecDepth 10000 in
theorem zu_122 : z_upto z_mok 122 := ⟨zu_121, zk_X3_isSetsAndPair, zd_X3_isSetsAndPair⟩
set_option maxRecDepth 10000 in
theorem zu_123 : z_upto z_mok 123 := ⟨zu_122, zk_X3_take, zd_X3_take⟩
set_option maxRecDepth 10000 in
theorem zu_124 : z_upto z_mok 124 := ⟨zu_123, zk_X4_dearTiles, zd_X4_dearTiles⟩
set_option maxRecDepth 10000 in
theorem zu_125 : z_upto z_mok 125 := ⟨zu_124, zk_X6_drawTile, zd_X6_drawTile⟩
set_option maxRecDepth 10000 in
theorem zu_126 : z_upto z_mok 126 := ⟨zu_125, zk_X6_endHand, zd_X6_endHand⟩
set_option maxRecDepth 10000 in
theorem zu_127 : z_upto z_mok 127 := ⟨zu_126, zk_X6_hand, zd_X6_hand⟩
set_option maxRecDepth 10000 in
theorem zu_128 : z_upto z_mok 128 := ⟨zu_127, zk_X6_lay, zd_X6_lay⟩
set_option maxRecDepth 10000 in
theorem zu_129 : z_upto z_mok 129 := ⟨zu_128, zk_X6_mayClaimSet, zd_X6_mayClaimSet⟩
set_option maxRecDepth 10000 in
theorem zu_130 : z_upto z_mok 130 := ⟨zu_129, zk_X6_mayThrow, zd_X6_mayThrow⟩
set_option maxRecDepth 10000 in
theorem zu_131 : z_upto z_mok 131 := ⟨zu_130, zk_X6_set, zd_X6_set⟩
set_option maxRecDepth 10000 in
theorem zu_132 : z_upto z_mok 132 := ⟨zu_131, zk_X7_add, zd_X7_add⟩
set_option maxRecDepth 10000 in
theorem zu_133 : z_upto z_mok 133 := ⟨zu_132, zk_X7_deal, zd_X7_deal⟩
set_option maxRecDepth 10000 in
theorem zu_134 : z_upto z_mok 134 := ⟨zu_133, zk_X7_dearTiles, zd_X7_dearTiles⟩
set_option maxRecDepth 10000 in
theorem zu_135 : z_upto z_mok 135 := ⟨zu_134, zk_X7_edges, zd_X7_edges⟩
set_option maxRecDepth 10000 in
theorem zu_136 : z_upto z_mok 136 := ⟨zu_135, zk_X7_hide, zd_X7_hide⟩
set_option maxRecDepth 10000 in
theorem zu_137 : z_upto z_mok 137 := ⟨zu_136, zk_X7_lay, zd_X7_lay⟩
set_option maxRecDepth 10000 in
theorem zu_138 : z_upto z_mok 138 := ⟨zu_137, zk_X7_nine, zd_X7_nine⟩
set_option maxRecDepth 10000 in
theorem zu_139 : z_upto z_mok 139 := ⟨zu_138, zk_X7_set, zd_X7_set⟩
set_option maxRecDepth 10000 in
theorem zu_140 : z_upto z_mok 140 := ⟨zu_139, zk_X7_thirteen, zd_X7_thirteen⟩
set_option maxRecDepth 10000 in
theorem zu_141 : z_upto z_mok 141 := ⟨zu_140, zk_X7_tiles, zd_X7_tiles⟩
set_option maxRecDepth 10000 in
theorem zu_142 : z_upto z_mok 142 := ⟨zu_141, zk_X1_tileForms, zd_X1_tileForms⟩
set_option maxRecDepth 10000 in
theorem zu_143 : z_upto z_mok 143 := ⟨zu_142, zk_X1_weighWay, zd_X1_weighWay⟩
set_option maxRecDepth 10000 in
theorem zu_144 : z_upto z_mok 144 := ⟨zu_143, zk_X3_waitsFor, zd_X3_waitsFor⟩
set_option maxRecDepth 10000 in
theorem zu_145 : z_upto z_mok 145 := ⟨zu_144, zk_X6_add, zd_X6_add⟩
set_option maxRecDepth 10000 in
theorem zu_146 : z_upto z_mok 146 := ⟨zu_145, zk_X6_deal, zd_X6_deal⟩
set_option maxRecDepth 10000 in
theorem zu_147 : z_upto z_mok 147 := ⟨zu_146, zk_X6_makeFour, zd_X6_makeFour⟩
set_option maxRecDepth 10000 in
theorem zu_148 : z_upto z_mok 148 := ⟨zu_147, zk_X6_nine, zd_X6_nine⟩
set_option maxRecDepth 10000 in
theorem zu_149 : z_upto z_mok 149 := ⟨zu_148, zk_X7_firstSort, zd_X7_firstSort⟩
set_option maxRecDepth 10000 in
theorem zu_150 : z_upto z_mok 150 := ⟨zu_149, zk_X7_pairsWay, zd_X7_pairsWay⟩
set_option maxRecDepth 10000 in
theorem zu_151 : z_upto z_mok 151 := ⟨zu_150, zk_X1_judge, zd_X1_judge⟩
set_option maxRecDepth 10000 in
theorem zu_152 : z_upto z_mok 152 := ⟨zu_151, zk_X3_waiting, zd_X3_waiting⟩
set_option maxRecDepth 10000 in
theorem zu_153 : z_upto z_mok 153 := ⟨zu_152, zk_X6_hide, zd_X6_hide⟩
set_option maxRecDepth 10000 in
theorem zu_154 : z_upto z_mok 154 := ⟨zu_153, zk_X6_letTileGo, zd_X6_letTileGo⟩
set_option maxRecDepth 10000 in
theorem zu_155 : z_upto z_mok 155 := ⟨zu_154, zk_X7_way, zd_X7_way⟩
set_option maxRecDepth 10000 in
theorem zu_156 : z_upto z_mok 156 := ⟨zu_155, zk_X6_deskWaits, zd_X6_deskWaits⟩
set_option maxRecDepth 10000 in
theorem zu_157 : z_upto z_mok 157 := ⟨zu_156, zk_X6_endUnwon, zd_X6_endUnwon⟩
set_option maxRecDepth 10000 in
theorem zu_158 : z_upto z_mok 158 := ⟨zu_157, zk_X6_mayBet, zd_X6_mayBet⟩
set_option maxRecDepth 10000 in
theorem zu_159 : z_upto z_mok 159 := ⟨zu_158, zk_X6_takeSet, zd_X6_takeSet⟩
set_option maxRecDepth 10000 in
theorem zu_160 : z_upto z_mok 160 := ⟨zu_159, zk_X6_waits, zd_X6_waits⟩
set_option maxRecDepth 10000 in
theorem zu_161 : z_upto z_mok 161 := ⟨zu_160, zk_X6_weighHand, zd_X6_weighHand⟩
set_option maxRecDepth 10000 in
theorem zu_162 : z_upto z_mok 162 := ⟨zu_161, zk_X6_worth, zd_X6_worth⟩
set_option maxRecDepth 10000 in
theorem zu_163 : z_upto z_mok 163 := ⟨zu_162, zk_X7_sets, zd_X7_sets⟩
set_option maxRecDepth 10000 in
theorem zu_164 : z_upto z_mok 164 := ⟨zu_163, zk_X6_claim, zd_X6_claim⟩
set_option maxRecDepth 10000 in
theorem zu_165 : z_upto z_mok 165 := ⟨zu_164, zk_X6_discard, zd_X6_discard⟩
set_option maxRecDepth 10000 in
theorem zu_166 : z_upto z_mok 166 := ⟨zu_165, zk_X6_four, zd_X6_four⟩
set_option maxRecDepth 10000 in
theorem zu_167 : z_upto z_mok 167 := ⟨zu_166, zk_X6_run, zd_X6_run⟩
set_option maxRecDepth 10000 in
theorem zu_168 : z_upto z_mok 168 := ⟨zu_167, zk_X6_three, zd_X6_three⟩
set_option maxRecDepth 10000 in
theorem zu_169 : z_upto z_mok 169 := ⟨zu_168, zk_X6_win, zd_X6_win⟩
set_option maxRecDepth 10000 in
theorem zu_170 : z_upto z_mok 170 := ⟨zu_169, zk_X6_winByTile, zd_X6_winByTile⟩
set_option maxRecDepth 10000 in
theorem zu_171 : z_upto z_mok 171 := ⟨zu_170, zk_X7_apart, zd_X7_apart⟩
set_option maxRecDepth 10000 in
theorem zu_172 : z_upto z_mok 172 := ⟨zu_171, zk_X6_pass, zd_X6_pass⟩
set_option maxRecDepth 10000 in
theorem zu_173 : z_upto z_mok 173 := ⟨zu_172, zk_X7_reckon, zd_X7_reckon⟩
set_option maxRecDepth 10000 in
theorem zu_174 : z_upto z_mok 174 := ⟨zu_173, zk_X7_waitsOf, zd_X7_waitsOf⟩
set_option maxRecDepth 10000 in
theorem zu_175 : z_upto z_mok 175 := ⟨zu_174, zk_X7_deskWaits, zd_X7_deskWaits⟩
set_option maxRecDepth 10000 in
theorem zu_176 : z_upto z_mok 176 := ⟨zu_175, zk_X7_value, zd_X7_value⟩
set_option maxRecDepth 10000 in
theorem zu_177 : z_upto z_mok 177 := ⟨zu_176, zk_X7_waitsAt, zd_X7_waitsAt⟩
set_option maxRecDepth 10000 in
theorem zu_178 : z_upto z_mok 178 := ⟨zu_177, zk_X7_worth, zd_X7_worth⟩
set_option maxRecDepth 10000 in
theorem zu_179 : z_upto z_mok 179 := ⟨zu_178, zk_X7_allWin, zd_X7_allWin⟩
set_option maxRecDepth 10000 in
theorem zu_180 : z_upto z_mok 180 := ⟨zu_179, zk_X7_claim, zd_X7_claim⟩
set_option maxRecDepth 10000 in
theorem zu_181 : z_upto z_mok 181 := ⟨zu_180, zk_X7_discard, zd_X7_discard⟩
set_option maxRecDepth 10000 in
theorem zu_182 : z_upto z_mok 182 := ⟨zu_181, zk_X7_nobodyWins, zd_X7_nobodyWins⟩
set_option maxRecDepth 10000 in
theorem zu_183 : z_upto z_mok 183 := ⟨zu_182, zk_X7_over, zd_X7_over⟩
set_option maxRecDepth 10000 in
theorem zu_184 : z_upto z_mok 184 := ⟨zu_183, zk_X7_waits, zd_X7_waits⟩
set_option maxRecDepth 10000 in
theorem zu_185 : z_upto z_mok 185 := ⟨zu_184, zk_X7_win, zd_X7_win⟩
set_option maxRecDepth 10000 in
theorem zu_186 : z_upto z_mok 186 := ⟨zu_185, zk_X7_four, zd_X7_four⟩
set_option maxRecDepth 10000 in
theorem zu_187 : z_upto z_mok 187 := ⟨zu_186, zk_X7_pass, zd_X7_pass⟩
set_option maxRecDepth 10000 in
theorem zu_188 : z_upto z_mok 188 := ⟨zu_187, zk_X7_run, zd_X7_run⟩
set_option maxRecDepth 10000 in
theorem zu_189 : z_upto z_mok 189 := ⟨zu_188, zk_X7_three, zd_X7_three⟩
theorem z_mok_all : ∀ j, j < 189 → z_mok j := z_upto_lt zu_189
theorem z_dall {j : Nat} (h : j < 190) : (z_cd j).all (z_dok (z_cc j)) = true := by
  rcases Nat.lt_or_ge j 189 with q | q
  · exact (z_mok_all j q).2
  · have : j = 189 := by omega
    subst this
    exact zd_L_law
theorem z_nam_all : (List.range 190).all (fun j => plainName (z_y j).cls && decide ((z_y j).cls = z_own (z_oc j))) = true := by decide +kernel
theorem z_nam {j : Nat} (h : j < 190) : plainName (z_y j).cls = true ∧ (z_y j).cls = z_own (z_oc j) := by
  have := z_nam_all
  rw [List.all_eq_true] at this
  have := this j (List.mem_range.mpr h)
  rw [Bool.and_eq_true, decide_eq_true_iff] at this
  exact this
noncomputable def z_tk : List (Nat × List (Nat × Instr)) → Nat → Option Instr
  | [], _ => none
  | q :: r, i => bif Nat.ble q.1 i then z_tk r i else z_lk q.2 i
theorem z_lk_app1 {α : Type} {a b : List (Nat × α)} {i : Nat} {v : α} (h : z_lk a i = some v) : z_lk (a ++ b) i = some v := by
  induction a with
  | nil => cases h
  | cons q r ih =>
    show (bif Nat.beq q.1 i then some q.2 else z_lk (r ++ b) i) = some v
    have h : (bif Nat.beq q.1 i then some q.2 else z_lk r i) = some v := h
    cases hq : Nat.beq q.1 i with
    | true => rw [hq] at h; exact h
    | false => rw [hq] at h; exact ih h
theorem z_lk_app2 {α : Type} {a b : List (Nat × α)} {e i : Nat} (h : a.all (fun q => Nat.blt q.1 e) = true) (hi : e ≤ i) : z_lk (a ++ b) i = z_lk b i := by
  induction a with
  | nil => rfl
  | cons q r ih =>
    rw [List.all_cons, Bool.and_eq_true] at h
    show (bif Nat.beq q.1 i then some q.2 else z_lk (r ++ b) i) = z_lk b i
    have hlt : q.1 < e := Nat.le_of_ble_eq_true h.1
    have hq : Nat.beq q.1 i = false := by
      cases hb : Nat.beq q.1 i with
      | true => have := Nat.eq_of_beq_eq_true hb; omega
      | false => rfl
    rw [hq]
    exact ih h.2
theorem z_tk_ok {T : List (Nat × List (Nat × Instr))} (h : T.all (fun q => q.2.all (fun e => Nat.blt e.1 q.1)) = true) {pc : Nat} {i : Instr} (e : z_tk T pc = some i) : z_lk (z_fl T) pc = some i := by
  induction T with
  | nil => cases e
  | cons q r ih =>
    rw [List.all_cons, Bool.and_eq_true] at h
    show z_lk (q.2 ++ z_fl r) pc = some i
    unfold z_tk at e
    cases hb : Nat.ble q.1 pc with
    | true =>
      rw [hb, cond_true] at e
      rw [z_lk_app2 (e := q.1) h.1 (Nat.le_of_ble_eq_true hb)]
      exact ih h.2 e
    | false =>
      rw [hb, cond_false] at e
      exact z_lk_app1 e
noncomputable def z_ct (j : Nat) : List (Nat × List (Nat × Instr)) := z_cts.getD j []
set_option maxRecDepth 100000 in
theorem z_cts_eq : z_codes = z_cts.map z_fl := rfl
theorem z_cd_eq (j : Nat) : z_cd j = z_fl (z_ct j) := by
  unfold z_cd z_ct
  rw [z_cts_eq, List.getD_eq_getElem?_getD, List.getD_eq_getElem?_getD, List.getElem?_map]
  cases z_cts[j]? with
  | none => rfl
  | some q => rfl
set_option maxRecDepth 100000 in
theorem z_ct_srt : (List.range 190).all (fun j => (z_ct j).all (fun q => q.2.all (fun e => Nat.blt e.1 q.1))) = true := by decide +kernel
noncomputable def z_ft (j pc : Nat) : Option Instr := z_tk (z_ct j) pc
theorem z_ft_lk {j pc : Nat} {ins : Instr} (h : z_ft j pc = some ins) : z_lk (z_cd j) pc = some ins := by
  rw [z_cd_eq]
  rcases Nat.lt_or_ge j 190 with q | q
  · exact z_tk_ok (List.all_eq_true.mp z_ct_srt j (List.mem_range.mpr q)) h
  · unfold z_ft z_ct at h
    rw [z_getD_ge (by show 190 ≤ j; exact q)] at h
    have h : (none : Option Instr) = some ins := h
    cases h
theorem z_dec {j pc : Nat} {ins : Instr} (h : z_ft j pc = some ins) : ∃ len, decode (z_cc j) pc = .ok (ins, len) ∧ (z_len ins = len ∨ z_len ins = 0) := by
  have h := z_ft_lk h
  have hj : j < 190 := by
    rcases Nat.lt_or_ge j 190 with q | q
    · exact q
    · unfold z_cd at h
      rw [z_getD_ge (by show 190 ≤ j; exact q)] at h
      cases h
  have h1 := z_dall hj
  rw [List.all_eq_true] at h1
  have h1 := h1 _ (z_lk_mem h)
  unfold z_dok at h1
  split at h1
  · rename_i i2 len he
    rw [Bool.and_eq_true, decide_eq_true_iff, Bool.or_eq_true] at h1
    have e : i2 = ins := h1.1
    subst e
    exact ⟨len, he, h1.2.imp z_beq z_beq⟩
  · cases h1
noncomputable def z_np (j : Nat) : Nat := bif Nat.beq j mi_X7_nobodyWins then 80 else 79


/-! the tables of the small machine are the program's: links, codes, words -/
def TT : List Cond := lw_tbl.filter goodWord
def z_hs (i : Nat) (w : Cond) : Bool := decide (lw_tbl[i]? = some w) && goodWord w
theorem z_tt {i : Nat} {w : Cond} (h : z_hs i w = true) : w ∈ TT := by
  unfold z_hs at h
  rw [Bool.and_eq_true, decide_eq_true_iff] at h
  exact List.mem_filter.mpr ⟨List.mem_of_getElem? h.1, h.2⟩
theorem TT_good : ∀ w ∈ TT, goodWord w = true := fun w h => (List.mem_filter.mp h).2
def z_owns : List String := [RX0, RX1, RX2, RX3, RX4, RX5, RX6, RX7, RJ13, RL]
def z_own (oc : Nat) : String := z_owns.getD oc ""
def z_ys : List MethodName := [yX0_baseOf, yX0_hanOf, yX1_bit, yX1_chosenThrees, yX1_findThrees, yX1_isBetter, yX1_isHidden, yX1_mayHaveCompleted, yX1_pairFu, yX1_toldOnes, yX1_waitFu, yX2_throwTile, yX2_thrown, yX3_empty, yX3_isOpen, yX3_isSevenPairs, yX3_kinds, yX3_size, yX4_behind, yX4_build, yX4_kindAt, yX4_left, yX4_signs, yX5_part, yX6_at, yX6_desk, yX6_deskForms, yX6_holds, yX6_hundreds, yX6_isKind, yX6_isSeat, yX6_isWin, yX6_recordWin, yX6_startsRun, yX6_tilesOfEach, yX6_windOf, yX7_anySays, yX7_behind, yX7_bit, yX7_clear, yX7_desk, yX7_deskForms, yX7_ends, yX7_forms, yX7_gives, yX7_han, yX7_has, yX7_hasRun, yX7_hasThree, yX7_has_, yX7_inHand, yX7_isDragon, yX7_isHidden, yX7_isHonour, yX7_isKind, yX7_isOpen, yX7_isOpen_, yX7_isRun, yX7_isSeat, yX7_isTerminal, yX7_lays, yX7_left, yX7_nothing, yX7_pays, yX7_takeDesk, yX7_takesBets, yX7_touched, yX7_up, yX7_wall, yX7_windOf, yX7_won, yX7_writes, yJ13_bitCount_95d88, yX1_endForms, yX1_fillWay, yX1_fuOf, yX1_likeRuns, yX1_offer, yX1_setForms, yX2_startHand, yX3_all, yX3_free, yX3_isThirteen, yX3_layDown, yX3_put, yX3_splitsBeside, yX4_draw, yX4_drawBehindFour, yX6_breakHand, yX6_clear, yX6_count, yX6_firstDraw, yX6_forms, yX6_keepsOther, yX6_laid, yX6_mayMakeFour, yX6_otherEnd, yX6_richest, yX6_seat, yX6_someoneIsBroke, yX6_someoneSays, yX6_toldForms, yX6_won, yX7_canDiscard, yX7_claims, yX7_compare, yX7_count, yX7_draws, yX7_hand, yX7_isEnd, yX7_laid, yX7_mayClaim, yX7_mayMake, yX7_of, yX7_river, yX7_seat, yX7_take, yX7_twins, yX1_isNineGates, yX1_weighCompleted, yX3_addToThree, yX3_isSetsAndPair, yX3_take, yX4_dearTiles, yX6_drawTile, yX6_endHand, yX6_hand, yX6_lay, yX6_mayClaimSet, yX6_mayThrow, yX6_set, yX7_add, yX7_deal, yX7_dearTiles, yX7_edges, yX7_hide, yX7_lay, yX7_nine, yX7_set, yX7_thirteen, yX7_tiles, yX1_tileForms, yX1_weighWay, yX3_waitsFor, yX6_add, yX6_deal, yX6_makeFour, yX6_nine, yX7_firstSort, yX7_pairsWay, yX1_judge, yX3_waiting, yX6_hide, yX6_letTileGo, yX7_way, yX6_deskWaits, yX6_endUnwon, yX6_mayBet, yX6_takeSet, yX6_waits, yX6_weighHand, yX6_worth, yX7_sets, yX6_claim, yX6_discard, yX6_four, yX6_run, yX6_three, yX6_win, yX6_winByTile, yX7_apart, yX6_pass, yX7_reckon, yX7_waitsOf, yX7_deskWaits, yX7_value, yX7_waitsAt, yX7_worth, yX7_allWin, yX7_claim, yX7_discard, yX7_nobodyWins, yX7_over, yX7_waits, yX7_win, yX7_four, yX7_pass, yX7_run, yX7_three, yL_law]
def z_y (j : Nat) : MethodName := z_ys.getD j objectInit
def z_ccs : List ByteArray := [cX0_baseOf, cX0_hanOf, cX1_bit, cX1_chosenThrees, cX1_findThrees, cX1_isBetter, cX1_isHidden, cX1_mayHaveCompleted, cX1_pairFu, cX1_toldOnes, cX1_waitFu, cX2_throwTile, cX2_thrown, cX3_empty, cX3_isOpen, cX3_isSevenPairs, cX3_kinds, cX3_size, cX4_behind, cX4_build, cX4_kindAt, cX4_left, cX4_signs, cX5_part, cX6_at, cX6_desk, cX6_deskForms, cX6_holds, cX6_hundreds, cX6_isKind, cX6_isSeat, cX6_isWin, cX6_recordWin, cX6_startsRun, cX6_tilesOfEach, cX6_windOf, cX7_anySays, cX7_behind, cX7_bit, cX7_clear, cX7_desk, cX7_deskForms, cX7_ends, cX7_forms, cX7_gives, cX7_han, cX7_has, cX7_hasRun, cX7_hasThree, cX7_has_, cX7_inHand, cX7_isDragon, cX7_isHidden, cX7_isHonour, cX7_isKind, cX7_isOpen, cX7_isOpen_, cX7_isRun, cX7_isSeat, cX7_isTerminal, cX7_lays, cX7_left, cX7_nothing, cX7_pays, cX7_takeDesk, cX7_takesBets, cX7_touched, cX7_up, cX7_wall, cX7_windOf, cX7_won, cX7_writes, cJ13_bitCount_95d88, cX1_endForms, cX1_fillWay, cX1_fuOf, cX1_likeRuns, cX1_offer, cX1_setForms, cX2_startHand, cX3_all, cX3_free, cX3_isThirteen, cX3_layDown, cX3_put, cX3_splitsBeside, cX4_draw, cX4_drawBehindFour, cX6_breakHand, cX6_clear, cX6_count, cX6_firstDraw, cX6_forms, cX6_keepsOther, cX6_laid, cX6_mayMakeFour, cX6_otherEnd, cX6_richest, cX6_seat, cX6_someoneIsBroke, cX6_someoneSays, cX6_toldForms, cX6_won, cX7_canDiscard, cX7_claims, cX7_compare, cX7_count, cX7_draws, cX7_hand, cX7_isEnd, cX7_laid, cX7_mayClaim, cX7_mayMake, cX7_of, cX7_river, cX7_seat, cX7_take, cX7_twins, cX1_isNineGates, cX1_weighCompleted, cX3_addToThree, cX3_isSetsAndPair, cX3_take, cX4_dearTiles, cX6_drawTile, cX6_endHand, cX6_hand, cX6_lay, cX6_mayClaimSet, cX6_mayThrow, cX6_set, cX7_add, cX7_deal, cX7_dearTiles, cX7_edges, cX7_hide, cX7_lay, cX7_nine, cX7_set, cX7_thirteen, cX7_tiles, cX1_tileForms, cX1_weighWay, cX3_waitsFor, cX6_add, cX6_deal, cX6_makeFour, cX6_nine, cX7_firstSort, cX7_pairsWay, cX1_judge, cX3_waiting, cX6_hide, cX6_letTileGo, cX7_way, cX6_deskWaits, cX6_endUnwon, cX6_mayBet, cX6_takeSet, cX6_waits, cX6_weighHand, cX6_worth, cX7_sets, cX6_claim, cX6_discard, cX6_four, cX6_run, cX6_three, cX6_win, cX6_winByTile, cX7_apart, cX6_pass, cX7_reckon, cX7_waitsOf, cX7_deskWaits, cX7_value, cX7_waitsAt, cX7_worth, cX7_allWin, cX7_claim, cX7_discard, cX7_nobodyWins, cX7_over, cX7_waits, cX7_win, cX7_four, cX7_pass, cX7_run, cX7_three, cL_law]
def z_cc (j : Nat) : ByteArray := z_ccs.getD j ⟨#[]⟩
def z_mt (j : Nat) : Nat × Nat × Nat × Nat := z_mets.getD j (0, 0, 9, 0)
def z_oc (j : Nat) : Nat := (z_mt j).1
def z_ml (j : Nat) : Nat := (z_mt j).2.1
def z_rk (j : Nat) : Nat := (z_mt j).2.2.1
def z_al (j : Nat) : Nat := (z_mt j).2.2.2
def z_rt (j : Nat) : Option FieldType := match z_rk j with | 0 => none | 1 => some .int | 2 => some .long | 3 => some .boolean | _ => some (.object "TileHouse$Seat")
def z_ws (j : Nat) : List Cond := .code (z_y j) (z_cc j) (z_ml j) (z_rt j) :: TT
def z_lh0 : List Nat := [164, 166, 168, 170, 172, 174, 176, 178, 180, 182, 184, 186, 188, 190, 192, 194, 196, 198, 200]
set_option maxRecDepth 100000 in
theorem z_lay0 : (List.range 19).all (fun k => z_hs (z_lh0.getD k 0) (u_lay RX1 TX1 k) && decide ((TX1 k).1 = RX1)) = true := by decide +kernel
def z_lh1 : List Nat := [264, 266, 268, 270, 272, 274, 276, 278, 280, 282]
set_option maxRecDepth 100000 in
theorem z_lay1 : (List.range 10).all (fun k => z_hs (z_lh1.getD k 0) (u_lay RX2 TX2 k) && decide ((TX2 k).1 = RX2)) = true := by decide +kernel
def z_lh2 : List Nat := [225, 227, 229, 231, 233, 235]
set_option maxRecDepth 100000 in
theorem z_lay2 : (List.range 6).all (fun k => z_hs (z_lh2.getD k 0) (u_lay RX3 TX3 k) && decide ((TX3 k).1 = RX3)) = true := by decide +kernel
def z_lh3 : List Nat := [124, 126, 128, 130]
set_option maxRecDepth 100000 in
theorem z_lay3 : (List.range 4).all (fun k => z_hs (z_lh3.getD k 0) (u_lay RX4 TX4 k) && decide ((TX4 k).1 = RX4)) = true := by decide +kernel
def z_lh4 : List Nat := [305, 307, 309, 311, 313, 315, 317, 319]
set_option maxRecDepth 100000 in
theorem z_lay4 : (List.range 8).all (fun k => z_hs (z_lh4.getD k 0) (u_lay RX5 TX5 k) && decide ((TX5 k).1 = RX5)) = true := by decide +kernel
def z_lh5 : List Nat := [341, 343, 345, 347, 349, 351, 353, 355, 357, 359, 361, 363, 365, 367, 369, 371, 373, 375, 377]
set_option maxRecDepth 100000 in
theorem z_lay5 : (List.range 19).all (fun k => z_hs (z_lh5.getD k 0) (u_lay RX6 TX6 k) && decide ((TX6 k).1 = RX6)) = true := by decide +kernel
def z_lh6 : List Nat := [1011, 1013, 1015, 1017, 1019, 1021, 1023, 1025, 1027, 1029, 1031, 1033, 1035, 1037, 1039, 1041, 1043, 1045, 1047, 1049, 1051, 1053, 1055, 1057, 1059, 1061, 1063, 1065, 1067, 1069, 1071, 1073, 1075, 1077, 1079, 1081, 1083, 1085, 1087, 1089, 1091, 1093, 1095, 1097, 1099, 1101, 1103, 1105, 1107, 1109, 1111, 1113, 1115, 1117, 1119, 1121, 1123, 1125, 1127, 1129, 1131, 1133, 1135, 1137, 1139, 1141, 1143, 1145]
set_option maxRecDepth 100000 in
theorem z_lay6 : (List.range 68).all (fun k => z_hs (z_lh6.getD k 0) (u_lay RX7 TX7 k) && decide ((TX7 k).1 = RX7)) = true := by decide +kernel
theorem z_lay_in {C : String} {T : u_T} {N : Nat} {h : Nat → Nat} (hh : (List.range N).all (fun k => z_hs (h k) (u_lay C T k) && decide ((T k).1 = C)) = true) : (∀ w ∈ u_ws C T N, w ∈ TT) ∧ ∀ k, k < N → (T k).1 = C := by
  rw [List.all_eq_true] at hh
  refine ⟨fun w hw => ?_, fun k hk => ?_⟩
  · obtain ⟨k, hk, rfl⟩ := List.mem_map.mp hw
    have := hh k hk
    rw [Bool.and_eq_true] at this
    exact z_tt this.1
  · have := hh k (List.mem_range.mpr hk)
    rw [Bool.and_eq_true, decide_eq_true_iff] at this
    exact this.2
def z_ty (ci : Nat) : Nat → FieldType := match ci with | 0 => tyX1 | 1 => tyX2 | 2 => tyX3 | 3 => tyX4 | 4 => tyX5 | 5 => tyX6 | _ => tyX7
def z_clok (ci : Nat) (q : vw_C) : Prop := (∀ w ∈ u_ws q.1 q.2.1 q.2.2, w ∈ TT) ∧ (∀ k, k < q.2.2 → (q.2.1 k).1 = q.1) ∧ (∀ k, k < q.2.2 → parseFieldDescriptor (q.2.1 k).2.2.1 = some (z_ty ci k)) ∧ ∀ a, a < q.2.2 → ∀ b, b < q.2.2 → a ≠ b → (q.2.1 a).2.1 ≠ (q.2.1 b).2.1
theorem z_cl_ok {ci : Nat} {q : vw_C} (h : vwCl[ci]? = some q) : z_clok ci q := by
  match ci, h with
  | 0, h => cases h; exact ⟨(z_lay_in z_lay0).1, (z_lay_in z_lay0).2, tyX1_ok, nmX1⟩
  | 1, h => cases h; exact ⟨(z_lay_in z_lay1).1, (z_lay_in z_lay1).2, tyX2_ok, nmX2⟩
  | 2, h => cases h; exact ⟨(z_lay_in z_lay2).1, (z_lay_in z_lay2).2, tyX3_ok, nmX3⟩
  | 3, h => cases h; exact ⟨(z_lay_in z_lay3).1, (z_lay_in z_lay3).2, tyX4_ok, nmX4⟩
  | 4, h => cases h; exact ⟨(z_lay_in z_lay4).1, (z_lay_in z_lay4).2, tyX5_ok, nmX5⟩
  | 5, h => cases h; exact ⟨(z_lay_in z_lay5).1, (z_lay_in z_lay5).2, tyX6_ok, nmX6⟩
  | 6, h => cases h; exact ⟨(z_lay_in z_lay6).1, (z_lay_in z_lay6).2, tyX7_ok, nmX7⟩
  | n + 7, h => cases h
def z_fhs : List (List (Nat × Nat)) := [[], [(9, 158), (15, 159), (18, 163), (21, 140), (25, 142), (28, 144), (31, 146), (35, 148), (48, 150), (52, 151), (55, 152), (63, 153), (66, 154), (69, 155), (72, 156), (86, 157), (105, 160), (108, 212), (151, 222), (154, 216), (155, 219), (164, 161), (167, 162)], [(12, 245), (18, 247), (29, 248), (32, 250), (36, 254), (39, 256), (43, 258), (46, 260), (49, 262)], [(9, 211), (15, 214), (18, 215), (21, 218), (24, 221), (28, 224)], [(11, 119), (19, 120), (23, 121), (27, 122)], [(9, 290), (15, 292), (18, 294), (21, 296), (24, 298), (27, 300), (30, 302)], [(11, 322), (18, 323), (25, 324), (31, 325), (38, 326), (42, 327), (45, 329), (49, 337), (54, 335), (62, 331), (72, 246), (83, 328), (86, 339), (97, 330), (107, 249), (110, 255), (113, 257), (116, 259), (123, 340), (153, 213), (175, 123), (191, 334), (194, 141), (200, 333), (203, 253), (216, 263), (219, 261), (230, 251), (244, 223), (247, 217), (250, 220), (275, 304), (278, 332), (284, 336), (307, 143), (310, 145), (313, 149), (316, 147), (319, 338), (360, 291), (363, 293), (366, 295), (367, 297), (368, 299), (369, 301), (372, 303)], [(9, 944), (13, 945), (16, 946), (19, 948), (22, 949), (25, 962), (28, 963), (31, 969), (34, 970), (37, 971), (40, 972), (43, 973), (46, 974), (49, 975), (52, 976), (55, 977), (58, 978), (61, 979), (64, 980), (68, 981), (71, 982), (74, 992), (78, 993), (81, 994), (84, 1003), (87, 1004), (91, 1005), (94, 1006), (97, 1007), (100, 1008), (103, 943), (113, 961), (117, 959), (120, 956), (123, 957), (126, 958), (129, 960), (137, 947), (160, 964), (163, 950), (170, 965), (176, 954), (189, 951), (192, 952), (195, 967), (198, 968), (220, 966), (231, 955), (238, 953), (250, 990), (253, 989), (265, 983), (274, 1001), (277, 987), (280, 999), (286, 984), (297, 991), (304, 988), (307, 1000), (310, 997), (317, 996), (320, 1002), (323, 998), (337, 986), (384, 985), (397, 995), (400, 1009), (411, 1010)], [], []]
/-- the kind of a field as the tables of the small machine have it -/
def z_kok (ty : FieldType) (fin : Bool) (k : Nat) : Bool := match ty, k with
  | .int, 0 => !fin
  | .long, 1 => !fin
  | .boolean, 2 => !fin
  | .object _, 3 => fin
  | .array _, 3 => fin
  | .object _, 4 => !fin
  | _, _ => false
def z_fok (oc : Nat) (q : Nat × Nat × Nat) : Bool := match vwCl[q.2.1]?, z_lk (z_fhs.getD oc []) q.1 with
  | some (C, T, N), some h => Nat.blt q.2.2 N && (z_hs h (.fieldLink (z_own oc) q.1 C (T q.2.2).2.1 (T q.2.2).2.2.1) && z_kok (z_ty q.2.1 q.2.2) (T q.2.2).2.2.2 (z_fk q.2.1 q.2.2))
  | _, _ => false
set_option maxRecDepth 100000 in
theorem z_flds_ok : (List.range 10).all (fun oc => (z_flds.getD oc []).all (z_fok oc)) = true := by decide +kernel
def z_lhs : List (List (Nat × Nat)) := [[], [(94, 582), (103, 610), (124, 559), (126, 560), (128, 561), (130, 567), (132, 568), (134, 569), (140, 573), (142, 574), (144, 575), (146, 576), (185, 637), (187, 638), (195, 639), (197, 644), (199, 645), (221, 587), (223, 588)], [], [(69, 482)], [(15, 388), (17, 389)], [], [(161, 725), (163, 726), (236, 779), (348, 519), (350, 520), (352, 521), (354, 522), (356, 523), (358, 524)], [(313, 1154), (315, 1155), (406, 1459)], [(314, 592), (316, 593), (318, 594)], [(23, 1476)]]
def z_lok (oc : Nat) (q : Nat × Int64) : Bool := match z_lk (z_lhs.getD oc []) q.1 with
  | some h => z_hs h (.constantLong (z_own oc) q.1 q.2)
  | none => false
set_option maxRecDepth 100000 in
theorem z_lons_ok : (List.range 10).all (fun oc => (z_lons.getD oc []).all (z_lok oc)) = true := by decide +kernel
def z_shh : List (List (Nat × Nat)) := [[(9, 598), (13, 600)], [], [], [], [], [], [], [], [], []]
def z_sn (r : Nat) : String := bif Nat.beq r 101 then "HAN" else "OPEN_HAN"
def z_sok (oc : Nat) (q : Nat × Nat) : Bool := match z_lk (z_shh.getD oc []) q.1 with
  | some h => z_hs h (.fieldLink (z_own oc) q.1 RX0 (z_sn q.2) "[I") && (Nat.beq q.2 101 || Nat.beq q.2 102)
  | none => false
theorem z_stas_ok : (List.range 10).all (fun oc => (z_stas.getD oc []).all (z_sok oc)) = true := by decide +kernel
theorem z_m_max : Cond.static Lib.Math.max.name ∈ TT := z_tt (i := 671) (by decide +kernel)
theorem z_mc_max : Cond.code Lib.Math.max.name Lib.Math.max.code 2 (some .int) ∈ TT := z_tt (i := 672) (by decide +kernel)
theorem z_m_min : Cond.static Lib.Math.min.name ∈ TT := z_tt (i := 1273) (by decide +kernel)
theorem z_mc_min : Cond.code Lib.Math.min.name Lib.Math.min.code 2 (some .int) ∈ TT := z_tt (i := 1274) (by decide +kernel)
theorem z_m_ini : Cond.initialized "java/lang/Math" ∈ TT := z_tt (i := 96) (by decide +kernel)
theorem z_ml_max : Cond.methodLink RX1 215 Lib.Math.max.name ∈ TT := z_tt (i := 670) (by decide +kernel)
theorem z_ml_min : Cond.methodLink RX7 241 Lib.Math.min.name ∈ TT := z_tt (i := 1272) (by decide +kernel)
def z_chs : List (List (Nat × Nat × Nat × Nat × Nat)) := [[], [(38, 552, 467, 468, 92), (44, 553, 435, 436, 92), (59, 554, 451, 452, 92), (75, 555, 557, 12, 91), (79, 562, 479, 480, 92), (83, 563, 565, 13, 91), (89, 581, 471, 472, 92), (96, 583, 585, 15, 91), (100, 609, 475, 476, 92), (110, 611, 613, 17, 91), (113, 615, 617, 18, 91), (117, 619, 621, 19, 91), (121, 625, 627, 20, 91), (136, 570, 571, 0, 91), (148, 577, 579, 14, 91), (156, 0, 439, 0, 89), (160, 0, 492, 0, 89), (170, 629, 631, 21, 91), (173, 633, 635, 22, 91), (176, 640, 642, 23, 91), (179, 646, 648, 24, 91), (182, 650, 652, 25, 91), (189, 589, 590, 0, 97), (201, 654, 656, 26, 91), (205, 658, 660, 27, 91), (208, 662, 664, 28, 91), (211, 666, 668, 29, 91), (225, 595, 596, 0, 98), (229, 602, 603, 0, 98), (232, 605, 607, 16, 91)], [(26, 398, 399, 400, 92)], [(31, 0, 411, 0, 89), (35, 445, 407, 408, 92), (39, 0, 739, 0, 89), (43, 765, 435, 436, 92), (45, 462, 463, 464, 92), (48, 466, 467, 468, 92), (52, 470, 471, 472, 92), (56, 474, 475, 476, 92), (59, 483, 485, 4, 92), (62, 494, 442, 443, 92), (65, 478, 479, 480, 92), (71, 487, 489, 5, 92), (74, 0, 492, 0, 89)], [(30, 421, 403, 404, 90), (34, 533, 534, 535, 90), (38, 537, 538, 0, 90), (41, 540, 541, 542, 92)], [], [(58, 384, 385, 386, 90), (65, 390, 392, 0, 89), (69, 394, 395, 396, 93), (75, 402, 403, 404, 90), (79, 406, 407, 408, 92), (89, 413, 415, 1, 89), (93, 430, 432, 2, 89), (100, 441, 442, 443, 92), (103, 446, 448, 3, 89), (119, 495, 496, 497, 93), (127, 503, 505, 6, 89), (131, 507, 509, 7, 89), (134, 692, 694, 34, 89), (137, 697, 699, 35, 89), (140, 454, 455, 456, 90), (144, 705, 707, 37, 89), (147, 713, 715, 38, 89), (150, 720, 492, 0, 89), (157, 721, 723, 39, 89), (165, 727, 728, 0, 89), (169, 730, 732, 40, 89), (173, 434, 435, 436, 92), (178, 753, 755, 41, 89), (181, 734, 735, 736, 92), (184, 761, 762, 763, 92), (187, 511, 513, 8, 89), (197, 673, 674, 0, 89), (206, 676, 678, 30, 89), (209, 680, 682, 31, 89), (213, 717, 718, 0, 89), (222, 458, 459, 460, 92), (226, 438, 439, 0, 89), (233, 778, 479, 480, 92), (238, 780, 590, 0, 97), (263, 544, 546, 11, 89), (266, 450, 451, 452, 92), (269, 801, 803, 42, 89), (272, 805, 806, 807, 94), (281, 817, 534, 535, 90), (289, 822, 399, 400, 92), (292, 827, 411, 0, 89), (295, 828, 541, 542, 92), (298, 829, 467, 468, 92), (301, 834, 739, 0, 89), (304, 548, 549, 550, 91), (322, 417, 418, 419, 90), (325, 422, 423, 424, 90), (328, 701, 703, 36, 89), (331, 696, 463, 464, 92), (334, 515, 517, 9, 89), (338, 525, 527, 10, 89), (342, 529, 530, 531, 90), (375, 684, 686, 32, 89), (378, 688, 690, 33, 89)], [(106, 1255, 1256, 0, 95), (110, 1258, 1259, 0, 95), (133, 1195, 1197, 52, 95), (140, 1210, 1212, 55, 95), (144, 1252, 1253, 0, 95), (147, 1278, 1280, 66, 95), (150, 1282, 1284, 67, 95), (153, 1214, 1216, 56, 95), (157, 1275, 1276, 0, 95), (166, 1203, 1204, 0, 95), (173, 1218, 1220, 57, 95), (179, 1222, 1224, 58, 95), (183, 1226, 1228, 59, 95), (186, 1230, 1231, 0, 95), (201, 1233, 1234, 0, 95), (205, 1236, 1238, 60, 95), (208, 1240, 1242, 61, 95), (211, 1244, 1246, 62, 95), (214, 1248, 1250, 63, 95), (217, 1261, 1263, 64, 95), (223, 1265, 1267, 65, 95), (227, 1199, 1201, 53, 95), (234, 1269, 1270, 0, 95), (247, 1206, 1208, 54, 95), (256, 1171, 1173, 46, 95), (258, 1187, 1189, 50, 95), (261, 1191, 1193, 51, 95), (268, 1310, 1311, 0, 95), (271, 1179, 1181, 48, 95), (283, 1302, 1304, 71, 95), (289, 1306, 1308, 72, 95), (293, 1313, 1315, 73, 95), (300, 1156, 1158, 44, 95), (326, 1160, 1162, 45, 95), (329, 1168, 1169, 0, 95), (332, 1175, 1177, 47, 95), (334, 1183, 1185, 49, 95), (340, 1290, 1292, 68, 95), (343, 1294, 1296, 69, 95), (346, 1336, 1338, 78, 95), (349, 1340, 1342, 79, 95), (352, 1344, 1346, 80, 95), (355, 1356, 1357, 0, 95), (358, 1367, 1369, 84, 95), (361, 1352, 1354, 81, 95), (364, 1359, 1361, 82, 95), (367, 1363, 1365, 83, 95), (370, 1383, 1385, 85, 95), (373, 1298, 1300, 70, 95), (377, 1317, 1319, 74, 95), (381, 1321, 1322, 0, 95), (387, 1324, 1326, 75, 95), (390, 1328, 1330, 76, 95), (393, 1332, 1334, 77, 95), (403, 1447, 1449, 86, 95), (408, 1460, 1462, 87, 95)], [], [(25, 380, 381, 382, 89), (29, 1150, 1151, 1152, 95), (30, 426, 427, 428, 89), (34, 1164, 1165, 1166, 95), (35, 499, 500, 501, 89), (39, 1286, 1287, 1288, 95), (40, 709, 710, 711, 89), (44, 1348, 1349, 1350, 95), (45, 741, 742, 743, 89), (49, 1371, 1372, 1373, 95), (50, 745, 746, 747, 89), (53, 1375, 1376, 1377, 95), (54, 749, 750, 751, 89), (57, 1379, 1380, 1381, 95), (58, 757, 758, 759, 89), (61, 1387, 1388, 1389, 95), (62, 766, 767, 768, 89), (65, 1391, 1392, 1393, 95), (66, 770, 771, 772, 89), (69, 1395, 1396, 1397, 95), (70, 774, 775, 776, 89), (73, 1399, 1400, 1401, 95), (74, 781, 782, 783, 89), (77, 1403, 1404, 1405, 95), (78, 785, 786, 787, 89), (82, 1407, 1408, 1409, 95), (88, 1411, 1412, 1413, 95), (89, 789, 790, 791, 89), (93, 1415, 1416, 1417, 95), (94, 793, 794, 795, 89), (97, 1419, 1420, 1421, 95), (98, 797, 798, 799, 89), (101, 1423, 1424, 1425, 95), (102, 809, 810, 811, 89), (105, 1427, 1428, 1429, 95), (106, 813, 814, 815, 89), (109, 1431, 1432, 1433, 95), (113, 1435, 1436, 1437, 95), (114, 818, 819, 820, 89), (117, 1439, 1440, 1441, 95), (118, 823, 824, 825, 89), (121, 1443, 1444, 1445, 95), (122, 830, 831, 832, 89), (125, 1451, 1452, 1453, 95), (126, 835, 836, 837, 89), (130, 1455, 1456, 1457, 95), (131, 839, 840, 841, 89), (134, 1464, 1465, 1466, 95), (135, 843, 844, 845, 89), (139, 1468, 1469, 1470, 95), (140, 847, 848, 849, 89), (143, 1472, 1473, 1474, 95)]]
def z_par (y : MethodName) : Option Nat := (parseMethodDescriptor y.desc).map (fun d => d.parameters.length)
def z_nest : List (Nat × Nat × Nat) := [(1, 156, 27), (1, 160, 33), (3, 31, 29), (3, 39, 34), (3, 74, 33)]
def z_cok (oc : Nat) (q : Nat × Nat × Nat × Nat × Nat) : Bool := match z_lk (z_chs.getD oc []) q.1 with
  | some (ml, h1, h2, h3) => decide ((z_y q.2.2.1).cls ≠ "java/lang/invoke/MethodHandle") && (decide ((z_y q.2.2.1).cls ≠ "java/lang/invoke/VarHandle") && match q.2.1 with
    | 0 => z_hs ml (.methodLink (z_own oc) q.1 (z_y q.2.2.1)) && (z_hs h1 (.instanceMethod (z_y q.2.2.1)) && (z_hs h2 (.selects (z_y q.2.2.1).cls (z_y q.2.2.1) (z_y q.2.2.1)) && (z_hs h3 (.initialized (z_y q.2.2.1).cls) &&
        (decide ((vwCl[q.2.2.2.2]?).map (fun c => c.1) = some (z_y q.2.2.1).cls) && decide ((z_par (z_y q.2.2.1)).map (fun n => n + 1) = some q.2.2.2.1)))))
    | 1 => z_hs ml (.methodLink (z_own oc) q.1 (z_y q.2.2.1)) && (z_hs h1 (.static (z_y q.2.2.1)) && (z_hs h3 (.initialized (z_y q.2.2.1).cls) && decide (z_par (z_y q.2.2.1) = some q.2.2.2.1)))
    | _ => z_hs h1 (.static (z_y q.2.2.1)) && (z_hs h3 (.initialized (z_y q.2.2.1).cls) && (decide (z_par (z_y q.2.2.1) = some q.2.2.2.1) && z_nest.contains (oc, q.1, q.2.2.1))))
  | none => false
set_option maxRecDepth 100000 in
theorem z_cals_ok : (List.range 10).all (fun oc => (z_cals.getD oc []).all (z_cok oc)) = true := by decide +kernel
set_option maxRecDepth 100000 in
theorem zk_X0_baseOf : Cond.code yX0_baseOf cX0_baseOf 3 (some .int) ∈ TT := List.mem_filter.mpr ⟨List.mem_of_getElem? (i := 604) rfl, rfl⟩
set_option maxRecDepth 100000 in
theorem zk_X0_hanOf : Cond.code yX0_hanOf cX0_hanOf 5 (some .int) ∈ TT := List.mem_filter.mpr ⟨List.mem_of_getElem? (i := 597) rfl, rfl⟩
set_option maxRecDepth 100000 in
theorem zk_X1_bit : Cond.code yX1_bit cX1_bit 2 (some .long) ∈ TT := List.mem_filter.mpr ⟨List.mem_of_getElem? (i := 572) rfl, rfl⟩
set_option maxRecDepth 100000 in
theorem zk_X1_chosenThrees : Cond.code yX1_chosenThrees cX1_chosenThrees 5 (some .long) ∈ TT := List.mem_filter.mpr ⟨List.mem_of_getElem? (i := 618) rfl, rfl⟩
set_option maxRecDepth 100000 in
theorem zk_X1_findThrees : Cond.code yX1_findThrees cX1_findThrees 3 (some .int) ∈ TT := List.mem_filter.mpr ⟨List.mem_of_getElem? (i := 614) rfl, rfl⟩
set_option maxRecDepth 100000 in
theorem zk_X1_isBetter : Cond.code yX1_isBetter cX1_isBetter 6 (some .boolean) ∈ TT := List.mem_filter.mpr ⟨List.mem_of_getElem? (i := 608) rfl, rfl⟩
set_option maxRecDepth 100000 in
theorem zk_X1_isHidden : Cond.code yX1_isHidden cX1_isHidden 3 (some .boolean) ∈ TT := List.mem_filter.mpr ⟨List.mem_of_getElem? (i := 657) rfl, rfl⟩
set_option maxRecDepth 100000 in
theorem zk_X1_mayHaveCompleted : Cond.code yX1_mayHaveCompleted cX1_mayHaveCompleted 4 (some .boolean) ∈ TT := List.mem_filter.mpr ⟨List.mem_of_getElem? (i := 649) rfl, rfl⟩
set_option maxRecDepth 100000 in
theorem zk_X1_pairFu : Cond.code yX1_pairFu cX1_pairFu 1 (some .int) ∈ TT := List.mem_filter.mpr ⟨List.mem_of_getElem? (i := 661) rfl, rfl⟩
set_option maxRecDepth 100000 in
theorem zk_X1_toldOnes : Cond.code yX1_toldOnes cX1_toldOnes 5 (some .long) ∈ TT := List.mem_filter.mpr ⟨List.mem_of_getElem? (i := 558) rfl, rfl⟩
set_option maxRecDepth 100000 in
theorem zk_X1_waitFu : Cond.code yX1_waitFu cX1_waitFu 4 (some .int) ∈ TT := List.mem_filter.mpr ⟨List.mem_of_getElem? (i := 665) rfl, rfl⟩
set_option maxRecDepth 100000 in
theorem zk_X2_throwTile : Cond.code yX2_throwTile cX2_throwTile 2 none ∈ TT := List.mem_filter.mpr ⟨List.mem_of_getElem? (i := 498) rfl, rfl⟩
set_option maxRecDepth 100000 in
theorem zk_X2_thrown : Cond.code yX2_thrown cX2_thrown 2 (some .int) ∈ TT := List.mem_filter.mpr ⟨List.mem_of_getElem? (i := 928) rfl, rfl⟩
set_option maxRecDepth 100000 in
theorem zk_X3_empty : Cond.code yX3_empty cX3_empty 2 none ∈ TT := List.mem_filter.mpr ⟨List.mem_of_getElem? (i := 401) rfl, rfl⟩
set_option maxRecDepth 100000 in
theorem zk_X3_isOpen : Cond.code yX3_isOpen cX3_isOpen 2 (some .boolean) ∈ TT := List.mem_filter.mpr ⟨List.mem_of_getElem? (i := 453) rfl, rfl⟩
set_option maxRecDepth 100000 in
theorem zk_X3_isSevenPairs : Cond.code yX3_isSevenPairs cX3_isSevenPairs 2 (some .boolean) ∈ TT := List.mem_filter.mpr ⟨List.mem_of_getElem? (i := 473) rfl, rfl⟩
set_option maxRecDepth 100000 in
theorem zk_X3_kinds : Cond.code yX3_kinds cX3_kinds 4 (some .long) ∈ TT := List.mem_filter.mpr ⟨List.mem_of_getElem? (i := 481) rfl, rfl⟩
set_option maxRecDepth 100000 in
theorem zk_X3_size : Cond.code yX3_size cX3_size 1 (some .int) ∈ TT := List.mem_filter.mpr ⟨List.mem_of_getElem? (i := 469) rfl, rfl⟩
set_option maxRecDepth 100000 in
theorem zk_X4_behind : Cond.code yX4_behind cX4_behind 1 (some .int) ∈ TT := List.mem_filter.mpr ⟨List.mem_of_getElem? (i := 539) rfl, rfl⟩
set_option maxRecDepth 100000 in
theorem zk_X4_build : Cond.code yX4_build cX4_build 8 none ∈ TT := List.mem_filter.mpr ⟨List.mem_of_getElem? (i := 387) rfl, rfl⟩
set_option maxRecDepth 100000 in
theorem zk_X4_kindAt : Cond.code yX4_kindAt cX4_kindAt 2 (some .int) ∈ TT := List.mem_filter.mpr ⟨List.mem_of_getElem? (i := 405) rfl, rfl⟩
set_option maxRecDepth 100000 in
theorem zk_X4_left : Cond.code yX4_left cX4_left 1 (some .int) ∈ TT := List.mem_filter.mpr ⟨List.mem_of_getElem? (i := 457) rfl, rfl⟩
set_option maxRecDepth 100000 in
theorem zk_X4_signs : Cond.code yX4_signs cX4_signs 1 (some .int) ∈ TT := List.mem_filter.mpr ⟨List.mem_of_getElem? (i := 536) rfl, rfl⟩
set_option maxRecDepth 100000 in
theorem zk_X5_part : Cond.code yX5_part cX5_part 2 (some .int) ∈ TT := List.mem_filter.mpr ⟨List.mem_of_getElem? (i := 808) rfl, rfl⟩
set_option maxRecDepth 100000 in
theorem zk_X6_at : Cond.code yX6_at cX6_at 2 (some (.object "TileHouse$Seat")) ∈ TT := List.mem_filter.mpr ⟨List.mem_of_getElem? (i := 393) rfl, rfl⟩
set_option maxRecDepth 100000 in
theorem zk_X6_desk : Cond.code yX6_desk cX6_desk 2 (some .int) ∈ TT := List.mem_filter.mpr ⟨List.mem_of_getElem? (i := 842) rfl, rfl⟩
set_option maxRecDepth 100000 in
theorem zk_X6_deskForms : Cond.code yX6_deskForms cX6_deskForms 1 (some .long) ∈ TT := List.mem_filter.mpr ⟨List.mem_of_getElem? (i := 846) rfl, rfl⟩
set_option maxRecDepth 100000 in
theorem zk_X6_holds : Cond.code yX6_holds cX6_holds 3 (some .boolean) ∈ TT := List.mem_filter.mpr ⟨List.mem_of_getElem? (i := 440) rfl, rfl⟩
set_option maxRecDepth 100000 in
theorem zk_X6_hundreds : Cond.code yX6_hundreds cX6_hundreds 1 (some .int) ∈ TT := List.mem_filter.mpr ⟨List.mem_of_getElem? (i := 675) rfl, rfl⟩
set_option maxRecDepth 100000 in
theorem zk_X6_isKind : Cond.code yX6_isKind cX6_isKind 1 (some .boolean) ∈ TT := List.mem_filter.mpr ⟨List.mem_of_getElem? (i := 412) rfl, rfl⟩
set_option maxRecDepth 100000 in
theorem zk_X6_isSeat : Cond.code yX6_isSeat cX6_isSeat 1 (some .boolean) ∈ TT := List.mem_filter.mpr ⟨List.mem_of_getElem? (i := 719) rfl, rfl⟩
set_option maxRecDepth 100000 in
theorem zk_X6_isWin : Cond.code yX6_isWin cX6_isWin 2 (some .boolean) ∈ TT := List.mem_filter.mpr ⟨List.mem_of_getElem? (i := 804) rfl, rfl⟩
set_option maxRecDepth 100000 in
theorem zk_X6_recordWin : Cond.code yX6_recordWin cX6_recordWin 5 none ∈ TT := List.mem_filter.mpr ⟨List.mem_of_getElem? (i := 679) rfl, rfl⟩
set_option maxRecDepth 100000 in
theorem zk_X6_startsRun : Cond.code yX6_startsRun cX6_startsRun 1 (some .boolean) ∈ TT := List.mem_filter.mpr ⟨List.mem_of_getElem? (i := 493) rfl, rfl⟩
set_option maxRecDepth 100000 in
theorem zk_X6_tilesOfEach : Cond.code yX6_tilesOfEach cX6_tilesOfEach 1 (some .int) ∈ TT := List.mem_filter.mpr ⟨List.mem_of_getElem? (i := 740) rfl, rfl⟩
set_option maxRecDepth 100000 in
theorem zk_X6_windOf : Cond.code yX6_windOf cX6_windOf 2 (some .int) ∈ TT := List.mem_filter.mpr ⟨List.mem_of_getElem? (i := 547) rfl, rfl⟩
set_option maxRecDepth 100000 in
theorem zk_X7_anySays : Cond.code yX7_anySays cX7_anySays 1 (some .boolean) ∈ TT := List.mem_filter.mpr ⟨List.mem_of_getElem? (i := 1293) rfl, rfl⟩
set_option maxRecDepth 100000 in
theorem zk_X7_behind : Cond.code yX7_behind cX7_behind 1 (some .int) ∈ TT := List.mem_filter.mpr ⟨List.mem_of_getElem? (i := 1312) rfl, rfl⟩
set_option maxRecDepth 100000 in
theorem zk_X7_bit : Cond.code yX7_bit cX7_bit 1 (some .long) ∈ TT := List.mem_filter.mpr ⟨List.mem_of_getElem? (i := 1235) rfl, rfl⟩
set_option maxRecDepth 100000 in
theorem zk_X7_clear : Cond.code yX7_clear cX7_clear 2 none ∈ TT := List.mem_filter.mpr ⟨List.mem_of_getElem? (i := 1442) rfl, rfl⟩
set_option maxRecDepth 100000 in
theorem zk_X7_desk : Cond.code yX7_desk cX7_desk 2 (some .int) ∈ TT := List.mem_filter.mpr ⟨List.mem_of_getElem? (i := 1467) rfl, rfl⟩
set_option maxRecDepth 100000 in
theorem zk_X7_deskForms : Cond.code yX7_deskForms cX7_deskForms 1 (some .long) ∈ TT := List.mem_filter.mpr ⟨List.mem_of_getElem? (i := 1471) rfl, rfl⟩
set_option maxRecDepth 100000 in
theorem zk_X7_ends : Cond.code yX7_ends cX7_ends 7 none ∈ TT := List.mem_filter.mpr ⟨List.mem_of_getElem? (i := 1335) rfl, rfl⟩
set_option maxRecDepth 100000 in
theorem zk_X7_forms : Cond.code yX7_forms cX7_forms 2 (some .long) ∈ TT := List.mem_filter.mpr ⟨List.mem_of_getElem? (i := 1430) rfl, rfl⟩
set_option maxRecDepth 100000 in
theorem zk_X7_gives : Cond.code yX7_gives cX7_gives 4 none ∈ TT := List.mem_filter.mpr ⟨List.mem_of_getElem? (i := 1159) rfl, rfl⟩
set_option maxRecDepth 100000 in
theorem zk_X7_han : Cond.code yX7_han cX7_han 2 (some .int) ∈ TT := List.mem_filter.mpr ⟨List.mem_of_getElem? (i := 1271) rfl, rfl⟩
set_option maxRecDepth 100000 in
theorem zk_X7_has : Cond.code yX7_has cX7_has 3 (some .boolean) ∈ TT := List.mem_filter.mpr ⟨List.mem_of_getElem? (i := 1205) rfl, rfl⟩
set_option maxRecDepth 100000 in
theorem zk_X7_hasRun : Cond.code yX7_hasRun cX7_hasRun 4 (some .boolean) ∈ TT := List.mem_filter.mpr ⟨List.mem_of_getElem? (i := 1247) rfl, rfl⟩
set_option maxRecDepth 100000 in
theorem zk_X7_hasThree : Cond.code yX7_hasThree cX7_hasThree 4 (some .boolean) ∈ TT := List.mem_filter.mpr ⟨List.mem_of_getElem? (i := 1243) rfl, rfl⟩
set_option maxRecDepth 100000 in
theorem zk_X7_has_ : Cond.code yX7_has_ cX7_has_ 3 (some .int) ∈ TT := List.mem_filter.mpr ⟨List.mem_of_getElem? (i := 1174) rfl, rfl⟩
set_option maxRecDepth 100000 in
theorem zk_X7_inHand : Cond.code yX7_inHand cX7_inHand 3 (some .int) ∈ TT := List.mem_filter.mpr ⟨List.mem_of_getElem? (i := 1198) rfl, rfl⟩
set_option maxRecDepth 100000 in
theorem zk_X7_isDragon : Cond.code yX7_isDragon cX7_isDragon 1 (some .boolean) ∈ TT := List.mem_filter.mpr ⟨List.mem_of_getElem? (i := 1232) rfl, rfl⟩
set_option maxRecDepth 100000 in
theorem zk_X7_isHidden : Cond.code yX7_isHidden cX7_isHidden 2 (some .boolean) ∈ TT := List.mem_filter.mpr ⟨List.mem_of_getElem? (i := 1229) rfl, rfl⟩
set_option maxRecDepth 100000 in
theorem zk_X7_isHonour : Cond.code yX7_isHonour cX7_isHonour 1 (some .boolean) ∈ TT := List.mem_filter.mpr ⟨List.mem_of_getElem? (i := 1257) rfl, rfl⟩
set_option maxRecDepth 100000 in
theorem zk_X7_isKind : Cond.code yX7_isKind cX7_isKind 1 (some .boolean) ∈ TT := List.mem_filter.mpr ⟨List.mem_of_getElem? (i := 1170) rfl, rfl⟩
set_option maxRecDepth 100000 in
theorem zk_X7_isOpen : Cond.code yX7_isOpen cX7_isOpen 3 (some .boolean) ∈ TT := List.mem_filter.mpr ⟨List.mem_of_getElem? (i := 1225) rfl, rfl⟩
set_option maxRecDepth 100000 in
theorem zk_X7_isOpen_ : Cond.code yX7_isOpen_ cX7_isOpen_ 4 (some .boolean) ∈ TT := List.mem_filter.mpr ⟨List.mem_of_getElem? (i := 1178) rfl, rfl⟩
set_option maxRecDepth 100000 in
theorem zk_X7_isRun : Cond.code yX7_isRun cX7_isRun 1 (some .boolean) ∈ TT := List.mem_filter.mpr ⟨List.mem_of_getElem? (i := 1277) rfl, rfl⟩
set_option maxRecDepth 100000 in
theorem zk_X7_isSeat : Cond.code yX7_isSeat cX7_isSeat 1 (some .boolean) ∈ TT := List.mem_filter.mpr ⟨List.mem_of_getElem? (i := 1358) rfl, rfl⟩
set_option maxRecDepth 100000 in
theorem zk_X7_isTerminal : Cond.code yX7_isTerminal cX7_isTerminal 1 (some .boolean) ∈ TT := List.mem_filter.mpr ⟨List.mem_of_getElem? (i := 1260) rfl, rfl⟩
set_option maxRecDepth 100000 in
theorem zk_X7_lays : Cond.code yX7_lays cX7_lays 4 none ∈ TT := List.mem_filter.mpr ⟨List.mem_of_getElem? (i := 1370) rfl, rfl⟩
set_option maxRecDepth 100000 in
theorem zk_X7_left : Cond.code yX7_left cX7_left 1 (some .int) ∈ TT := List.mem_filter.mpr ⟨List.mem_of_getElem? (i := 1182) rfl, rfl⟩
set_option maxRecDepth 100000 in
theorem zk_X7_nothing : Cond.code yX7_nothing cX7_nothing 1 none ∈ TT := List.mem_filter.mpr ⟨List.mem_of_getElem? (i := 1463) rfl, rfl⟩
set_option maxRecDepth 100000 in
theorem zk_X7_pays : Cond.code yX7_pays cX7_pays 4 none ∈ TT := List.mem_filter.mpr ⟨List.mem_of_getElem? (i := 1327) rfl, rfl⟩
set_option maxRecDepth 100000 in
theorem zk_X7_takeDesk : Cond.code yX7_takeDesk cX7_takeDesk 2 none ∈ TT := List.mem_filter.mpr ⟨List.mem_of_getElem? (i := 1450) rfl, rfl⟩
set_option maxRecDepth 100000 in
theorem zk_X7_takesBets : Cond.code yX7_takesBets cX7_takesBets 2 none ∈ TT := List.mem_filter.mpr ⟨List.mem_of_getElem? (i := 1331) rfl, rfl⟩
set_option maxRecDepth 100000 in
theorem zk_X7_touched : Cond.code yX7_touched cX7_touched 2 none ∈ TT := List.mem_filter.mpr ⟨List.mem_of_getElem? (i := 1343) rfl, rfl⟩
set_option maxRecDepth 100000 in
theorem zk_X7_up : Cond.code yX7_up cX7_up 1 (some .int) ∈ TT := List.mem_filter.mpr ⟨List.mem_of_getElem? (i := 1323) rfl, rfl⟩
set_option maxRecDepth 100000 in
theorem zk_X7_wall : Cond.code yX7_wall cX7_wall 2 (some .int) ∈ TT := List.mem_filter.mpr ⟨List.mem_of_getElem? (i := 1438) rfl, rfl⟩
set_option maxRecDepth 100000 in
theorem zk_X7_windOf : Cond.code yX7_windOf cX7_windOf 2 (some .int) ∈ TT := List.mem_filter.mpr ⟨List.mem_of_getElem? (i := 1305) rfl, rfl⟩
set_option maxRecDepth 100000 in
theorem zk_X7_won : Cond.code yX7_won cX7_won 3 (some .int) ∈ TT := List.mem_filter.mpr ⟨List.mem_of_getElem? (i := 1426) rfl, rfl⟩
set_option maxRecDepth 100000 in
theorem zk_X7_writes : Cond.code yX7_writes cX7_writes 5 none ∈ TT := List.mem_filter.mpr ⟨List.mem_of_getElem? (i := 1320) rfl, rfl⟩
set_option maxRecDepth 100000 in
theorem zk_J13_bitCount_95d88 : Cond.code yJ13_bitCount_95d88 cJ13_bitCount_95d88 2 (some .int) ∈ TT := List.mem_filter.mpr ⟨List.mem_of_getElem? (i := 591) rfl, rfl⟩
set_option maxRecDepth 100000 in
theorem zk_X1_endForms : Cond.code yX1_endForms cX1_endForms 7 (some .long) ∈ TT := List.mem_filter.mpr ⟨List.mem_of_getElem? (i := 643) rfl, rfl⟩
set_option maxRecDepth 100000 in
theorem zk_X1_fillWay : Cond.code yX1_fillWay cX1_fillWay 10 (some .boolean) ∈ TT := List.mem_filter.mpr ⟨List.mem_of_getElem? (i := 622) rfl, rfl⟩
set_option maxRecDepth 100000 in
theorem zk_X1_fuOf : Cond.code yX1_fuOf cX1_fuOf 6 (some .int) ∈ TT := List.mem_filter.mpr ⟨List.mem_of_getElem? (i := 669) rfl, rfl⟩
set_option maxRecDepth 100000 in
theorem zk_X1_likeRuns : Cond.code yX1_likeRuns cX1_likeRuns 5 (some .long) ∈ TT := List.mem_filter.mpr ⟨List.mem_of_getElem? (i := 632) rfl, rfl⟩
set_option maxRecDepth 100000 in
theorem zk_X1_offer : Cond.code yX1_offer cX1_offer 10 none ∈ TT := List.mem_filter.mpr ⟨List.mem_of_getElem? (i := 586) rfl, rfl⟩
set_option maxRecDepth 100000 in
theorem zk_X1_setForms : Cond.code yX1_setForms cX1_setForms 5 (some .long) ∈ TT := List.mem_filter.mpr ⟨List.mem_of_getElem? (i := 636) rfl, rfl⟩
set_option maxRecDepth 100000 in
theorem zk_X2_startHand : Cond.code yX2_startHand cX2_startHand 1 none ∈ TT := List.mem_filter.mpr ⟨List.mem_of_getElem? (i := 397) rfl, rfl⟩
set_option maxRecDepth 100000 in
theorem zk_X3_all : Cond.code yX3_all cX3_all 2 (some .int) ∈ TT := List.mem_filter.mpr ⟨List.mem_of_getElem? (i := 543) rfl, rfl⟩
set_option maxRecDepth 100000 in
theorem zk_X3_free : Cond.code yX3_free cX3_free 2 (some .int) ∈ TT := List.mem_filter.mpr ⟨List.mem_of_getElem? (i := 437) rfl, rfl⟩
set_option maxRecDepth 100000 in
theorem zk_X3_isThirteen : Cond.code yX3_isThirteen cX3_isThirteen 1 (some .boolean) ∈ TT := List.mem_filter.mpr ⟨List.mem_of_getElem? (i := 477) rfl, rfl⟩
set_option maxRecDepth 100000 in
theorem zk_X3_layDown : Cond.code yX3_layDown cX3_layDown 6 none ∈ TT := List.mem_filter.mpr ⟨List.mem_of_getElem? (i := 737) rfl, rfl⟩
set_option maxRecDepth 100000 in
theorem zk_X3_put : Cond.code yX3_put cX3_put 3 none ∈ TT := List.mem_filter.mpr ⟨List.mem_of_getElem? (i := 409) rfl, rfl⟩
set_option maxRecDepth 100000 in
theorem zk_X3_splitsBeside : Cond.code yX3_splitsBeside cX3_splitsBeside 7 (some .boolean) ∈ TT := List.mem_filter.mpr ⟨List.mem_of_getElem? (i := 490) rfl, rfl⟩
set_option maxRecDepth 100000 in
theorem zk_X4_draw : Cond.code yX4_draw cX4_draw 1 (some .int) ∈ TT := List.mem_filter.mpr ⟨List.mem_of_getElem? (i := 425) rfl, rfl⟩
set_option maxRecDepth 100000 in
theorem zk_X4_drawBehindFour : Cond.code yX4_drawBehindFour cX4_drawBehindFour 1 (some .int) ∈ TT := List.mem_filter.mpr ⟨List.mem_of_getElem? (i := 420) rfl, rfl⟩
set_option maxRecDepth 100000 in
theorem zk_X6_breakHand : Cond.code yX6_breakHand cX6_breakHand 2 none ∈ TT := List.mem_filter.mpr ⟨List.mem_of_getElem? (i := 704) rfl, rfl⟩
set_option maxRecDepth 100000 in
theorem zk_X6_clear : Cond.code yX6_clear cX6_clear 1 none ∈ TT := List.mem_filter.mpr ⟨List.mem_of_getElem? (i := 821) rfl, rfl⟩
set_option maxRecDepth 100000 in
theorem zk_X6_count : Cond.code yX6_count cX6_count 2 (some .int) ∈ TT := List.mem_filter.mpr ⟨List.mem_of_getElem? (i := 816) rfl, rfl⟩
set_option maxRecDepth 100000 in
theorem zk_X6_firstDraw : Cond.code yX6_firstDraw cX6_firstDraw 3 (some .long) ∈ TT := List.mem_filter.mpr ⟨List.mem_of_getElem? (i := 528) rfl, rfl⟩
set_option maxRecDepth 100000 in
theorem zk_X6_forms : Cond.code yX6_forms cX6_forms 2 (some .long) ∈ TT := List.mem_filter.mpr ⟨List.mem_of_getElem? (i := 812) rfl, rfl⟩
set_option maxRecDepth 100000 in
theorem zk_X6_keepsOther : Cond.code yX6_keepsOther cX6_keepsOther 7 (some .boolean) ∈ TT := List.mem_filter.mpr ⟨List.mem_of_getElem? (i := 729) rfl, rfl⟩
set_option maxRecDepth 100000 in
theorem zk_X6_laid : Cond.code yX6_laid cX6_laid 5 (some .int) ∈ TT := List.mem_filter.mpr ⟨List.mem_of_getElem? (i := 788) rfl, rfl⟩
set_option maxRecDepth 100000 in
theorem zk_X6_mayMakeFour : Cond.code yX6_mayMakeFour cX6_mayMakeFour 1 (some .boolean) ∈ TT := List.mem_filter.mpr ⟨List.mem_of_getElem? (i := 756) rfl, rfl⟩
set_option maxRecDepth 100000 in
theorem zk_X6_otherEnd : Cond.code yX6_otherEnd cX6_otherEnd 2 (some .long) ∈ TT := List.mem_filter.mpr ⟨List.mem_of_getElem? (i := 724) rfl, rfl⟩
set_option maxRecDepth 100000 in
theorem zk_X6_richest : Cond.code yX6_richest cX6_richest 3 (some .int) ∈ TT := List.mem_filter.mpr ⟨List.mem_of_getElem? (i := 691) rfl, rfl⟩
set_option maxRecDepth 100000 in
theorem zk_X6_seat : Cond.code yX6_seat cX6_seat 4 (some .int) ∈ TT := List.mem_filter.mpr ⟨List.mem_of_getElem? (i := 796) rfl, rfl⟩
set_option maxRecDepth 100000 in
theorem zk_X6_someoneIsBroke : Cond.code yX6_someoneIsBroke cX6_someoneIsBroke 2 (some .boolean) ∈ TT := List.mem_filter.mpr ⟨List.mem_of_getElem? (i := 687) rfl, rfl⟩
set_option maxRecDepth 100000 in
theorem zk_X6_someoneSays : Cond.code yX6_someoneSays cX6_someoneSays 2 (some .boolean) ∈ TT := List.mem_filter.mpr ⟨List.mem_of_getElem? (i := 506) rfl, rfl⟩
set_option maxRecDepth 100000 in
theorem zk_X6_toldForms : Cond.code yX6_toldForms cX6_toldForms 5 (some .long) ∈ TT := List.mem_filter.mpr ⟨List.mem_of_getElem? (i := 518) rfl, rfl⟩
set_option maxRecDepth 100000 in
theorem zk_X6_won : Cond.code yX6_won cX6_won 3 (some .int) ∈ TT := List.mem_filter.mpr ⟨List.mem_of_getElem? (i := 800) rfl, rfl⟩
set_option maxRecDepth 100000 in
theorem zk_X7_canDiscard : Cond.code yX7_canDiscard cX7_canDiscard 4 (some .boolean) ∈ TT := List.mem_filter.mpr ⟨List.mem_of_getElem? (i := 1362) rfl, rfl⟩
set_option maxRecDepth 100000 in
theorem zk_X7_claims : Cond.code yX7_claims cX7_claims 4 none ∈ TT := List.mem_filter.mpr ⟨List.mem_of_getElem? (i := 1366) rfl, rfl⟩
set_option maxRecDepth 100000 in
theorem zk_X7_compare : Cond.code yX7_compare cX7_compare 7 none ∈ TT := List.mem_filter.mpr ⟨List.mem_of_getElem? (i := 1268) rfl, rfl⟩
set_option maxRecDepth 100000 in
theorem zk_X7_count : Cond.code yX7_count cX7_count 2 (some .int) ∈ TT := List.mem_filter.mpr ⟨List.mem_of_getElem? (i := 1434) rfl, rfl⟩
set_option maxRecDepth 100000 in
theorem zk_X7_draws : Cond.code yX7_draws cX7_draws 4 none ∈ TT := List.mem_filter.mpr ⟨List.mem_of_getElem? (i := 1163) rfl, rfl⟩
set_option maxRecDepth 100000 in
theorem zk_X7_hand : Cond.code yX7_hand cX7_hand 3 (some .int) ∈ TT := List.mem_filter.mpr ⟨List.mem_of_getElem? (i := 1406) rfl, rfl⟩
set_option maxRecDepth 100000 in
theorem zk_X7_isEnd : Cond.code yX7_isEnd cX7_isEnd 1 (some .boolean) ∈ TT := List.mem_filter.mpr ⟨List.mem_of_getElem? (i := 1254) rfl, rfl⟩
set_option maxRecDepth 100000 in
theorem zk_X7_laid : Cond.code yX7_laid cX7_laid 4 (some .int) ∈ TT := List.mem_filter.mpr ⟨List.mem_of_getElem? (i := 1410) rfl, rfl⟩
set_option maxRecDepth 100000 in
theorem zk_X7_mayClaim : Cond.code yX7_mayClaim cX7_mayClaim 2 (some .boolean) ∈ TT := List.mem_filter.mpr ⟨List.mem_of_getElem? (i := 1355) rfl, rfl⟩
set_option maxRecDepth 100000 in
theorem zk_X7_mayMake : Cond.code yX7_mayMake cX7_mayMake 1 (some .boolean) ∈ TT := List.mem_filter.mpr ⟨List.mem_of_getElem? (i := 1386) rfl, rfl⟩
set_option maxRecDepth 100000 in
theorem zk_X7_of : Cond.code yX7_of cX7_of 4 (some .int) ∈ TT := List.mem_filter.mpr ⟨List.mem_of_getElem? (i := 1202) rfl, rfl⟩
set_option maxRecDepth 100000 in
theorem zk_X7_river : Cond.code yX7_river cX7_river 3 (some .int) ∈ TT := List.mem_filter.mpr ⟨List.mem_of_getElem? (i := 1414) rfl, rfl⟩
set_option maxRecDepth 100000 in
theorem zk_X7_seat : Cond.code yX7_seat cX7_seat 3 (some .int) ∈ TT := List.mem_filter.mpr ⟨List.mem_of_getElem? (i := 1422) rfl, rfl⟩
set_option maxRecDepth 100000 in
theorem zk_X7_take : Cond.code yX7_take cX7_take 3 none ∈ TT := List.mem_filter.mpr ⟨List.mem_of_getElem? (i := 1190) rfl, rfl⟩
set_option maxRecDepth 100000 in
theorem zk_X7_twins : Cond.code yX7_twins cX7_twins 5 none ∈ TT := List.mem_filter.mpr ⟨List.mem_of_getElem? (i := 1239) rfl, rfl⟩
set_option maxRecDepth 100000 in
theorem zk_X1_isNineGates : Cond.code yX1_isNineGates cX1_isNineGates 4 (some .boolean) ∈ TT := List.mem_filter.mpr ⟨List.mem_of_getElem? (i := 580) rfl, rfl⟩
set_option maxRecDepth 100000 in
theorem zk_X1_weighCompleted : Cond.code yX1_weighCompleted cX1_weighCompleted 8 none ∈ TT := List.mem_filter.mpr ⟨List.mem_of_getElem? (i := 653) rfl, rfl⟩
set_option maxRecDepth 100000 in
theorem zk_X3_addToThree : Cond.code yX3_addToThree cX3_addToThree 3 (some .boolean) ∈ TT := List.mem_filter.mpr ⟨List.mem_of_getElem? (i := 764) rfl, rfl⟩
set_option maxRecDepth 100000 in
theorem zk_X3_isSetsAndPair : Cond.code yX3_isSetsAndPair cX3_isSetsAndPair 2 (some .boolean) ∈ TT := List.mem_filter.mpr ⟨List.mem_of_getElem? (i := 486) rfl, rfl⟩
set_option maxRecDepth 100000 in
theorem zk_X3_take : Cond.code yX3_take cX3_take 3 none ∈ TT := List.mem_filter.mpr ⟨List.mem_of_getElem? (i := 444) rfl, rfl⟩
set_option maxRecDepth 100000 in
theorem zk_X4_dearTiles : Cond.code yX4_dearTiles cX4_dearTiles 6 (some .int) ∈ TT := List.mem_filter.mpr ⟨List.mem_of_getElem? (i := 532) rfl, rfl⟩
set_option maxRecDepth 100000 in
theorem zk_X6_drawTile : Cond.code yX6_drawTile cX6_drawTile 4 none ∈ TT := List.mem_filter.mpr ⟨List.mem_of_getElem? (i := 416) rfl, rfl⟩
set_option maxRecDepth 100000 in
theorem zk_X6_endHand : Cond.code yX6_endHand cX6_endHand 5 none ∈ TT := List.mem_filter.mpr ⟨List.mem_of_getElem? (i := 683) rfl, rfl⟩
set_option maxRecDepth 100000 in
theorem zk_X6_hand : Cond.code yX6_hand cX6_hand 3 (some .int) ∈ TT := List.mem_filter.mpr ⟨List.mem_of_getElem? (i := 784) rfl, rfl⟩
set_option maxRecDepth 100000 in
theorem zk_X6_lay : Cond.code yX6_lay cX6_lay 3 (some .boolean) ∈ TT := List.mem_filter.mpr ⟨List.mem_of_getElem? (i := 826) rfl, rfl⟩
set_option maxRecDepth 100000 in
theorem zk_X6_mayClaimSet : Cond.code yX6_mayClaimSet cX6_mayClaimSet 2 (some .boolean) ∈ TT := List.mem_filter.mpr ⟨List.mem_of_getElem? (i := 716) rfl, rfl⟩
set_option maxRecDepth 100000 in
theorem zk_X6_mayThrow : Cond.code yX6_mayThrow cX6_mayThrow 3 (some .boolean) ∈ TT := List.mem_filter.mpr ⟨List.mem_of_getElem? (i := 433) rfl, rfl⟩
set_option maxRecDepth 100000 in
theorem zk_X6_set : Cond.code yX6_set cX6_set 6 (some .boolean) ∈ TT := List.mem_filter.mpr ⟨List.mem_of_getElem? (i := 833) rfl, rfl⟩
set_option maxRecDepth 100000 in
theorem zk_X7_add : Cond.code yX7_add cX7_add 3 (some .boolean) ∈ TT := List.mem_filter.mpr ⟨List.mem_of_getElem? (i := 1390) rfl, rfl⟩
set_option maxRecDepth 100000 in
theorem zk_X7_deal : Cond.code yX7_deal cX7_deal 8 (some .boolean) ∈ TT := List.mem_filter.mpr ⟨List.mem_of_getElem? (i := 1153) rfl, rfl⟩
set_option maxRecDepth 100000 in
theorem zk_X7_dearTiles : Cond.code yX7_dearTiles cX7_dearTiles 4 (some .int) ∈ TT := List.mem_filter.mpr ⟨List.mem_of_getElem? (i := 1309) rfl, rfl⟩
set_option maxRecDepth 100000 in
theorem zk_X7_edges : Cond.code yX7_edges cX7_edges 9 none ∈ TT := List.mem_filter.mpr ⟨List.mem_of_getElem? (i := 1251) rfl, rfl⟩
set_option maxRecDepth 100000 in
theorem zk_X7_hide : Cond.code yX7_hide cX7_hide 2 (some .boolean) ∈ TT := List.mem_filter.mpr ⟨List.mem_of_getElem? (i := 1382) rfl, rfl⟩
set_option maxRecDepth 100000 in
theorem zk_X7_lay : Cond.code yX7_lay cX7_lay 3 (some .boolean) ∈ TT := List.mem_filter.mpr ⟨List.mem_of_getElem? (i := 1446) rfl, rfl⟩
set_option maxRecDepth 100000 in
theorem zk_X7_nine : Cond.code yX7_nine cX7_nine 3 (some .boolean) ∈ TT := List.mem_filter.mpr ⟨List.mem_of_getElem? (i := 1402) rfl, rfl⟩
set_option maxRecDepth 100000 in
theorem zk_X7_set : Cond.code yX7_set cX7_set 5 (some .boolean) ∈ TT := List.mem_filter.mpr ⟨List.mem_of_getElem? (i := 1454) rfl, rfl⟩
set_option maxRecDepth 100000 in
theorem zk_X7_thirteen : Cond.code yX7_thirteen cX7_thirteen 1 none ∈ TT := List.mem_filter.mpr ⟨List.mem_of_getElem? (i := 1285) rfl, rfl⟩
set_option maxRecDepth 100000 in
theorem zk_X7_tiles : Cond.code yX7_tiles cX7_tiles 12 none ∈ TT := List.mem_filter.mpr ⟨List.mem_of_getElem? (i := 1264) rfl, rfl⟩
set_option maxRecDepth 100000 in
theorem zk_X1_tileForms : Cond.code yX1_tileForms cX1_tileForms 6 (some .long) ∈ TT := List.mem_filter.mpr ⟨List.mem_of_getElem? (i := 566) rfl, rfl⟩
set_option maxRecDepth 100000 in
theorem zk_X1_weighWay : Cond.code yX1_weighWay cX1_weighWay 4 none ∈ TT := List.mem_filter.mpr ⟨List.mem_of_getElem? (i := 628) rfl, rfl⟩
set_option maxRecDepth 100000 in
theorem zk_X3_waitsFor : Cond.code yX3_waitsFor cX3_waitsFor 3 (some .boolean) ∈ TT := List.mem_filter.mpr ⟨List.mem_of_getElem? (i := 465) rfl, rfl⟩
set_option maxRecDepth 100000 in
theorem zk_X6_add : Cond.code yX6_add cX6_add 2 (some .boolean) ∈ TT := List.mem_filter.mpr ⟨List.mem_of_getElem? (i := 760) rfl, rfl⟩
set_option maxRecDepth 100000 in
theorem zk_X6_deal : Cond.code yX6_deal cX6_deal 6 (some .boolean) ∈ TT := List.mem_filter.mpr ⟨List.mem_of_getElem? (i := 383) rfl, rfl⟩
set_option maxRecDepth 100000 in
theorem zk_X6_makeFour : Cond.code yX6_makeFour cX6_makeFour 2 none ∈ TT := List.mem_filter.mpr ⟨List.mem_of_getElem? (i := 700) rfl, rfl⟩
set_option maxRecDepth 100000 in
theorem zk_X6_nine : Cond.code yX6_nine cX6_nine 1 (some .boolean) ∈ TT := List.mem_filter.mpr ⟨List.mem_of_getElem? (i := 777) rfl, rfl⟩
set_option maxRecDepth 100000 in
theorem zk_X7_firstSort : Cond.code yX7_firstSort cX7_firstSort 14 none ∈ TT := List.mem_filter.mpr ⟨List.mem_of_getElem? (i := 1221) rfl, rfl⟩
set_option maxRecDepth 100000 in
theorem zk_X7_pairsWay : Cond.code yX7_pairsWay cX7_pairsWay 1 none ∈ TT := List.mem_filter.mpr ⟨List.mem_of_getElem? (i := 1281) rfl, rfl⟩
set_option maxRecDepth 100000 in
theorem zk_X1_judge : Cond.code yX1_judge cX1_judge 11 none ∈ TT := List.mem_filter.mpr ⟨List.mem_of_getElem? (i := 551) rfl, rfl⟩
set_option maxRecDepth 100000 in
theorem zk_X3_waiting : Cond.code yX3_waiting cX3_waiting 4 (some .long) ∈ TT := List.mem_filter.mpr ⟨List.mem_of_getElem? (i := 461) rfl, rfl⟩
set_option maxRecDepth 100000 in
theorem zk_X6_hide : Cond.code yX6_hide cX6_hide 2 (some .boolean) ∈ TT := List.mem_filter.mpr ⟨List.mem_of_getElem? (i := 752) rfl, rfl⟩
set_option maxRecDepth 100000 in
theorem zk_X6_letTileGo : Cond.code yX6_letTileGo cX6_letTileGo 3 none ∈ TT := List.mem_filter.mpr ⟨List.mem_of_getElem? (i := 695) rfl, rfl⟩
set_option maxRecDepth 100000 in
theorem zk_X7_way : Cond.code yX7_way cX7_way 5 none ∈ TT := List.mem_filter.mpr ⟨List.mem_of_getElem? (i := 1217) rfl, rfl⟩
set_option maxRecDepth 100000 in
theorem zk_X6_deskWaits : Cond.code yX6_deskWaits cX6_deskWaits 1 (some .long) ∈ TT := List.mem_filter.mpr ⟨List.mem_of_getElem? (i := 850) rfl, rfl⟩
set_option maxRecDepth 100000 in
theorem zk_X6_endUnwon : Cond.code yX6_endUnwon cX6_endUnwon 6 none ∈ TT := List.mem_filter.mpr ⟨List.mem_of_getElem? (i := 708) rfl, rfl⟩
set_option maxRecDepth 100000 in
theorem zk_X6_mayBet : Cond.code yX6_mayBet cX6_mayBet 2 (some .boolean) ∈ TT := List.mem_filter.mpr ⟨List.mem_of_getElem? (i := 449) rfl, rfl⟩
set_option maxRecDepth 100000 in
theorem zk_X6_takeSet : Cond.code yX6_takeSet cX6_takeSet 5 none ∈ TT := List.mem_filter.mpr ⟨List.mem_of_getElem? (i := 733) rfl, rfl⟩
set_option maxRecDepth 100000 in
theorem zk_X6_waits : Cond.code yX6_waits cX6_waits 2 (some .long) ∈ TT := List.mem_filter.mpr ⟨List.mem_of_getElem? (i := 792) rfl, rfl⟩
set_option maxRecDepth 100000 in
theorem zk_X6_weighHand : Cond.code yX6_weighHand cX6_weighHand 7 (some .int) ∈ TT := List.mem_filter.mpr ⟨List.mem_of_getElem? (i := 514) rfl, rfl⟩
set_option maxRecDepth 100000 in
theorem zk_X6_worth : Cond.code yX6_worth cX6_worth 7 (some .int) ∈ TT := List.mem_filter.mpr ⟨List.mem_of_getElem? (i := 838) rfl, rfl⟩
set_option maxRecDepth 100000 in
theorem zk_X7_sets : Cond.code yX7_sets cX7_sets 7 none ∈ TT := List.mem_filter.mpr ⟨List.mem_of_getElem? (i := 1213) rfl, rfl⟩
set_option maxRecDepth 100000 in
theorem zk_X6_claim : Cond.code yX6_claim cX6_claim 5 (some .boolean) ∈ TT := List.mem_filter.mpr ⟨List.mem_of_getElem? (i := 773) rfl, rfl⟩
set_option maxRecDepth 100000 in
theorem zk_X6_discard : Cond.code yX6_discard cX6_discard 4 (some .boolean) ∈ TT := List.mem_filter.mpr ⟨List.mem_of_getElem? (i := 429) rfl, rfl⟩
set_option maxRecDepth 100000 in
theorem zk_X6_four : Cond.code yX6_four cX6_four 2 (some .boolean) ∈ TT := List.mem_filter.mpr ⟨List.mem_of_getElem? (i := 748) rfl, rfl⟩
set_option maxRecDepth 100000 in
theorem zk_X6_run : Cond.code yX6_run cX6_run 6 (some .boolean) ∈ TT := List.mem_filter.mpr ⟨List.mem_of_getElem? (i := 712) rfl, rfl⟩
set_option maxRecDepth 100000 in
theorem zk_X6_three : Cond.code yX6_three cX6_three 4 (some .boolean) ∈ TT := List.mem_filter.mpr ⟨List.mem_of_getElem? (i := 744) rfl, rfl⟩
set_option maxRecDepth 100000 in
theorem zk_X6_win : Cond.code yX6_win cX6_win 6 (some .boolean) ∈ TT := List.mem_filter.mpr ⟨List.mem_of_getElem? (i := 769) rfl, rfl⟩
set_option maxRecDepth 100000 in
theorem zk_X6_winByTile : Cond.code yX6_winByTile cX6_winByTile 7 none ∈ TT := List.mem_filter.mpr ⟨List.mem_of_getElem? (i := 510) rfl, rfl⟩
set_option maxRecDepth 100000 in
theorem zk_X7_apart : Cond.code yX7_apart cX7_apart 6 none ∈ TT := List.mem_filter.mpr ⟨List.mem_of_getElem? (i := 1209) rfl, rfl⟩
set_option maxRecDepth 100000 in
theorem zk_X6_pass : Cond.code yX6_pass cX6_pass 1 (some .boolean) ∈ TT := List.mem_filter.mpr ⟨List.mem_of_getElem? (i := 502) rfl, rfl⟩
set_option maxRecDepth 100000 in
theorem zk_X7_reckon : Cond.code yX7_reckon cX7_reckon 9 none ∈ TT := List.mem_filter.mpr ⟨List.mem_of_getElem? (i := 1316) rfl, rfl⟩
set_option maxRecDepth 100000 in
theorem zk_X7_waitsOf : Cond.code yX7_waitsOf cX7_waitsOf 5 (some .long) ∈ TT := List.mem_filter.mpr ⟨List.mem_of_getElem? (i := 1194) rfl, rfl⟩
set_option maxRecDepth 100000 in
theorem zk_X7_deskWaits : Cond.code yX7_deskWaits cX7_deskWaits 1 (some .long) ∈ TT := List.mem_filter.mpr ⟨List.mem_of_getElem? (i := 1475) rfl, rfl⟩
set_option maxRecDepth 100000 in
theorem zk_X7_value : Cond.code yX7_value cX7_value 6 none ∈ TT := List.mem_filter.mpr ⟨List.mem_of_getElem? (i := 1301) rfl, rfl⟩
set_option maxRecDepth 100000 in
theorem zk_X7_waitsAt : Cond.code yX7_waitsAt cX7_waitsAt 2 (some .long) ∈ TT := List.mem_filter.mpr ⟨List.mem_of_getElem? (i := 1186) rfl, rfl⟩
set_option maxRecDepth 100000 in
theorem zk_X7_worth : Cond.code yX7_worth cX7_worth 9 (some .int) ∈ TT := List.mem_filter.mpr ⟨List.mem_of_getElem? (i := 1458) rfl, rfl⟩
set_option maxRecDepth 100000 in
theorem zk_X7_allWin : Cond.code yX7_allWin cX7_allWin 5 none ∈ TT := List.mem_filter.mpr ⟨List.mem_of_getElem? (i := 1297) rfl, rfl⟩
set_option maxRecDepth 100000 in
theorem zk_X7_claim : Cond.code yX7_claim cX7_claim 5 (some .boolean) ∈ TT := List.mem_filter.mpr ⟨List.mem_of_getElem? (i := 1398) rfl, rfl⟩
set_option maxRecDepth 100000 in
theorem zk_X7_discard : Cond.code yX7_discard cX7_discard 5 (some .boolean) ∈ TT := List.mem_filter.mpr ⟨List.mem_of_getElem? (i := 1167) rfl, rfl⟩
set_option maxRecDepth 100000 in
theorem zk_X7_nobodyWins : Cond.code yX7_nobodyWins cX7_nobodyWins 4 none ∈ TT := List.mem_filter.mpr ⟨List.mem_of_getElem? (i := 1347) rfl, rfl⟩
set_option maxRecDepth 100000 in
theorem zk_X7_over : Cond.code yX7_over cX7_over 2 none ∈ TT := List.mem_filter.mpr ⟨List.mem_of_getElem? (i := 1339) rfl, rfl⟩
set_option maxRecDepth 100000 in
theorem zk_X7_waits : Cond.code yX7_waits cX7_waits 2 (some .long) ∈ TT := List.mem_filter.mpr ⟨List.mem_of_getElem? (i := 1418) rfl, rfl⟩
set_option maxRecDepth 100000 in
theorem zk_X7_win : Cond.code yX7_win cX7_win 4 (some .boolean) ∈ TT := List.mem_filter.mpr ⟨List.mem_of_getElem? (i := 1394) rfl, rfl⟩
set_option maxRecDepth 100000 in
theorem zk_X7_four : Cond.code yX7_four cX7_four 2 (some .boolean) ∈ TT := List.mem_filter.mpr ⟨List.mem_of_getElem? (i := 1378) rfl, rfl⟩
set_option maxRecDepth 100000 in
theorem zk_X7_pass : Cond.code yX7_pass cX7_pass 2 (some .boolean) ∈ TT := List.mem_filter.mpr ⟨List.mem_of_getElem? (i := 1289) rfl, rfl⟩
set_option maxRecDepth 100000 in
theorem zk_X7_run : Cond.code yX7_run cX7_run 5 (some .boolean) ∈ TT := List.mem_filter.mpr ⟨List.mem_of_getElem? (i := 1351) rfl, rfl⟩
set_option maxRecDepth 100000 in
theorem zk_X7_three : Cond.code yX7_three cX7_three 3 (some .boolean) ∈ TT := List.mem_filter.mpr ⟨List.mem_of_getElem? (i := 1374) rfl, rfl⟩

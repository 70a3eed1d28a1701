/-! the tables of the small machine are the program's: links, codes, words -/
noncomputable def TT : List Cond := lw_tbl.filter goodWord
theorem lwm_1 {w : Cond} (h : w ∈ tables_1_1) : w ∈ lw_tbl := by
  show w ∈ k2_sels lw_privs ++ (tables_1_1 ++ (tables_1_2 ++ (tables_1_3 ++ (tables_1_4 ++ (tables_1_5 ++ tables_1_6)))))
  exact List.mem_append_right _ (List.mem_append_left _ h)
theorem lwm_2 {w : Cond} (h : w ∈ tables_1_2) : w ∈ lw_tbl := by
  show w ∈ k2_sels lw_privs ++ (tables_1_1 ++ (tables_1_2 ++ (tables_1_3 ++ (tables_1_4 ++ (tables_1_5 ++ tables_1_6)))))
  exact List.mem_append_right _ (List.mem_append_right _ (List.mem_append_left _ h))
theorem lwm_3 {w : Cond} (h : w ∈ tables_1_3) : w ∈ lw_tbl := by
  show w ∈ k2_sels lw_privs ++ (tables_1_1 ++ (tables_1_2 ++ (tables_1_3 ++ (tables_1_4 ++ (tables_1_5 ++ tables_1_6)))))
  exact List.mem_append_right _ (List.mem_append_right _ (List.mem_append_right _ (List.mem_append_left _ h)))
theorem lwm_4 {w : Cond} (h : w ∈ tables_1_4) : w ∈ lw_tbl := by
  show w ∈ k2_sels lw_privs ++ (tables_1_1 ++ (tables_1_2 ++ (tables_1_3 ++ (tables_1_4 ++ (tables_1_5 ++ tables_1_6)))))
  exact List.mem_append_right _ (List.mem_append_right _ (List.mem_append_right _ (List.mem_append_right _ (List.mem_append_left _ h))))
theorem lwm_5 {w : Cond} (h : w ∈ tables_1_5) : w ∈ lw_tbl := by
  show w ∈ k2_sels lw_privs ++ (tables_1_1 ++ (tables_1_2 ++ (tables_1_3 ++ (tables_1_4 ++ (tables_1_5 ++ tables_1_6)))))
  exact List.mem_append_right _ (List.mem_append_right _ (List.mem_append_right _ (List.mem_append_right _ (List.mem_append_right _ (List.mem_append_left _ h)))))
theorem lwm_6 {w : Cond} (h : w ∈ tables_1_6) : w ∈ lw_tbl := by
  show w ∈ k2_sels lw_privs ++ (tables_1_1 ++ (tables_1_2 ++ (tables_1_3 ++ (tables_1_4 ++ (tables_1_5 ++ tables_1_6)))))
  exact List.mem_append_right _ (List.mem_append_right _ (List.mem_append_right _ (List.mem_append_right _ (List.mem_append_right _ (List.mem_append_right _ h)))))
noncomputable def z_bks : List (List Cond) := [tables_1_1, tables_1_2, tables_1_3, tables_1_4, tables_1_5, tables_1_6]
theorem z_bk_get (n : Nat) : ∀ w ∈ z_bks.getD n [], w ∈ lw_tbl := by
  match n with
  | 0 => exact fun w h => lwm_1 h
  | 1 => exact fun w h => lwm_2 h
  | 2 => exact fun w h => lwm_3 h
  | 3 => exact fun w h => lwm_4 h
  | 4 => exact fun w h => lwm_5 h
  | 5 => exact fun w h => lwm_6 h
  | n + 6 =>
    intro w h
    have h : w ∈ ([] : List Cond) := h
    cases h
noncomputable def z_at (i : Nat) : Option Cond := bif Nat.blt i 88 then (k2_sels lw_privs)[i]? else (z_bks.getD ((i - 88) / 240) [])[(i - 88) % 240]?
theorem z_at_in {i : Nat} {w : Cond} (h : z_at i = some w) : w ∈ lw_tbl := by
  unfold z_at at h
  cases hb : Nat.blt i 88 with
  | true =>
    rw [hb, cond_true] at h
    show w ∈ k2_sels lw_privs ++ tables_1
    exact List.mem_append_left _ (List.mem_of_getElem? h)
  | false =>
    rw [hb, cond_false] at h
    exact z_bk_get _ w (List.mem_of_getElem? h)
noncomputable def z_hs (i : Nat) (w : Cond) : Bool := decide (z_at i = some w) && goodWord w
theorem z_tt {i : Nat} {w : Cond} (h : z_hs i w = true) : w ∈ TT := by
  unfold z_hs at h
  rw [Bool.and_eq_true, decide_eq_true_iff] at h
  exact List.mem_filter.mpr ⟨z_at_in h.1, h.2⟩
theorem in_rz (ws : List Cond) (ps : List Nat) (hp : ws = ps.filterMap z_at) : ∀ w ∈ ws, w ∈ lw_tbl := by
  intro w hw
  rw [hp] at hw
  obtain ⟨i, -, e⟩ := List.mem_filterMap.mp hw
  exact z_at_in e
theorem TT_good : ∀ w ∈ TT, goodWord w = true := fun w h => (List.mem_filter.mp h).2
noncomputable def z_owns : List String := [RX0, RX1, RX2, RX3, RX4, RX5, RX6, RX7, RJ13, RL]
noncomputable def z_own (oc : Nat) : String := z_owns.getD oc ""
noncomputable def z_ys : List MethodName := [yX0_baseOf, yX0_hanOf, yX1_bit, yX1_chosenThrees, yX1_findThrees, yX1_isBetter, yX1_isHidden, yX1_mayHaveCompleted, yX1_pairFu, yX1_toldOnes, yX1_waitFu, yX2_throwTile, yX2_thrown, yX3_empty, yX3_isOpen, yX3_isSevenPairs, yX3_kinds, yX3_size, yX4_behind, yX4_build, yX4_kindAt, yX4_left, yX4_signs, yX5_part, yX6_at, yX6_desk, yX6_deskForms, yX6_holds, yX6_hundreds, yX6_isKind, yX6_isSeat, yX6_isWin, yX6_recordWin, yX6_startsRun, yX6_tilesOfEach, yX6_windOf, yX7_anySays, yX7_behind, yX7_bit, yX7_clear, yX7_desk, yX7_deskForms, yX7_ends, yX7_forms, yX7_gives, yX7_han, yX7_has, yX7_hasRun, yX7_hasThree, yX7_has_, yX7_inHand, yX7_isDragon, yX7_isHidden, yX7_isHonour, yX7_isKind, yX7_isOpen, yX7_isOpen_, yX7_isRun, yX7_isSeat, yX7_isTerminal, yX7_lays, yX7_left, yX7_nothing, yX7_pays, yX7_takeDesk, yX7_takesBets, yX7_touched, yX7_up, yX7_wall, yX7_windOf, yX7_won, yX7_writes, yJ13_bitCount_95d88, yX1_endForms, yX1_fillWay, yX1_fuOf, yX1_likeRuns, yX1_offer, yX1_setForms, yX2_startHand, yX3_all, yX3_free, yX3_isThirteen, yX3_layDown, yX3_put, yX3_splitsBeside, yX4_draw, yX4_drawBehindFour, yX6_breakHand, yX6_clear, yX6_count, yX6_firstDraw, yX6_forms, yX6_keepsOther, yX6_laid, yX6_mayMakeFour, yX6_otherEnd, yX6_richest, yX6_seat, yX6_someoneIsBroke, yX6_someoneSays, yX6_toldForms, yX6_won, yX7_canDiscard, yX7_claims, yX7_compare, yX7_count, yX7_draws, yX7_hand, yX7_isEnd, yX7_laid, yX7_mayClaim, yX7_mayMake, yX7_of, yX7_river, yX7_seat, yX7_take, yX7_twins, yX1_isNineGates, yX1_weighCompleted, yX3_addToThree, yX3_isSetsAndPair, yX3_take, yX4_dearTiles, yX6_drawTile, yX6_endHand, yX6_hand, yX6_lay, yX6_mayClaimSet, yX6_mayThrow, yX6_set, yX7_add, yX7_deal, yX7_dearTiles, yX7_edges, yX7_hide, yX7_lay, yX7_nine, yX7_set, yX7_thirteen, yX7_tiles, yX1_tileForms, yX1_weighWay, yX3_waitsFor, yX6_add, yX6_deal, yX6_makeFour, yX6_nine, yX7_firstSort, yX7_pairsWay, yX1_judge, yX3_waiting, yX6_hide, yX6_letTileGo, yX7_way, yX6_deskWaits, yX6_endUnwon, yX6_mayBet, yX6_takeSet, yX6_waits, yX6_weighHand, yX6_worth, yX7_sets, yX6_claim, yX6_discard, yX6_four, yX6_run, yX6_three, yX6_win, yX6_winByTile, yX7_apart, yX6_pass, yX7_reckon, yX7_waitsOf, yX7_deskWaits, yX7_value, yX7_waitsAt, yX7_worth, yX7_allWin, yX7_claim, yX7_discard, yX7_nobodyWins, yX7_over, yX7_waits, yX7_win, yX7_four, yX7_pass, yX7_run, yX7_three, yL_law]
noncomputable def z_y (j : Nat) : MethodName := z_ys.getD j objectInit
noncomputable def z_ccs : List ByteArray := [cX0_baseOf, cX0_hanOf, cX1_bit, cX1_chosenThrees, cX1_findThrees, cX1_isBetter, cX1_isHidden, cX1_mayHaveCompleted, cX1_pairFu, cX1_toldOnes, cX1_waitFu, cX2_throwTile, cX2_thrown, cX3_empty, cX3_isOpen, cX3_isSevenPairs, cX3_kinds, cX3_size, cX4_behind, cX4_build, cX4_kindAt, cX4_left, cX4_signs, cX5_part, cX6_at, cX6_desk, cX6_deskForms, cX6_holds, cX6_hundreds, cX6_isKind, cX6_isSeat, cX6_isWin, cX6_recordWin, cX6_startsRun, cX6_tilesOfEach, cX6_windOf, cX7_anySays, cX7_behind, cX7_bit, cX7_clear, cX7_desk, cX7_deskForms, cX7_ends, cX7_forms, cX7_gives, cX7_han, cX7_has, cX7_hasRun, cX7_hasThree, cX7_has_, cX7_inHand, cX7_isDragon, cX7_isHidden, cX7_isHonour, cX7_isKind, cX7_isOpen, cX7_isOpen_, cX7_isRun, cX7_isSeat, cX7_isTerminal, cX7_lays, cX7_left, cX7_nothing, cX7_pays, cX7_takeDesk, cX7_takesBets, cX7_touched, cX7_up, cX7_wall, cX7_windOf, cX7_won, cX7_writes, cJ13_bitCount_95d88, cX1_endForms, cX1_fillWay, cX1_fuOf, cX1_likeRuns, cX1_offer, cX1_setForms, cX2_startHand, cX3_all, cX3_free, cX3_isThirteen, cX3_layDown, cX3_put, cX3_splitsBeside, cX4_draw, cX4_drawBehindFour, cX6_breakHand, cX6_clear, cX6_count, cX6_firstDraw, cX6_forms, cX6_keepsOther, cX6_laid, cX6_mayMakeFour, cX6_otherEnd, cX6_richest, cX6_seat, cX6_someoneIsBroke, cX6_someoneSays, cX6_toldForms, cX6_won, cX7_canDiscard, cX7_claims, cX7_compare, cX7_count, cX7_draws, cX7_hand, cX7_isEnd, cX7_laid, cX7_mayClaim, cX7_mayMake, cX7_of, cX7_river, cX7_seat, cX7_take, cX7_twins, cX1_isNineGates, cX1_weighCompleted, cX3_addToThree, cX3_isSetsAndPair, cX3_take, cX4_dearTiles, cX6_drawTile, cX6_endHand, cX6_hand, cX6_lay, cX6_mayClaimSet, cX6_mayThrow, cX6_set, cX7_add, cX7_deal, cX7_dearTiles, cX7_edges, cX7_hide, cX7_lay, cX7_nine, cX7_set, cX7_thirteen, cX7_tiles, cX1_tileForms, cX1_weighWay, cX3_waitsFor, cX6_add, cX6_deal, cX6_makeFour, cX6_nine, cX7_firstSort, cX7_pairsWay, cX1_judge, cX3_waiting, cX6_hide, cX6_letTileGo, cX7_way, cX6_deskWaits, cX6_endUnwon, cX6_mayBet, cX6_takeSet, cX6_waits, cX6_weighHand, cX6_worth, cX7_sets, cX6_claim, cX6_discard, cX6_four, cX6_run, cX6_three, cX6_win, cX6_winByTile, cX7_apart, cX6_pass, cX7_reckon, cX7_waitsOf, cX7_deskWaits, cX7_value, cX7_waitsAt, cX7_worth, cX7_allWin, cX7_claim, cX7_discard, cX7_nobodyWins, cX7_over, cX7_waits, cX7_win, cX7_four, cX7_pass, cX7_run, cX7_three, cL_law]
noncomputable def z_cc (j : Nat) : ByteArray := z_ccs.getD j ⟨#[]⟩
noncomputable def z_mt (j : Nat) : Nat × Nat × Nat × Nat := z_mets.getD j (0, 0, 9, 0)
noncomputable def z_oc (j : Nat) : Nat := (z_mt j).1
noncomputable def z_ml (j : Nat) : Nat := (z_mt j).2.1
noncomputable def z_rk (j : Nat) : Nat := (z_mt j).2.2.1
noncomputable def z_al (j : Nat) : Nat := (z_mt j).2.2.2
noncomputable def z_rt (j : Nat) : Option FieldType := match z_rk j with | 0 => none | 1 => some .int | 2 => some .long | 3 => some .boolean | _ => some (.object "TileHouse$Seat")
noncomputable def z_ws (j : Nat) : List Cond := .code (z_y j) (z_cc j) (z_ml j) (z_rt j) :: TT
noncomputable def z_lh0 : List Nat := [164, 166, 168, 170, 172, 174, 176, 178, 180, 182, 184, 186, 188, 190, 192, 194, 196, 198, 200]
set_option maxRecDepth 100000 in
theorem z_lay0 : (List.range 19).all (fun k => z_hs (z_lh0.getD k 0) (u_lay RX1 TX1 k) && decide ((TX1 k).1 = RX1)) = true := by decide +kernel
noncomputable def z_lh1 : List Nat := [264, 266, 268, 270, 272, 274, 276, 278, 280, 282]
set_option maxRecDepth 100000 in
theorem z_lay1 : (List.range 10).all (fun k => z_hs (z_lh1.getD k 0) (u_lay RX2 TX2 k) && decide ((TX2 k).1 = RX2)) = true := by decide +kernel
noncomputable def z_lh2 : List Nat := [225, 227, 229, 231, 233, 235]
set_option maxRecDepth 100000 in
theorem z_lay2 : (List.range 6).all (fun k => z_hs (z_lh2.getD k 0) (u_lay RX3 TX3 k) && decide ((TX3 k).1 = RX3)) = true := by decide +kernel
noncomputable def z_lh3 : List Nat := [124, 126, 128, 130]
set_option maxRecDepth 100000 in
theorem z_lay3 : (List.range 4).all (fun k => z_hs (z_lh3.getD k 0) (u_lay RX4 TX4 k) && decide ((TX4 k).1 = RX4)) = true := by decide +kernel
noncomputable def z_lh4 : List Nat := [305, 307, 309, 311, 313, 315, 317, 319]
set_option maxRecDepth 100000 in
theorem z_lay4 : (List.range 8).all (fun k => z_hs (z_lh4.getD k 0) (u_lay RX5 TX5 k) && decide ((TX5 k).1 = RX5)) = true := by decide +kernel
noncomputable def z_lh5 : List Nat := [341, 343, 345, 347, 349, 351, 353, 355, 357, 359, 361, 363, 365, 367, 369, 371, 373, 375, 377]
set_option maxRecDepth 100000 in
theorem z_lay5 : (List.range 19).all (fun k => z_hs (z_lh5.getD k 0) (u_lay RX6 TX6 k) && decide ((TX6 k).1 = RX6)) = true := by decide +kernel
noncomputable def z_lh6 : List Nat := [1011, 1013, 1015, 1017, 1019, 1021, 1023, 1025, 1027, 1029, 1031, 1033, 1035, 1037, 1039, 1041, 1043, 1045, 1047, 1049, 1051, 1053, 1055, 1057, 1059, 1061, 1063, 1065, 1067, 1069, 1071, 1073, 1075, 1077, 1079, 1081, 1083, 1085, 1087, 1089, 1091, 1093, 1095, 1097, 1099, 1101, 1103, 1105, 1107, 1109, 1111, 1113, 1115, 1117, 1119, 1121, 1123, 1125, 1127, 1129, 1131, 1133, 1135, 1137, 1139, 1141, 1143, 1145]
set_option maxRecDepth 100000 in
theorem z_lay6 : (List.range 68).all (fun k => z_hs (z_lh6.getD k 0) (u_lay RX7 TX7 k) && decide ((TX7 k).1 = RX7)) = true := by decide +kernel
theorem z_lay_in {C : String} {T : u_T} {N : Nat} {h : Nat → Nat} (hh : (List.range N).all (fun k => z_hs (h k) (u_lay C T k) && decide ((T k).1 = C)) = true) : (∀ w ∈ u_ws C T N, w ∈ TT) ∧ ∀ k, k < N → (T k).1 = C := by
  rw [List.all_eq_true] at hh
  refine ⟨fun w hw => ?_, fun k hk => ?_⟩
  · obtain ⟨k, hk, rfl⟩ := List.mem_map.mp hw
    have := hh k hk
    rw [Bool.and_eq_true] at this
    exact z_tt this.1
  · have := hh k (List.mem_range.mpr hk)
    rw [Bool.and_eq_true, decide_eq_true_iff] at this
    exact this.2
noncomputable def z_ty (ci : Nat) : Nat → FieldType := match ci with | 0 => tyX1 | 1 => tyX2 | 2 => tyX3 | 3 => tyX4 | 4 => tyX5 | 5 => tyX6 | _ => tyX7
noncomputable def z_clok (ci : Nat) (q : vw_C) : Prop := (∀ w ∈ u_ws q.1 q.2.1 q.2.2, w ∈ TT) ∧ (∀ k, k < q.2.2 → (q.2.1 k).1 = q.1) ∧ (∀ k, k < q.2.2 → parseFieldDescriptor (q.2.1 k).2.2.1 = some (z_ty ci k)) ∧ ∀ a, a < q.2.2 → ∀ b, b < q.2.2 → a ≠ b → (q.2.1 a).2.1 ≠ (q.2.1 b).2.1
theorem z_cl_ok {ci : Nat} {q : vw_C} (h : vwCl[ci]? = some q) : z_clok ci q := by
  match ci, h with
  | 0, h => cases h; exact ⟨(z_lay_in z_lay0).1, (z_lay_in z_lay0).2, tyX1_ok, nmX1⟩
  | 1, h => cases h; exact ⟨(z_lay_in z_lay1).1, (z_lay_in z_lay1).2, tyX2_ok, nmX2⟩
  | 2, h => cases h; exact ⟨(z_lay_in z_lay2).1, (z_lay_in z_lay2).2, tyX3_ok, nmX3⟩
  | 3, h => cases h; exact ⟨(z_lay_in z_lay3).1, (z_lay_in z_lay3).2, tyX4_ok, nmX4⟩
  | 4, h => cases h; exact ⟨(z_lay_in z_lay4).1, (z_lay_in z_lay4).2, tyX5_ok, nmX5⟩
  | 5, h => cases h; exact ⟨(z_lay_in z_lay5).1, (z_lay_in z_lay5).2, tyX6_ok, nmX6⟩
  | 6, h => cases h; exact ⟨(z_lay_in z_lay6).1, (z_lay_in z_lay6).2, tyX7_ok, nmX7⟩
  | n + 7, h => cases h
noncomputable def z_fhs : List (List (Nat × Nat)) := [[], [(9, 158), (15, 159), (18, 163), (21, 140), (25, 142), (28, 144), (31, 146), (35, 148), (48, 150), (52, 151), (55, 152), (63, 153), (66, 154), (69, 155), (72, 156), (86, 157), (105, 160), (108, 212), (151, 222), (154, 216), (155, 219), (164, 161), (167, 162)], [(12, 245), (18, 247), (29, 248), (32, 250), (36, 254), (39, 256), (43, 258), (46, 260), (49, 262)], [(9, 211), (15, 214), (18, 215), (21, 218), (24, 221), (28, 224)], [(11, 119), (19, 120), (23, 121), (27, 122)], [(9, 290), (15, 292), (18, 294), (21, 296), (24, 298), (27, 300), (30, 302)], [(11, 322), (18, 323), (25, 324), (31, 325), (38, 326), (42, 327), (45, 329), (49, 337), (54, 335), (62, 331), (72, 246), (83, 328), (86, 339), (97, 330), (107, 249), (110, 255), (113, 257), (116, 259), (123, 340), (153, 213), (175, 123), (191, 334), (194, 141), (200, 333), (203, 253), (216, 263), (219, 261), (230, 251), (244, 223), (247, 217), (250, 220), (275, 304), (278, 332), (284, 336), (307, 143), (310, 145), (313, 149), (316, 147), (319, 338), (360, 291), (363, 293), (366, 295), (367, 297), (368, 299), (369, 301), (372, 303)], [(9, 944), (13, 945), (16, 946), (19, 948), (22, 949), (25, 962), (28, 963), (31, 969), (34, 970), (37, 971), (40, 972), (43, 973), (46, 974), (49, 975), (52, 976), (55, 977), (58, 978), (61, 979), (64, 980), (68, 981), (71, 982), (74, 992), (78, 993), (81, 994), (84, 1003), (87, 1004), (91, 1005), (94, 1006), (97, 1007), (100, 1008), (103, 943), (113, 961), (117, 959), (120, 956), (123, 957), (126, 958), (129, 960), (137, 947), (160, 964), (163, 950), (170, 965), (176, 954), (189, 951), (192, 952), (195, 967), (198, 968), (220, 966), (231, 955), (238, 953), (250, 990), (253, 989), (265, 983), (274, 1001), (277, 987), (280, 999), (286, 984), (297, 991), (304, 988), (307, 1000), (310, 997), (317, 996), (320, 1002), (323, 998), (337, 986), (384, 985), (397, 995), (400, 1009), (411, 1010)], [], []]
/-- the kind of a field as the tables of the small machine have it -/
noncomputable def z_kok (ty : FieldType) (fin : Bool) (k : Nat) : Bool := match ty, k with
  | .int, 0 => !fin
  | .long, 1 => !fin
  | .boolean, 2 => !fin
  | .object _, 3 => fin
  | .array _, 3 => fin
  | .object _, 4 => !fin
  | _, _ => false
noncomputable def z_fok (oc : Nat) (q : Nat × Nat × Nat) : Bool := match vwCl[q.2.1]?, z_lk (z_fhs.getD oc []) q.1 with
  | some (C, T, N), some h => Nat.blt q.2.2 N && (z_hs h (.fieldLink (z_own oc) q.1 C (T q.2.2).2.1 (T q.2.2).2.2.1) && z_kok (z_ty q.2.1 q.2.2) (T q.2.2).2.2.2 (z_fk q.2.1 q.2.2))
  | _, _ => false
set_option maxRecDepth 100000 in
theorem z_flds_ok : (List.range 10).all (fun oc => (z_flds.getD oc []).all (z_fok oc)) = true := by decide +kernel
noncomputable def z_lhs : List (List (Nat × Nat)) := [[], [(94, 582), (103, 610), (124, 559), (126, 560), (128, 561), (130, 567), (132, 568), (134, 569), (140, 573), (142, 574), (144, 575), (146, 576), (185, 637), (187, 638), (195, 639), (197, 644), (199, 645), (221, 587), (223, 588)], [], [(69, 482)], [(15, 388), (17, 389)], [], [(161, 725), (163, 726), (236, 779), (348, 519), (350, 520), (352, 521), (354, 522), (356, 523), (358, 524)], [(313, 1154), (315, 1155), (406, 1459)], [(314, 592), (316, 593), (318, 594)], [(23, 1476)]]
noncomputable def z_lok (oc : Nat) (q : Nat × Int64) : Bool := match z_lk (z_lhs.getD oc []) q.1 with
  | some h => z_hs h (.constantLong (z_own oc) q.1 q.2)
  | none => false
set_option maxRecDepth 100000 in
theorem z_lons_ok : (List.range 10).all (fun oc => (z_lons.getD oc []).all (z_lok oc)) = true := by decide +kernel
noncomputable def z_shh : List (List (Nat × Nat)) := [[(9, 598), (13, 600)], [], [], [], [], [], [], [], [], []]
noncomputable def z_sn (r : Nat) : String := bif Nat.beq r 101 then "HAN" else "OPEN_HAN"
noncomputable def z_sok (oc : Nat) (q : Nat × Nat) : Bool := match z_lk (z_shh.getD oc []) q.1 with
  | some h => z_hs h (.fieldLink (z_own oc) q.1 RX0 (z_sn q.2) "[I") && (Nat.beq q.2 101 || Nat.beq q.2 102)
  | none => false
theorem z_stas_ok : (List.range 10).all (fun oc => (z_stas.getD oc []).all (z_sok oc)) = true := by decide +kernel
theorem z_m_max : Cond.static Lib.Math.max.name ∈ TT := z_tt (i := 671) (by decide +kernel)
theorem z_mc_max : Cond.code Lib.Math.max.name Lib.Math.max.code 2 (some .int) ∈ TT := z_tt (i := 672) (by decide +kernel)
theorem z_m_min : Cond.static Lib.Math.min.name ∈ TT := z_tt (i := 1273) (by decide +kernel)
theorem z_mc_min : Cond.code Lib.Math.min.name Lib.Math.min.code 2 (some .int) ∈ TT := z_tt (i := 1274) (by decide +kernel)
theorem z_m_ini : Cond.initialized "java/lang/Math" ∈ TT := z_tt (i := 96) (by decide +kernel)
theorem z_ml_max : Cond.methodLink RX1 215 Lib.Math.max.name ∈ TT := z_tt (i := 670) (by decide +kernel)
theorem z_ml_min : Cond.methodLink RX7 241 Lib.Math.min.name ∈ TT := z_tt (i := 1272) (by decide +kernel)
noncomputable def z_chs : List (List (Nat × Nat × Nat × Nat × Nat)) := [[], [(38, 552, 467, 468, 92), (44, 553, 435, 436, 92), (59, 554, 451, 452, 92), (75, 555, 557, 12, 91), (79, 562, 479, 480, 92), (83, 563, 565, 13, 91), (89, 581, 471, 472, 92), (96, 583, 585, 15, 91), (100, 609, 475, 476, 92), (110, 611, 613, 17, 91), (113, 615, 617, 18, 91), (117, 619, 621, 19, 91), (121, 625, 627, 20, 91), (136, 570, 571, 0, 91), (148, 577, 579, 14, 91), (156, 0, 439, 0, 89), (160, 0, 492, 0, 89), (170, 629, 631, 21, 91), (173, 633, 635, 22, 91), (176, 640, 642, 23, 91), (179, 646, 648, 24, 91), (182, 650, 652, 25, 91), (189, 589, 590, 0, 97), (201, 654, 656, 26, 91), (205, 658, 660, 27, 91), (208, 662, 664, 28, 91), (211, 666, 668, 29, 91), (225, 595, 596, 0, 98), (229, 602, 603, 0, 98), (232, 605, 607, 16, 91)], [(26, 398, 399, 400, 92)], [(31, 0, 411, 0, 89), (35, 445, 407, 408, 92), (39, 0, 739, 0, 89), (43, 765, 435, 436, 92), (45, 462, 463, 464, 92), (48, 466, 467, 468, 92), (52, 470, 471, 472, 92), (56, 474, 475, 476, 92), (59, 483, 485, 4, 92), (62, 494, 442, 443, 92), (65, 478, 479, 480, 92), (71, 487, 489, 5, 92), (74, 0, 492, 0, 89)], [(30, 421, 403, 404, 90), (34, 533, 534, 535, 90), (38, 537, 538, 0, 90), (41, 540, 541, 542, 92)], [], [(58, 384, 385, 386, 90), (65, 390, 392, 0, 89), (69, 394, 395, 396, 93), (75, 402, 403, 404, 90), (79, 406, 407, 408, 92), (89, 413, 415, 1, 89), (93, 430, 432, 2, 89), (100, 441, 442, 443, 92), (103, 446, 448, 3, 89), (119, 495, 496, 497, 93), (127, 503, 505, 6, 89), (131, 507, 509, 7, 89), (134, 692, 694, 34, 89), (137, 697, 699, 35, 89), (140, 454, 455, 456, 90), (144, 705, 707, 37, 89), (147, 713, 715, 38, 89), (150, 720, 492, 0, 89), (157, 721, 723, 39, 89), (165, 727, 728, 0, 89), (169, 730, 732, 40, 89), (173, 434, 435, 436, 92), (178, 753, 755, 41, 89), (181, 734, 735, 736, 92), (184, 761, 762, 763, 92), (187, 511, 513, 8, 89), (197, 673, 674, 0, 89), (206, 676, 678, 30, 89), (209, 680, 682, 31, 89), (213, 717, 718, 0, 89), (222, 458, 459, 460, 92), (226, 438, 439, 0, 89), (233, 778, 479, 480, 92), (238, 780, 590, 0, 97), (263, 544, 546, 11, 89), (266, 450, 451, 452, 92), (269, 801, 803, 42, 89), (272, 805, 806, 807, 94), (281, 817, 534, 535, 90), (289, 822, 399, 400, 92), (292, 827, 411, 0, 89), (295, 828, 541, 542, 92), (298, 829, 467, 468, 92), (301, 834, 739, 0, 89), (304, 548, 549, 550, 91), (322, 417, 418, 419, 90), (325, 422, 423, 424, 90), (328, 701, 703, 36, 89), (331, 696, 463, 464, 92), (334, 515, 517, 9, 89), (338, 525, 527, 10, 89), (342, 529, 530, 531, 90), (375, 684, 686, 32, 89), (378, 688, 690, 33, 89)], [(106, 1255, 1256, 0, 95), (110, 1258, 1259, 0, 95), (133, 1195, 1197, 52, 95), (140, 1210, 1212, 55, 95), (144, 1252, 1253, 0, 95), (147, 1278, 1280, 66, 95), (150, 1282, 1284, 67, 95), (153, 1214, 1216, 56, 95), (157, 1275, 1276, 0, 95), (166, 1203, 1204, 0, 95), (173, 1218, 1220, 57, 95), (179, 1222, 1224, 58, 95), (183, 1226, 1228, 59, 95), (186, 1230, 1231, 0, 95), (201, 1233, 1234, 0, 95), (205, 1236, 1238, 60, 95), (208, 1240, 1242, 61, 95), (211, 1244, 1246, 62, 95), (214, 1248, 1250, 63, 95), (217, 1261, 1263, 64, 95), (223, 1265, 1267, 65, 95), (227, 1199, 1201, 53, 95), (234, 1269, 1270, 0, 95), (247, 1206, 1208, 54, 95), (256, 1171, 1173, 46, 95), (258, 1187, 1189, 50, 95), (261, 1191, 1193, 51, 95), (268, 1310, 1311, 0, 95), (271, 1179, 1181, 48, 95), (283, 1302, 1304, 71, 95), (289, 1306, 1308, 72, 95), (293, 1313, 1315, 73, 95), (300, 1156, 1158, 44, 95), (326, 1160, 1162, 45, 95), (329, 1168, 1169, 0, 95), (332, 1175, 1177, 47, 95), (334, 1183, 1185, 49, 95), (340, 1290, 1292, 68, 95), (343, 1294, 1296, 69, 95), (346, 1336, 1338, 78, 95), (349, 1340, 1342, 79, 95), (352, 1344, 1346, 80, 95), (355, 1356, 1357, 0, 95), (358, 1367, 1369, 84, 95), (361, 1352, 1354, 81, 95), (364, 1359, 1361, 82, 95), (367, 1363, 1365, 83, 95), (370, 1383, 1385, 85, 95), (373, 1298, 1300, 70, 95), (377, 1317, 1319, 74, 95), (381, 1321, 1322, 0, 95), (387, 1324, 1326, 75, 95), (390, 1328, 1330, 76, 95), (393, 1332, 1334, 77, 95), (403, 1447, 1449, 86, 95), (408, 1460, 1462, 87, 95)], [], [(25, 380, 381, 382, 89), (29, 1150, 1151, 1152, 95), (30, 426, 427, 428, 89), (34, 1164, 1165, 1166, 95), (35, 499, 500, 501, 89), (39, 1286, 1287, 1288, 95), (40, 709, 710, 711, 89), (44, 1348, 1349, 1350, 95), (45, 741, 742, 743, 89), (49, 1371, 1372, 1373, 95), (50, 745, 746, 747, 89), (53, 1375, 1376, 1377, 95), (54, 749, 750, 751, 89), (57, 1379, 1380, 1381, 95), (58, 757, 758, 759, 89), (61, 1387, 1388, 1389, 95), (62, 766, 767, 768, 89), (65, 1391, 1392, 1393, 95), (66, 770, 771, 772, 89), (69, 1395, 1396, 1397, 95), (70, 774, 775, 776, 89), (73, 1399, 1400, 1401, 95), (74, 781, 782, 783, 89), (77, 1403, 1404, 1405, 95), (78, 785, 786, 787, 89), (82, 1407, 1408, 1409, 95), (88, 1411, 1412, 1413, 95), (89, 789, 790, 791, 89), (93, 1415, 1416, 1417, 95), (94, 793, 794, 795, 89), (97, 1419, 1420, 1421, 95), (98, 797, 798, 799, 89), (101, 1423, 1424, 1425, 95), (102, 809, 810, 811, 89), (105, 1427, 1428, 1429, 95), (106, 813, 814, 815, 89), (109, 1431, 1432, 1433, 95), (113, 1435, 1436, 1437, 95), (114, 818, 819, 820, 89), (117, 1439, 1440, 1441, 95), (118, 823, 824, 825, 89), (121, 1443, 1444, 1445, 95), (122, 830, 831, 832, 89), (125, 1451, 1452, 1453, 95), (126, 835, 836, 837, 89), (130, 1455, 1456, 1457, 95), (131, 839, 840, 841, 89), (134, 1464, 1465, 1466, 95), (135, 843, 844, 845, 89), (139, 1468, 1469, 1470, 95), (140, 847, 848, 849, 89), (143, 1472, 1473, 1474, 95)]]

theorem wl_X1 : ∀ w ∈ u_ws RX1 TX1 19, w ∈ lw_tbl := in_rz _ [164, 166, 168, 170, 172, 174, 176, 178, 180, 182, 184, 186, 188, 190, 192, 194, 196, 198, 200] (by decide +kernel)
theorem wl_X2 : ∀ w ∈ u_ws RX2 TX2 10, w ∈ lw_tbl := in_rz _ [264, 266, 268, 270, 272, 274, 276, 278, 280, 282] (by decide +kernel)
theorem wl_X3 : ∀ w ∈ u_ws RX3 TX3 6, w ∈ lw_tbl := in_rz _ [225, 227, 229, 231, 233, 235] (by decide +kernel)
theorem wl_X4 : ∀ w ∈ u_ws RX4 TX4 4, w ∈ lw_tbl := in_rz _ [124, 126, 128, 130] (by decide +kernel)
theorem wl_X5 : ∀ w ∈ u_ws RX5 TX5 8, w ∈ lw_tbl := in_rz _ [305, 307, 309, 311, 313, 315, 317, 319] (by decide +kernel)
theorem wl_X6 : ∀ w ∈ u_ws RX6 TX6 19, w ∈ lw_tbl := in_rz _ [341, 343, 345, 347, 349, 351, 353, 355, 357, 359, 361, 363, 365, 367, 369, 371, 373, 375, 377] (by decide +kernel)
theorem wl_X7 : ∀ w ∈ u_ws RX7 TX7 68, w ∈ lw_tbl := in_rz _ [1011, 1013, 1015, 1017, 1019, 1021, 1023, 1025, 1027, 1029, 1031, 1033, 1035, 1037, 1039, 1041, 1043, 1045, 1047, 1049, 1051, 1053, 1055, 1057, 1059, 1061, 1063, 1065, 1067, 1069, 1071, 1073, 1075, 1077, 1079, 1081, 1083, 1085, 1087, 1089, 1091, 1093, 1095, 1097, 1099, 1101, 1103, 1105, 1107, 1109, 1111, 1113, 1115, 1117, 1119, 1121, 1123, 1125, 1127, 1129, 1131, 1133, 1135, 1137, 1139, 1141, 1143, 1145] (by decide +kernel)
theorem tl_c_X4_init : ∀ w ∈ v_c_X4_init, w ∈ lw_tbl := tl_c (c := .code yX4_init cX4_init 1 none) (l := [.methodLink RX4 3 objectInit, .instanceMethod objectInit, .code objectInit ⟨#[0xb1]⟩ 1 none, .arrayClass .int, .fieldLink RX4 11 "TileHouse$Wall" "kinds" "[I"]) (in_rz _ [117, 118, 109, 110, 133, 119] (by decide +kernel)) (tl_a wl_X4 (tl_nil))
theorem tl_c_X1_init : ∀ w ∈ v_c_X1_init, w ∈ lw_tbl := tl_c (c := .code yX1_init cX1_init 1 none) (l := [.methodLink RX1 3 objectInit, .instanceMethod objectInit, .code objectInit ⟨#[0xb1]⟩ 1 none, .arrayClass .int, .fieldLink RX1 9 "TileHouse$Judge" "sort" "[I", .fieldLink RX1 15 "TileHouse$Judge" "low" "[I", .fieldLink RX1 18 "TileHouse$Judge" "mayBeThrees" "[I"]) (in_rz _ [138, 139, 109, 110, 133, 158, 159, 163] (by decide +kernel)) (tl_a wl_X1 (tl_nil))
theorem tl_c_X3_init : ∀ w ∈ v_c_X3_init, w ∈ lw_tbl := tl_c (c := .code yX3_init cX3_init 1 none) (l := [.methodLink RX3 3 objectInit, .instanceMethod objectInit, .code objectInit ⟨#[0xb1]⟩ 1 none, .arrayClass .int, .fieldLink RX3 9 "TileHouse$Tiles" "free" "[I", .fieldLink RX3 15 "TileHouse$Tiles" "all" "[I", .fieldLink RX3 18 "TileHouse$Tiles" "sort" "[I", .fieldLink RX3 21 "TileHouse$Tiles" "low" "[I"]) (in_rz _ [209, 210, 109, 110, 133, 211, 214, 215, 218] (by decide +kernel)) (tl_a wl_X3 (tl_nil))
theorem tl_c_X2_init : ∀ w ∈ v_c_X2_init, w ∈ lw_tbl := tl_c (c := .code yX2_init cX2_init 1 none) (l := [.methodLink RX2 3 objectInit, .instanceMethod objectInit, .code objectInit ⟨#[0xb1]⟩ 1 none, .classLink RX2 9 RX3, .instantiable RX3 6, .initialized RX3, .instanceMethod yX3_init, .fieldLink RX2 12 "TileHouse$Seat" "tiles" "LTileHouse$Tiles;", .arrayClass .int, .fieldLink RX2 18 "TileHouse$Seat" "thrown" "[I", .fieldLink RX2 22 "TileHouse$Seat" "points" "I"]) (in_rz _ [241, 242, 109, 110, 243, 206, 92, 208, 245, 133, 247, 252] (by decide +kernel)) (tl_a wl_X3 (tl_a tl_c_X3_init (tl_a wl_X2 (tl_nil))))
theorem tl_c_X5_init : ∀ w ∈ v_c_X5_init, w ∈ lw_tbl := tl_c (c := .code yX5_init cX5_init 1 none) (l := [.methodLink RX5 3 objectInit, .instanceMethod objectInit, .code objectInit ⟨#[0xb1]⟩ 1 none]) (in_rz _ [288, 289, 109, 110] (by decide +kernel)) (tl_nil)
theorem tl_c_X6_init : ∀ w ∈ v_c_X6_init, w ∈ lw_tbl := tl_c (c := .code yX6_init cX6_init 2 none) (l := [.methodLink RX6 3 objectInit, .instanceMethod objectInit, .code objectInit ⟨#[0xb1]⟩ 1 none, .classLink RX6 9 RX2, .fieldLink RX6 11 "TileHouse" "players" "[LTileHouse$Seat;", .classLink RX6 15 RX4, .instantiable RX4 4, .initialized RX4, .instanceMethod yX4_init, .fieldLink RX6 18 "TileHouse" "bricks" "LTileHouse$Wall;", .classLink RX6 22 RX1, .instantiable RX1 19, .initialized RX1, .instanceMethod yX1_init, .fieldLink RX6 25 "TileHouse" "judge" "LTileHouse$Judge;", .classLink RX6 29 RX5, .fieldLink RX6 31 "TileHouse" "wins" "[LTileHouse$Win;", .classLink RX6 35 RX3, .instantiable RX3 6, .initialized RX3, .instanceMethod yX3_init, .fieldLink RX6 38 "TileHouse" "deskTiles" "LTileHouse$Tiles;", .fieldLink RX6 42 "TileHouse" "deskJudge" "LTileHouse$Judge;", .fieldLink RX6 45 "TileHouse" "phase" "I"]) (in_rz _ [107, 108, 109, 110, 111, 322, 113, 114, 90, 116, 323, 134, 135, 91, 137, 324, 203, 325, 205, 206, 92, 208, 326, 327, 329] (by decide +kernel)) (tl_a (in_rz _ [337, 238, 93, 240, 285, 94, 287] (by decide +kernel)) (tl_a wl_X6 (tl_a wl_X4 (tl_a tl_c_X4_init (tl_a wl_X1 (tl_a tl_c_X1_init (tl_a wl_X3 (tl_a tl_c_X3_init (tl_a wl_X2 (tl_a tl_c_X2_init (tl_a wl_X5 (tl_a tl_c_X5_init (tl_nil)))))))))))))
theorem tl_c_X7_init : ∀ w ∈ v_c_X7_init, w ∈ lw_tbl := tl_c (c := .code yX7_init cX7_init 1 none) (l := [.methodLink RX7 1 objectInit, .instanceMethod objectInit, .code objectInit ⟨#[0xb1]⟩ 1 none, .arrayClass .int, .fieldLink RX7 9 "TileHouseModel" "in" "[I", .fieldLink RX7 13 "TileHouseModel" "sorts" "[I", .fieldLink RX7 16 "TileHouseModel" "lows" "[I", .fieldLink RX7 19 "TileHouseModel" "waySort" "[I", .fieldLink RX7 22 "TileHouseModel" "wayLow" "[I", .fieldLink RX7 25 "TileHouseModel" "allSort" "[I", .fieldLink RX7 28 "TileHouseModel" "allLow" "[I", .fieldLink RX7 31 "TileHouseModel" "whole" "[I", .fieldLink RX7 34 "TileHouseModel" "wall" "[I", .fieldLink RX7 37 "TileHouseModel" "hands" "[I", .fieldLink RX7 40 "TileHouseModel" "points" "[I", .fieldLink RX7 43 "TileHouseModel" "setSort" "[I", .fieldLink RX7 46 "TileHouseModel" "setKind" "[I", .fieldLink RX7 49 "TileHouseModel" "setMany" "[I", .fieldLink RX7 52 "TileHouseModel" "rivers" "[I", .fieldLink RX7 55 "TileHouseModel" "riverMany" "[I", .fieldLink RX7 58 "TileHouseModel" "bet" "[I", .fieldLink RX7 61 "TileHouseModel" "draws" "[I", .arrayClass .boolean, .fieldLink RX7 64 "TileHouseModel" "atOnce" "[Z"]) (in_rz _ [941, 942, 109, 110, 133, 944, 945, 946, 948, 949, 962, 963, 969, 970, 971, 972, 973, 974, 975, 976, 977, 978, 979, 1148, 980] (by decide +kernel)) (tl_a (in_rz _ [981, 982, 992, 993, 994, 1003, 1149, 1004, 1005, 1006, 1007, 1008] (by decide +kernel)) (tl_a wl_X7 (tl_nil)))
noncomputable def R_law : String := "TileHouseLaw"
noncomputable def lw_P (b : Addr) (xs : List Int32) (args : Array Value) (s : State) : Prop := args = #[.ref b] ∧ s.IntsAt b xs ∧ xs.length ≤ 3584 ∧ (Jvm.Cond.and given_1 narrow_1).before args s = true
noncomputable def lw_Q (_ : Array Value) (s : State) (o : Outcome) (t : State) : Prop := o = .returned (some (.int 1)) ∧ Framed s o t [] 601024 7293034
noncomputable def lw_Z (below : List Frame) (a : Array Value) (s : State) : State → Prop := fun t => ∃ o, t.status = .running ∧ Ended t below o ∧ lw_Q a s o t
/-- the law's own end, with 1 on the stack, nothing written that was there before, its room as the claim has it -/
theorem lw_ret {p : Program} {l : Launch} {e : Env} {s : State} {m : MethodId} {below : List Frame} {meth : Method} {c : Code} {b : Nat} (hx : p.tables.exec = Jvm.exec) (hb : c.code = code) (hr : meth.sig.returnType = ret) (hlocks : meth.locks = false) {pc : Nat} {H : Heap} {ls : Array Slot} (hdg : decode code pc = .ok (.ireturn, 1)) : W p l e room_1 s m #[Value.ref b] below meth c H [] 601024 7293034 (lw_Z below #[Value.ref b] s) (F0 m pc ls [.int 1]) := by
  intro T hT X
  obtain ⟨fs, hret, hrun, hended, hW, hframe⟩ := X.leave (v := some (.int 1)) (hlocks := hlocks) (fun h => by rw [hr] at h; cases h)
  have hmeth' : T.vm.method? m = some meth := X.method'
  refine ⟨T.setFrames fs, ?_, .returned (some (.int 1)), hrun, hended, rfl, ⟨_, rfl⟩, hW, hframe⟩
  jvm_step X.here [X.here.top, hx, hb, hdg, hmeth', hr, ret, narrow_b1]
  (try refine ⟨rfl, ?_⟩); (try refine ⟨rfl, ?_⟩)
  first | (intro acts; rw [hret _ acts rfl rfl rfl]) | rw [hret _ _ rfl rfl rfl]
  exact Steps.refl _
/-- what holds at the law's entry: the machine, the code, the tables' words (any of lw_tbl by 'hts w (by decide +kernel)'), the script of L ints xs at the cell b, what the Statement gives of the start (any of its parts by flat_of_before) -/
noncomputable def lw_At (p : Program) (s : State) (m : MethodId) (meth : Method) (c : Code) (b L : Nat) (xs : Nat → Int32) : Prop :=
  p.tables.exec = Jvm.exec ∧ c.code = code ∧ meth.sig.returnType = ret ∧ c.maxLocals = 7 ∧ s.vm.findClass R_law = some m.cls ∧ (∀ w ∈ lw_tbl, w.before #[Value.ref b] s = true) ∧ va_X b L xs s s.heap ∧ b < s.heap.size ∧ meth.locks = false ∧ (Jvm.Cond.and given_1 narrow_1).before #[Value.ref b] s = true
theorem str_of {args : Array Value} {s : State} {t : Term} {nm : String} (h : (Cond.exactly t nm).before args s = true) : ∃ a : Nat, t.eval args s none [] s = some (.ref a) := by
  simp only [Cond.before, Cond.holds, Cond.value] at h
  cases ht : t.eval args s none [] s with
  | none => simp [ht] at h
  | some v =>
    cases v with
    | ref a => exact ⟨a, rfl⟩
    | null => cases hc : s.vm.findClass nm <;> simp [ht, hc] at h
    | _ => simp [ht] at h
theorem ar_int {args : Array Value} {s : State} (h : (Cond.arrayClass .int).before args s = true) : ∃ cA : ClassId, ArrOfT s cA .int ∧ va_RA s cA .int := by
  obtain ⟨c, k, comp, h1, h2, h3⟩ := Cond.arrayClass_spec h
  exact ⟨c, fun n z => ⟨fun k h => (by cases h), k, h2, comp, h3⟩, h1⟩
theorem ar_long {args : Array Value} {s : State} (h : (Cond.arrayClass .long).before args s = true) : ∃ cA : ClassId, ArrOfT s cA .long ∧ va_RA s cA .long := by
  obtain ⟨c, k, comp, h1, h2, h3⟩ := Cond.arrayClass_spec h
  exact ⟨c, fun n z => ⟨fun k h => (by cases h), k, h2, comp, h3⟩, h1⟩
theorem ar_bool {args : Array Value} {s : State} (h : (Cond.arrayClass .boolean).before args s = true) : ∃ cA : ClassId, ArrOfT s cA .boolean ∧ va_RA s cA .boolean := by
  obtain ⟨c, k, comp, h1, h2, h3⟩ := Cond.arrayClass_spec h
  exact ⟨c, fun n z => ⟨fun k h => (by cases h), k, h2, comp, h3⟩, h1⟩
theorem ar_obj {args : Array Value} {s : State} {C : String} (h : (Cond.arrayOver (.object C)).before args s = true) : ∃ cA : ClassId, ArrOfT s cA (.object C) ∧ va_RA s cA (.object C) := by
  obtain ⟨comp, c, k, h1, h2, h3, h4, h5⟩ := Cond.arrayOver_spec h
  exact ⟨c, fun n z => ⟨fun k h => (by cases h), k, h3, comp, h4⟩, k, comp, h3, h4, h1, h5⟩
theorem tab_HAN : ∀ j, j < 30 → (Cond.eq (.elem (.static "TileHouse$Forms" "HAN" "[I") (.int (Int32.ofNat j))) (.int (z_han.getD j 0))) ∈ flatC (Jvm.Cond.and given_1 narrow_1) := by decide +kernel
theorem tab_OPEN_HAN : ∀ j, j < 30 → (Cond.eq (.elem (.static "TileHouse$Forms" "OPEN_HAN" "[I") (.int (Int32.ofNat j))) (.int (z_ohan.getD j 0))) ∈ flatC (Jvm.Cond.and given_1 narrow_1) := by decide +kernel
noncomputable abbrev lwW (k : Nat → ClassId) (qx qm qo : Nat) (ux um : Nat → Nat) : va_W := [(qx, .inr (5, [.ref (ux 0), .ref (ux 1), .ref (ux 3), .ref (ux 7), .ref (ux 8), .ref (ux 13), .int 0, .int 0, .int 0, .int 0, .int 0, .int 0, .int 0, .int 0, .int 0, .int (-1), .int 0, .int 0, .long 0])), ((ux 0), .inl (k 3, 4, .inr (.inr (.inr (.inr (va_up (va_up (va_up (va_up (fun _ => none) 0 (some (ux 17))) 1 (some (ux 25))) 2 (some (ux 33))) 3 (some (ux 41)))))))), ((ux 1), .inr (3, [.ref (ux 2), .int 0, .int 0, .int 0])), ((ux 2), .inl (k 0, 136, .inl (fun _ => 0))), ((ux 3), .inr (0, [.int 0, .int 0, .int 0, .long 0, .int 0, .null, .int 0, .int 0, .int 0, .int 0, .int 0, .int 0, .long 0, .ref (ux 4), .ref (ux 5), .int 0, .long 0, .long 0, .ref (ux 6)])), ((ux 4), .inl (k 0, 4, .inl (fun _ => 0))), ((ux 5), .inl (k 0, 4, .inl (fun _ => 0))), ((ux 6), .inl (k 0, 4, .inl (fun _ => 0))), ((ux 7), .inl (k 4, 4, .inr (.inr (.inr (.inr (va_up (va_up (va_up (va_up (fun _ => none) 0 (some (ux 24))) 1 (some (ux 32))) 2 (some (ux 40))) 3 (some (ux 48)))))))), ((ux 8), .inr (2, [.ref (ux 9), .ref (ux 10), .ref (ux 11), .ref (ux 12), .int 0, .int 0])), ((ux 9), .inl (k 0, 34, .inl (fun _ => 0))), ((ux 10), .inl (k 0, 34, .inl (fun _ => 0))), ((ux 11), .inl (k 0, 4, .inl (fun _ => 0))), ((ux 12), .inl (k 0, 4, .inl (fun _ => 0))), ((ux 13), .inr (0, [.int 0, .int 0, .int 0, .long 0, .int 0, .null, .int 0, .int 0, .int 0, .int 0, .int 0, .int 0, .long 0, .ref (ux 14), .ref (ux 15), .int 0, .long 0, .long 0, .ref (ux 16)])), ((ux 14), .inl (k 0, 4, .inl (fun _ => 0))), ((ux 15), .inl (k 0, 4, .inl (fun _ => 0))), ((ux 16), .inl (k 0, 4, .inl (fun _ => 0))), ((ux 17), .inr (1, [.ref (ux 18), .ref (ux 23), .int 0, .long 0, .int 25000, .int 0, .int 0, .int 0, .int 0, .int 0])), ((ux 18), .inr (2, [.ref (ux 19), .ref (ux 20), .ref (ux 21), .ref (ux 22), .int 0, .int 0])), ((ux 19), .inl (k 0, 34, .inl (fun _ => 0))), ((ux 20), .inl (k 0, 34, .inl (fun _ => 0))), ((ux 21), .inl (k 0, 4, .inl (fun _ => 0))), ((ux 22), .inl (k 0, 4, .inl (fun _ => 0))), ((ux 23), .inl (k 0, 86, .inl (fun _ => 0))), ((ux 24), .inr (4, [.int 0, .int 0, .int 0, .int 0, .int 0, .int 0, .int 0, .long 0])), ((ux 25), .inr (1, [.ref (ux 26), .ref (ux 31), .int 0, .long 0, .int 25000, .int 0, .int 0, .int 0, .int 0, .int 0])), ((ux 26), .inr (2, [.ref (ux 27), .ref (ux 28), .ref (ux 29), .ref (ux 30), .int 0, .int 0])), ((ux 27), .inl (k 0, 34, .inl (fun _ => 0))), ((ux 28), .inl (k 0, 34, .inl (fun _ => 0))), ((ux 29), .inl (k 0, 4, .inl (fun _ => 0))), ((ux 30), .inl (k 0, 4, .inl (fun _ => 0))), ((ux 31), .inl (k 0, 86, .inl (fun _ => 0))), ((ux 32), .inr (4, [.int 0, .int 0, .int 0, .int 0, .int 0, .int 0, .int 0, .long 0])), ((ux 33), .inr (1, [.ref (ux 34), .ref (ux 39), .int 0, .long 0, .int 25000, .int 0, .int 0, .int 0, .int 0, .int 0])), ((ux 34), .inr (2, [.ref (ux 35), .ref (ux 36), .ref (ux 37), .ref (ux 38), .int 0, .int 0])), ((ux 35), .inl (k 0, 34, .inl (fun _ => 0))), ((ux 36), .inl (k 0, 34, .inl (fun _ => 0))), ((ux 37), .inl (k 0, 4, .inl (fun _ => 0))), ((ux 38), .inl (k 0, 4, .inl (fun _ => 0))), ((ux 39), .inl (k 0, 86, .inl (fun _ => 0))), ((ux 40), .inr (4, [.int 0, .int 0, .int 0, .int 0, .int 0, .int 0, .int 0, .long 0])), ((ux 41), .inr (1, [.ref (ux 42), .ref (ux 47), .int 0, .long 0, .int 25000, .int 0, .int 0, .int 0, .int 0, .int 0])), ((ux 42), .inr (2, [.ref (ux 43), .ref (ux 44), .ref (ux 45), .ref (ux 46), .int 0, .int 0])), ((ux 43), .inl (k 0, 34, .inl (fun _ => 0))), ((ux 44), .inl (k 0, 34, .inl (fun _ => 0))), ((ux 45), .inl (k 0, 4, .inl (fun _ => 0))), ((ux 46), .inl (k 0, 4, .inl (fun _ => 0))), ((ux 47), .inl (k 0, 86, .inl (fun _ => 0))), ((ux 48), .inr (4, [.int 0, .int 0, .int 0, .int 0, .int 0, .int 0, .int 0, .long 0])), (qm, .inr (6, [.int 0, .ref (um 0), .ref (um 1), .ref (um 2), .int 0, .ref (um 3), .ref (um 4), .int 0, .int 0, .int 0, .int 0, .int 0, .long 0, .int 0, .int 0, .int 0, .int 0, .long 0, .int 0, .ref (um 5), .ref (um 6), .int 0, .int 0, .int 0, .long 0, .long 0, .ref (um 7), .ref (um 8), .ref (um 9), .ref (um 10), .ref (um 11), .ref (um 12), .ref (um 13), .ref (um 14), .ref (um 15), .ref (um 16), .ref (um 17), .ref (um 18), .ref (um 19), .ref (um 20), .int 0, .int 0, .int 0, .int 0, .int 0, .int 0, .int 0, .int 0, .int 0, .int (-1), .int (-1), .int (-1), .int 0, .int 0, .int 0, .int 0, .int 0, .int 0, .int 0, .int 0, .ref (um 21), .ref (um 22), .ref (um 23), .ref (um 24), .ref (um 25), .ref (um 26), .int 0, .long 0])), ((um 0), .inl (k 0, 34, .inl (fun _ => 0))), ((um 1), .inl (k 0, 8, .inl (fun _ => 0))), ((um 2), .inl (k 0, 8, .inl (fun _ => 0))), ((um 3), .inl (k 0, 5, .inl (fun _ => 0))), ((um 4), .inl (k 0, 5, .inl (fun _ => 0))), ((um 5), .inl (k 0, 4, .inl (fun _ => 0))), ((um 6), .inl (k 0, 4, .inl (fun _ => 0))), ((um 7), .inl (k 0, 34, .inl (fun _ => 0))), ((um 8), .inl (k 0, 136, .inl (fun _ => 0))), ((um 9), .inl (k 0, 136, .inl (fun _ => 0))), ((um 10), .inl (k 0, 4, .inl (upd (upd (upd (upd (fun _ => 0) (0 : Int32).toNatClampNeg 25000) (1 : Int32).toNatClampNeg 25000) (2 : Int32).toNatClampNeg 25000) (3 : Int32).toNatClampNeg 25000))), ((um 11), .inl (k 0, 16, .inl (fun _ => 0))), ((um 12), .inl (k 0, 16, .inl (fun _ => 0))), ((um 13), .inl (k 0, 4, .inl (fun _ => 0))), ((um 14), .inl (k 0, 544, .inl (fun _ => 0))), ((um 15), .inl (k 0, 4, .inl (fun _ => 0))), ((um 16), .inl (k 0, 4, .inl (fun _ => 0))), ((um 17), .inl (k 0, 4, .inl (fun _ => 0))), ((um 18), .inl (k 2, 4, .inl (fun _ => 0))), ((um 19), .inl (k 2, 4, .inl (fun _ => 0))), ((um 20), .inl (k 2, 4, .inl (fun _ => 0))), ((um 21), .inl (k 0, 28, .inl (fun _ => 0))), ((um 22), .inl (k 1, 4, .inr (.inl (fun _ => 0)))), ((um 23), .inl (k 0, 34, .inl (fun _ => 0))), ((um 24), .inl (k 0, 4, .inl (fun _ => 0))), ((um 25), .inl (k 0, 4, .inl (fun _ => 0))), ((um 26), .inl (k 0, 4, .inl (fun _ => 0))), (qo, .inl (k 1, 1, .inr (.inl (fun _ => 0))))]
noncomputable def lw_a (qx qm qo b a101 a102 : Nat) (ux um : Nat → Nat) (i : Nat) : Nat := bif Nat.beq i 100 then b else bif Nat.beq i 101 then a101 else bif Nat.beq i 102 then a102 else ([qx, ux 0, ux 1, ux 2, ux 3, ux 4, ux 5, ux 6, ux 7, ux 8, ux 9, ux 10, ux 11, ux 12, ux 13, ux 14, ux 15, ux 16, ux 17, ux 18, ux 19, ux 20, ux 21, ux 22, ux 23, ux 24, ux 25, ux 26, ux 27, ux 28, ux 29, ux 30, ux 31, ux 32, ux 33, ux 34, ux 35, ux 36, ux 37, ux 38, ux 39, ux 40, ux 41, ux 42, ux 43, ux 44, ux 45, ux 46, ux 47, ux 48, qm, um 0, um 1, um 2, um 3, um 4, um 5, um 6, um 7, um 8, um 9, um 10, um 11, um 12, um 13, um 14, um 15, um 16, um 17, um 18, um 19, um 20, um 21, um 22, um 23, um 24, um 25, um 26, qo] : List Nat).getD i 0
noncomputable def mu0 : zM := (fun r j => bif Nat.beq r 61 then (upd (upd (upd (upd (fun _ => 0) (0 : Int32).toNatClampNeg 25000) (1 : Int32).toNatClampNeg 25000) (2 : Int32).toNatClampNeg 25000) (3 : Int32).toNatClampNeg 25000) j else bif (Nat.beq r 0 && Nat.beq j 15) || (Nat.beq r 50 && (Nat.beq j 49 || (Nat.beq j 50 || Nat.beq j 51))) then -1 else bif (Nat.beq r 18 || (Nat.beq r 26 || (Nat.beq r 34 || Nat.beq r 42))) && Nat.beq j 4 then 25000 else 0, fun _ _ => 0, fun _ => 0)
theorem arrV_congr {cI : ClassId} {N : Nat} {f g : Nat → Value} (h : ∀ j, j < N → f j = g j) : arrV cI N f = arrV cI N g := by
  unfold arrV
  congr 2
  funext j
  exact h j.1 j.2
theorem va_P_ref {D : va_G} {cl : List vw_C} {ws : va_W} {H : Heap} {p q N : Nat} {cA : ClassId} {f g : Nat → Option Nat} (h : va_P D cl ws H) (hp : ws[p]? = some (q, .inl (cA, N, .inr (.inr (.inr (.inr f)))))) (hfg : ∀ j, j < N → f j = g j) : va_P D cl (ws.set p (q, .inl (cA, N, .inr (.inr (.inr (.inr g)))))) H := by
  intro k r hk
  by_cases e : p = k
  · subst e
    rw [List.getElem?_set_self (List.getElem?_eq_some_iff.mp hp).1] at hk
    cases hk
    have q1 : H[q]? = some (arrV cA N (fun j => va_rf (f j))) := h p _ hp
    show H[q]? = some (arrV cA N (fun j => va_rf (g j)))
    rw [q1, arrV_congr (fun j hj => by rw [hfg j hj])]
  · rw [List.getElem?_set_ne e] at hk
    exact h k r hk
set_option maxHeartbeats 4000000 in
set_option maxRecDepth 100000 in
theorem lw_pool (k : Nat → ClassId) (qx qm qo b a101 a102 : Nat) (ux um : Nat → Nat) : ((lwW k qx qm qo ux um).set 1 (ux 0, .inl (k 3, 4, .inr (.inr (.inr (.inr (fun j => some (lw_a qx qm qo b a101 a102 ux um (z_gr 1 j))))))))).set 8 (ux 7, .inl (k 4, 4, .inr (.inr (.inr (.inr (fun j => some (lw_a qx qm qo b a101 a102 ux um (z_gr 8 j)))))))) = z_W (lw_a qx qm qo b a101 a102 ux um) k 79 mu0 := by rfl
/-! the first state: both games -/
set_option maxRecDepth 8000
theorem mu0_z (r k : Nat) (h1 : r ≠ 61) (h2 : ¬ (r = 0 ∧ k = 15)) (h3 : ¬ (r = 50 ∧ (k = 49 ∨ k = 50 ∨ k = 51))) (h4 : ¬ ((r = 18 ∨ r = 26 ∨ r = 34 ∨ r = 42) ∧ k = 4)) : mu0.1 r k = 0 := by
  show (bif Nat.beq r 61 then _ else bif (Nat.beq r 0 && Nat.beq k 15) || (Nat.beq r 50 && (Nat.beq k 49 || (Nat.beq k 50 || Nat.beq k 51))) then (-1 : Int32) else bif (Nat.beq r 18 || (Nat.beq r 26 || (Nat.beq r 34 || Nat.beq r 42))) && Nat.beq k 4 then (25000 : Int32) else 0) = 0
  have b : ∀ x y : Nat, Nat.beq x y = decide (x = y) := fun x y => by
    by_cases q : x = y
    · subst q; rw [decide_eq_true rfl]; exact Nat.beq_refl x
    · rw [decide_eq_false q]; exact z_bf q
  simp only [b]
  rw [decide_eq_false h1]
  have c2 : (decide (r = 0) && decide (k = 15) || decide (r = 50) && (decide (k = 49) || (decide (k = 50) || decide (k = 51)))) = false := by
    rw [Bool.eq_false_iff]
    intro q
    simp only [Bool.or_eq_true, Bool.and_eq_true, decide_eq_true_iff] at q
    omega
  have c3 : ((decide (r = 18) || (decide (r = 26) || (decide (r = 34) || decide (r = 42)))) && decide (k = 4)) = false := by
    rw [Bool.eq_false_iff]
    intro q
    simp only [Bool.or_eq_true, Bool.and_eq_true, decide_eq_true_iff] at q
    omega
  rw [c2, c3]
  rfl
theorem cl0 : (0 : Int32).toNatClampNeg = 0 := by decide
theorem RC_0 : RCl mu0 mu0 := by
  refine ⟨rfl, rfl, rfl, rfl, rfl, rfl, rfl, rfl, rfl, fun i _ => ?_, fun s hs => ?_, fun s hs => ?_, fun s hs => ?_, fun s hs => ?_, fun s hs => ?_, fun s hs => ?_, fun s hs => ?_, fun s k hs hk => ?_, fun s i hs hi => ?_, fun s i hs hi => ?_, fun s i hs hi => ?_, fun i f hi hf _ => ?_, fun i hi => rfl, fun s k hs hk => ?_, fun s hs => ?_, fun s i hs hi => ?_, fun s hs => ?_, fun s hs => ?_, fun s i hs hi => ?_, Or.inl rfl, fun s hs => Or.inl ?_, fun h => ?_⟩
  · rw [mu0_z 3 i (by omega) (by omega) (by omega) (by omega), mu0_z 59 i (by omega) (by omega) (by omega) (by omega)]
  · obtain rfl | rfl | rfl | rfl := t_four hs <;> decide +kernel
  · rw [mu0_z (18 + 8 * s) 5 (by omega) (by omega) (by omega) (by omega), mu0_z 67 s (by omega) (by omega) (by omega) (by omega)]
  · rw [mu0_z (18 + 8 * s) 7 (by omega) (by omega) (by omega) (by omega), mu0_z 69 s (by omega) (by omega) (by omega) (by omega)]
  · rw [mu0_z (18 + 8 * s) 8 (by omega) (by omega) (by omega) (by omega), mu0_z 70 s (by omega) (by omega) (by omega) (by omega)]
  · rw [mu0_z (18 + 8 * s) 9 (by omega) (by omega) (by omega) (by omega), mu0_z 71 s (by omega) (by omega) (by omega) (by omega)]
  · rw [mu0_z (18 + 8 * s) 2 (by omega) (by omega) (by omega) (by omega), mu0_z 66 s (by omega) (by omega) (by omega) (by omega)]
  · rw [mu0_z (19 + 8 * s) 4 (by omega) (by omega) (by omega) (by omega), mu0_z 64 s (by omega) (by omega) (by omega) (by omega)]
  · rw [mu0_z (20 + 8 * s) k (by omega) (by omega) (by omega) (by omega), mu0_z 60 (34 * s + k) (by omega) (by omega) (by omega) (by omega)]
  · rw [mu0_z (22 + 8 * s) i (by omega) (by omega) (by omega) (by omega), mu0_z 62 (4 * s + i) (by omega) (by omega) (by omega) (by omega)]
  · rw [mu0_z (23 + 8 * s) i (by omega) (by omega) (by omega) (by omega), mu0_z 63 (4 * s + i) (by omega) (by omega) (by omega) (by omega)]
  · rw [mu0_z (24 + 8 * s) i (by omega) (by omega) (by omega) (by omega), mu0_z 65 (136 * s + i) (by omega) (by omega) (by omega) (by omega)]
  · rw [mu0_z (25 + 8 * i) f (by omega) (by omega) (by omega) (by omega), mu0_z 72 (7 * i + f) (by omega) (by omega) (by omega) (by omega)]
  · rw [mu0_z (21 + 8 * s) k (by omega) (by omega) (by omega) (by omega), mu0_z 64 s (by omega) (by omega) (by omega) (by omega), mu0_z 60 (34 * s + k) (by omega) (by omega) (by omega) (by omega), cl0]
    rfl
  · rw [mu0_z (19 + 8 * s) 5 (by omega) (by omega) (by omega) (by omega), show (fun k => mu0.1 60 (34 * s + k)) = (fun _ => (0 : Int32)) from funext fun k => mu0_z 60 (34 * s + k) (by omega) (by omega) (by omega) (by omega)]
    decide +kernel
  · rw [mu0_z 64 s (by omega) (by omega) (by omega) (by omega), cl0] at hi
    exact absurd hi (by omega)
  · show (0 : Int64) = kb (tkM mu0 s) 34
    refine (kb_0 34 (fun b _ => ?_)).symm
    unfold tkM
    rw [mu0_z 66 s (by omega) (by omega) (by omega) (by omega), cl0]
    rfl
  · rw [mu0_z 66 s (by omega) (by omega) (by omega) (by omega)]
    decide
  · rw [mu0_z 66 s (by omega) (by omega) (by omega) (by omega), cl0] at hi
    exact absurd hi (by omega)
  · exact mu0_z 67 s (by omega) (by omega) (by omega) (by omega)
  · rw [mu0_z 50 55 (by omega) (by omega) (by omega) (by omega)] at h
    exact absurd h (by decide)
theorem RG_0 : RG mu0 mu0 := ⟨RC_0, Or.inl ⟨rfl, rfl, rfl, rfl, rfl⟩⟩
theorem bd0 (r k : Nat) : a_bi (a_bd r k) 0 := by
  have hl : ∀ (l : List (Nat × Int × Int)) (k : Nat), (∀ q ∈ l, q.2.1 ≤ 0 ∧ 0 ≤ q.2.2) → a_bi ((z_lk l k).getD aT) 0 := by
    intro l k hq
    cases e : z_lk l k with
    | none => exact bI_top _
    | some q =>
      have := hq _ (z_lk_mem e)
      exact ⟨this.1, this.2⟩
  unfold a_bd
  cases h1 : Nat.beq (z_sh r).1 0 with
  | true =>
    show a_bi (a_cbd _ _) 0
    unfold a_cbd
    cases h2 : Nat.beq (z_fk (z_sh r).2.1 k) 2 with
    | true => exact (show bI 0 1 0 from ⟨by decide, by decide⟩)
    | false =>
      refine hl _ _ (fun q hq => ?_)
      have h9 : ∀ o : Fin 7, ∀ q ∈ a_cbs.getD o.1 [], q.2.1 ≤ 0 ∧ 0 ≤ q.2.2 := by decide +kernel
      by_cases ho : (z_sh r).2.1 < 7
      · exact h9 ⟨_, ho⟩ q hq
      · rw [z_getD_ge (by show 7 ≤ _; omega)] at hq
        cases hq
  | false =>
    show a_bi (a_abd _) 0
    unfold a_abd
    cases h2 : Nat.beq (z_sh r).1 3 with
    | true => exact (show bI 0 1 0 from ⟨by decide, by decide⟩)
    | false => exact hl _ _ (by decide +kernel)
theorem mu0_H : a_H mu0 := by
  intro r k
  by_cases h1 : r = 61
  · subst h1; exact bI_top _
  by_cases h2 : r = 0 ∧ k = 15
  · obtain ⟨rfl, rfl⟩ := h2; exact ⟨by decide +kernel, by decide +kernel⟩
  by_cases h3 : r = 50 ∧ (k = 49 ∨ k = 50 ∨ k = 51)
  · obtain ⟨rfl, rfl | rfl | rfl⟩ := h3 <;> exact ⟨by decide +kernel, by decide +kernel⟩
  by_cases h4 : (r = 18 ∨ r = 26 ∨ r = 34 ∨ r = 42) ∧ k = 4
  · obtain ⟨rfl | rfl | rfl | rfl, rfl⟩ := h4 <;> exact ⟨by decide +kernel, by decide +kernel⟩
  have e : mu0.1 r k = 0 := by
    show (bif Nat.beq r 61 then _ else bif (Nat.beq r 0 && Nat.beq k 15) || (Nat.beq r 50 && (Nat.beq k 49 || (Nat.beq k 50 || Nat.beq k 51))) then (-1 : Int32) else bif (Nat.beq r 18 || (Nat.beq r 26 || (Nat.beq r 34 || Nat.beq r 42))) && Nat.beq k 4 then (25000 : Int32) else 0) = 0
    have b : ∀ x y : Nat, Nat.beq x y = decide (x = y) := fun x y => by
      by_cases q : x = y
      · subst q; rw [decide_eq_true rfl]; exact Nat.beq_refl x
      · rw [decide_eq_false q]; exact z_bf q
    simp only [b]
    rw [decide_eq_false h1]
    have c2 : (decide (r = 0) && decide (k = 15) || decide (r = 50) && (decide (k = 49) || (decide (k = 50) || decide (k = 51)))) = false := by
      rw [Bool.eq_false_iff]
      intro q
      simp only [Bool.or_eq_true, Bool.and_eq_true, decide_eq_true_iff] at q
      omega
    have c3 : ((decide (r = 18) || (decide (r = 26) || (decide (r = 34) || decide (r = 42)))) && decide (k = 4)) = false := by
      rw [Bool.eq_false_iff]
      intro q
      simp only [Bool.or_eq_true, Bool.and_eq_true, decide_eq_true_iff] at q
      omega
    rw [c2, c3]
    rfl
  rw [e]
  exact bd0 r k
theorem LJ_0 : LJ mu0 := ⟨⟨mu0_H, fun i hi => by show _ ≤ (0 : Int32).toInt ∧ (0 : Int32).toInt ≤ _; exact ⟨by decide, by decide⟩, fun h => absurd rfl h⟩, 0, RD_clear (μ := mu0) (μ1 := mu0) ⟨fun k _ => ⟨rfl, rfl⟩, rfl, rfl⟩ ⟨fun k _ => rfl, rfl, fun r k _ _ => rfl⟩, ⟨fun i hi => absurd hi (by omega), fun k hk => (show bI 0 4 (0 : Int32) from ⟨by decide, by decide⟩)⟩⟩
theorem LGm_0 : LGm mu0 := ⟨LJ_0, RG_0⟩
theorem gw_L_river : GoodIn TT (va_wsS RL 83 yL_river (.codeWith yL_river cL_river 5 (some .int) [(0, 10, 13, 13)] :: TT)) := goodIn_app (a := [.methodLink RL 83 yL_river, .static yL_river, .initialized RL]) (z_goodI (z_mem3 (inTT (by decide +kernel) rfl) (inTT (by decide +kernel) rfl) (inTT (by decide +kernel) rfl))) (fun w hw => (List.mem_cons.mp hw).elim (fun e => by rw [e]; exact ⟨inTT (by decide +kernel) rfl, good_of_word rfl⟩) (fun h => ⟨h, good_of_word (TT_good _ h)⟩))
theorem gw_L_wall : GoodIn TT (va_wsS RL 110 yL_wall (.codeWith yL_wall cL_wall 4 (some .int) [(0, 9, 12, 13)] :: TT)) := goodIn_app (a := [.methodLink RL 110 yL_wall, .static yL_wall, .initialized RL]) (z_goodI (z_mem3 (inTT (by decide +kernel) rfl) (inTT (by decide +kernel) rfl) (inTT (by decide +kernel) rfl))) (fun w hw => (List.mem_cons.mp hw).elim (fun e => by rw [e]; exact ⟨inTT (by decide +kernel) rfl, good_of_word rfl⟩) (fun h => ⟨h, good_of_word (TT_good _ h)⟩))
theorem LJ_uj {μ : zM} {y : Int64} (h : LJ μ) : LJ (z_uj μ 78 0 y) := LJ.keep (md := [(78, 9999)]) h (fun r k => h.1.1 r k) (a_Fz_uj (a_Fz_rf _ _) (a_mda_md (by decide +kernel) _)) (by decide +kernel) (by decide +kernel)
theorem dW_r : decode cL_law 575 = .ok (.invokestatic 83, 3) := by decide +kernel
theorem dW_w : decode cL_law 758 = .ok (.invokestatic 110, 3) := by decide +kernel
theorem dW_x : decode cL_law 1044 = .ok (.ireturn, 1) := by decide +kernel
set_option maxHeartbeats 4000000 in
set_option maxRecDepth 100000 in
theorem law_pool {p : Program} {e : Env} {s : State} {m : MethodId} {below : List Frame} {meth : Method} {c : Code} (l : Launch) (hst : l.stackTraces = false) {b L : Nat} {xs : Nat → Int32} (hL : L ≤ 3584) (C0 : lw_At p s m meth c b L xs) (G : va_G) (k : Nat → ClassId) (hK : va_K G vwCl (tyF k) s) (hN : NW s) {A : Nat → Prop} (hA : ∀ q : Nat, s.heap.size ≤ q → A q) (hA2 : ∀ q : Nat, A q → s.heap.size ≤ q) (qx qm qo : Nat) (ux um : Nat → Nat) {H : Heap} {locs : List Loc} (hP : va_P G vwCl (lwW k qx qm qo ux um) H) (hD : va_D A (lwW k qx qm qo ux um)) (hS : va_S A s.heap H locs) (hXW : XW A s s.heap) {a101 a102 : Nat} (h101 : va_T .int a101 30 (fun j => .int (z_han.getD j 0)) A s s.heap) (h102 : va_T .int a102 30 (fun j => .int (z_ohan.getD j 0)) A s s.heap) (hz101 : va_Z RX0 "HAN" "[I" (.ref a101) A s s.heap) (hz102 : va_Z RX0 "OPEN_HAN" "[I" (.ref a102) A s s.heap) {ls : Array Slot} (hl : lv_has ls 7 [(4, .int 0), (3, .ref qo), (2, .ref qm), (1, .ref qx), (0, .ref b)]) : W p l e room_1 s m #[Value.ref b] below meth c H locs 79 2184 (lw_Z below #[Value.ref b] s) (F0 m 23 ls []) := by
  obtain ⟨hx, hb, hr, hml, hown, hts0, hX, hbl, hlocks, hgv⟩ := id C0
  have hts : ∀ w ∈ TT, w.before #[Value.ref b] s = true := fun w h => hts0 w (List.mem_filter.mp h).1
  have hbA : ¬ A b := fun h9 => Nat.not_le.mpr hbl (hA2 b h9)
  have hP1 := va_P_ref (p := 1) (g := fun j => some (lw_a qx qm qo b a101 a102 ux um (z_gr 1 j))) hP rfl (fun j hj => by rcases (show j = 0 ∨ j = 1 ∨ j = 2 ∨ j = 3 by omega) with rfl | rfl | rfl | rfl <;> rfl)
  have hP2 := va_P_ref (p := 8) (g := fun j => some (lw_a qx qm qo b a101 a102 ux um (z_gr 8 j))) hP1 rfl (fun j hj => by rcases (show j = 0 ∨ j = 1 ∨ j = 2 ∨ j = 3 by omega) with rfl | rfl | rfl | rfl <;> rfl)
  have hD1 := hD.set (p := 1) (e := .inl (k 3, 4, .inr (.inr (.inr (.inr (fun j => some (lw_a qx qm qo b a101 a102 ux um (z_gr 1 j)))))))) rfl
  have hD2 := hD1.set (p := 8) (e := .inl (k 4, 4, .inr (.inr (.inr (.inr (fun j => some (lw_a qx qm qo b a101 a102 ux um (z_gr 8 j)))))))) rfl
  rw [lw_pool] at hP2 hD2
  clear hP1 hD1 hP hD
  have e0 : lw_a qx qm qo b a101 a102 ux um 0 = qx := rfl
  have e50 : lw_a qx qm qo b a101 a102 ux um 50 = qm := rfl
  have e78 : lw_a qx qm qo b a101 a102 ux um 78 = qo := rfl
  have e100 : lw_a qx qm qo b a101 a102 ux um 100 = b := rfl
  have e101 : lw_a qx qm qo b a101 a102 ux um 101 = a101 := rfl
  have e102 : lw_a qx qm qo b a101 a102 ux um 102 = a102 := rfl
  generalize lw_a qx qm qo b a101 a102 ux um = a at hP2 hD2 e0 e50 e78 e100 e101 e102
  have hD : ∀ μ, va_D A (z_W a k 79 μ) := fun μ' => z_W_D hD2 μ'
  have hRO : z_RO a (L + 1, xs) A s s.heap := by
    refine ⟨⟨by rw [e101]; exact hz101, by rw [e102]; exact hz102⟩, fun r hr => ?_⟩
    unfold z_av at hr
    rw [Bool.or_eq_true, Bool.or_eq_true] at hr
    rcases hr with q | q | q
    · rw [z_beq q, e101]; exact h101
    · rw [z_beq q, e102]; exact h102
    · rw [z_beq (z_and q).1, e100]
      obtain ⟨scr, g1, g2, g3, g4, g5⟩ := hX
      exact ⟨scr, g1, g2, g3, Nat.le_of_eq g4.symm, by rw [g4]; rfl, g5, hbA⟩
  have hml2 : c.maxLocals = z_ml mi_L_law := hml
  have hb2 : c.code = z_cc mi_L_law := hb
  have hown2 : s.vm.findClass (z_own (z_oc mi_L_law)) = some m.cls := hown
  have Xz : z_X p s m #[Value.ref b] c mi_L_law (L + 1, xs) G k a 79 A := ⟨hx, hb2, hml2, hts, hown2, hK, hN, hD, hRO, hA, by decide +kernel, Nat.le_refl _⟩
  refine W.widen (k := 150) (n := 2400) (by decide) (by decide) ?_
  have hc := z_Z_clo (d := 705) (e := e) (R := room_1) (below := below) (meth := meth) (QW := lw_Z below #[Value.ref b] s) (b0 := 150) (fun j As μ Q h => z_sound l 705 j As μ Q h) Xz (by decide) (by decide) (by decide +kernel) (by decide +kernel) (Or.inl rfl)
  have hal := al_law
  have hZ := law_small (Nat.le_refl _) hL hc 150 (by decide)
    (fun bb lv μ h0 h1 h2 H locs ls hP hS hl => va_forget (fun q h => hA2 _ (hS.2.2 q h)) (W.widen (k := 601024) (n := 7293034) (by omega) (by omega) (lw_ret hx hb hr hlocks dW_x)))
    (fun bb t p0 p1 μ h0 hI hk h1 h2 H locs ls hP hS hl => by
      have hF := wZ_F (hD μ) hS hA
      refine z_callW (rest := []) (vx_runSW (As := [.ref (a 0), .int p0, .int p1, .ref (a 78)]) ⟨hx, hb, hml2, hown, hts⟩ (c_L_river l hst G k a H.size μ hI.1.1.1 p0 p1) (vx_cwSW 4 hts gw_L_river rfl rfl rfl (by decide +kernel) ⟨Nat.le_of_ble_eq_true rfl, Nat.le_of_ble_eq_true rfl⟩) ⟨pz_bl, pz_pre (av := [.ref (a 0), .int p0, .int p1, .ref (a 78)]) hP hD hK hN hRO hS hA hXW⟩ rfl rfl hl.1 rfl (lv_room (Nat.le_of_ble_eq_true rfl)) dW_r ⟨show bb + 1 ≤ 601024 by omega, show 16 * bb + 16 ≤ 7293034 by omega⟩) hS (fun q _ h => hF q h) hF (fun r μ' H1 locs1 hq hP1 hS1 => ?_)
      obtain ⟨⟨x, rfl⟩, hq⟩ := hq
      have hI' : LGm μ' := by
        rcases hq with rfl | ⟨y, rfl⟩
        · exact hI
        · exact LGm_uj hI (LJ_uj hI.1)
      exact hk x μ' hI' (by omega) (by omega) H1 locs1 ls hP1 hS1 hl)
    (fun bb t p0 μ h0 hI hk h1 h2 H locs ls hP hS hl => by
      have hF := wZ_F (hD μ) hS hA
      refine z_callW (rest := []) (vx_runSW (As := [.ref (a 0), .int p0, .ref (a 78)]) ⟨hx, hb, hml2, hown, hts⟩ (c_L_wall l hst G k a H.size μ hI.1.1.1 p0) (vx_cwSW 3 hts gw_L_wall rfl rfl rfl (by decide +kernel) ⟨Nat.le_of_ble_eq_true rfl, Nat.le_of_ble_eq_true rfl⟩) ⟨pz_bl, pz_pre (av := [.ref (a 0), .int p0, .ref (a 78)]) hP hD hK hN hRO hS hA hXW⟩ rfl rfl hl.1 rfl (lv_room (Nat.le_of_ble_eq_true rfl)) dW_w ⟨show bb + 1 ≤ 601024 by omega, show 16 * bb + 16 ≤ 7293034 by omega⟩) hS (fun q _ h => hF q h) hF (fun r μ' H1 locs1 hq hP1 hS1 => ?_)
      obtain ⟨⟨x, rfl⟩, hq⟩ := hq
      have hI' : LGm μ' := by
        rcases hq with rfl | ⟨y, rfl⟩
        · exact hI
        · exact LGm_uj hI (LJ_uj hI.1)
      exact hk x μ' hI' (by omega) (by omega) H1 locs1 ls hP1 hS1 hl)
    (fun bb i x y μ hz h1 h2 H locs ls hP hS hl => hz h1 h2 H locs ls hP hS (lv_sub hl [2, 3, 4, 5, 6] rfl))
    513 0 (by omega) 150 mu0 (by omega) LGm_0
  refine hZ (Nat.le_refl _) (by omega) H locs ls hP2 hS ?_
  show lv_has ls 7 [(4, .int 0), (3, .ref (a 78)), (2, .ref (a 50)), (1, .ref (a 0)), (0, .ref (a 100))]
  rw [e78, e50, e0, e100]
  exact hl

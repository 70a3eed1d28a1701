theorem dX5_init_0 : decode cX5_init 0 = .ok (.aload_n 0, 1) := by decide +kernel
theorem dX5_init_1 : decode cX5_init 1 = .ok (.invokespecial 3, 3) := by decide +kernel
theorem dX5_init_4 : decode cX5_init 4 = .ok (.return_, 1) := by decide +kernel
theorem dX3_init_0 : decode cX3_init 0 = .ok (.aload_n 0, 1) := by decide +kernel
theorem dX3_init_1 : decode cX3_init 1 = .ok (.invokespecial 3, 3) := by decide +kernel
theorem dX3_init_4 : decode cX3_init 4 = .ok (.aload_n 0, 1) := by decide +kernel
theorem dX3_init_5 : decode cX3_init 5 = .ok (.bipush 34, 2) := by decide +kernel
theorem dX3_init_7 : decode cX3_init 7 = .ok (.newarray .int, 2) := by decide +kernel
theorem dX3_init_9 : decode cX3_init 9 = .ok (.putfield 9, 3) := by decide +kernel
theorem dX3_init_12 : decode cX3_init 12 = .ok (.aload_n 0, 1) := by decide +kernel
theorem dX3_init_13 : decode cX3_init 13 = .ok (.bipush 34, 2) := by decide +kernel
theorem dX3_init_15 : decode cX3_init 15 = .ok (.newarray .int, 2) := by decide +kernel
theorem dX3_init_17 : decode cX3_init 17 = .ok (.putfield 15, 3) := by decide +kernel
theorem dX3_init_20 : decode cX3_init 20 = .ok (.aload_n 0, 1) := by decide +kernel
theorem dX3_init_21 : decode cX3_init 21 = .ok (.iconst 4, 1) := by decide +kernel
theorem dX3_init_22 : decode cX3_init 22 = .ok (.newarray .int, 2) := by decide +kernel
theorem dX3_init_24 : decode cX3_init 24 = .ok (.putfield 18, 3) := by decide +kernel
theorem dX3_init_27 : decode cX3_init 27 = .ok (.aload_n 0, 1) := by decide +kernel
theorem dX3_init_28 : decode cX3_init 28 = .ok (.iconst 4, 1) := by decide +kernel
theorem dX3_init_29 : decode cX3_init 29 = .ok (.newarray .int, 2) := by decide +kernel
theorem dX3_init_31 : decode cX3_init 31 = .ok (.putfield 21, 3) := by decide +kernel
theorem dX3_init_34 : decode cX3_init 34 = .ok (.return_, 1) := by decide +kernel
theorem dX4_init_0 : decode cX4_init 0 = .ok (.aload_n 0, 1) := by decide +kernel
theorem dX4_init_1 : decode cX4_init 1 = .ok (.invokespecial 3, 3) := by decide +kernel
theorem dX4_init_4 : decode cX4_init 4 = .ok (.aload_n 0, 1) := by decide +kernel
theorem dX4_init_5 : decode cX4_init 5 = .ok (.sipush 136, 3) := by decide +kernel
theorem dX4_init_8 : decode cX4_init 8 = .ok (.newarray .int, 2) := by decide +kernel
theorem dX4_init_10 : decode cX4_init 10 = .ok (.putfield 11, 3) := by decide +kernel
theorem dX4_init_13 : decode cX4_init 13 = .ok (.return_, 1) := by decide +kernel
theorem dX1_init_0 : decode cX1_init 0 = .ok (.aload_n 0, 1) := by decide +kernel
theorem dX1_init_1 : decode cX1_init 1 = .ok (.invokespecial 3, 3) := by decide +kernel
theorem dX1_init_4 : decode cX1_init 4 = .ok (.aload_n 0, 1) := by decide +kernel
theorem dX1_init_5 : decode cX1_init 5 = .ok (.iconst 4, 1) := by decide +kernel
theorem dX1_init_6 : decode cX1_init 6 = .ok (.newarray .int, 2) := by decide +kernel
theorem dX1_init_8 : decode cX1_init 8 = .ok (.putfield 9, 3) := by decide +kernel
theorem dX1_init_11 : decode cX1_init 11 = .ok (.aload_n 0, 1) := by decide +kernel
theorem dX1_init_12 : decode cX1_init 12 = .ok (.iconst 4, 1) := by decide +kernel
theorem dX1_init_13 : decode cX1_init 13 = .ok (.newarray .int, 2) := by decide +kernel
theorem dX1_init_15 : decode cX1_init 15 = .ok (.putfield 15, 3) := by decide +kernel
theorem dX1_init_18 : decode cX1_init 18 = .ok (.aload_n 0, 1) := by decide +kernel
theorem dX1_init_19 : decode cX1_init 19 = .ok (.iconst 4, 1) := by decide +kernel
theorem dX1_init_20 : decode cX1_init 20 = .ok (.newarray .int, 2) := by decide +kernel
theorem dX1_init_22 : decode cX1_init 22 = .ok (.putfield 18, 3) := by decide +kernel
theorem dX1_init_25 : decode cX1_init 25 = .ok (.return_, 1) := by decide +kernel
theorem dX2_init_0 : decode cX2_init 0 = .ok (.aload_n 0, 1) := by decide +kernel
theorem dX2_init_1 : decode cX2_init 1 = .ok (.invokespecial 3, 3) := by decide +kernel
theorem dX2_init_4 : decode cX2_init 4 = .ok (.aload_n 0, 1) := by decide +kernel
theorem dX2_init_5 : decode cX2_init 5 = .ok (.new 9, 3) := by decide +kernel
theorem dX2_init_8 : decode cX2_init 8 = .ok (.dup, 1) := by decide +kernel
theorem dX2_init_9 : decode cX2_init 9 = .ok (.invokespecial 11, 3) := by decide +kernel
theorem dX2_init_12 : decode cX2_init 12 = .ok (.putfield 12, 3) := by decide +kernel
theorem dX2_init_15 : decode cX2_init 15 = .ok (.aload_n 0, 1) := by decide +kernel
theorem dX2_init_16 : decode cX2_init 16 = .ok (.bipush 86, 2) := by decide +kernel
theorem dX2_init_18 : decode cX2_init 18 = .ok (.newarray .int, 2) := by decide +kernel
theorem dX2_init_20 : decode cX2_init 20 = .ok (.putfield 18, 3) := by decide +kernel
theorem dX2_init_23 : decode cX2_init 23 = .ok (.aload_n 0, 1) := by decide +kernel
theorem dX2_init_24 : decode cX2_init 24 = .ok (.sipush 25000, 3) := by decide +kernel
theorem dX2_init_27 : decode cX2_init 27 = .ok (.putfield 22, 3) := by decide +kernel
theorem dX2_init_30 : decode cX2_init 30 = .ok (.return_, 1) := by decide +kernel
def v_c_X5_init : List Cond := .code yX5_init cX5_init 1 none :: ([.methodLink RX5 3 objectInit, .instanceMethod objectInit, .code objectInit ⟨#[0xb1]⟩ 1 none] ++ ([]))
theorem vg_c_X5_init : ∀ w ∈ v_c_X5_init, goodWord w = true := vg_c (c := .code yX5_init cX5_init 1 none) (l := [.methodLink RX5 3 objectInit, .instanceMethod objectInit, .code objectInit ⟨#[0xb1]⟩ 1 none]) (by decide +kernel) (vg_nil)
set_option maxHeartbeats 4000000 in
set_option maxRecDepth 100000 in
theorem c_X5_init (l : Launch) (G : va_G) (k : Nat → ClassId) (sz : Nat) (h0 : Nat) : Met l yX5_init v_c_X5_init ({ frames := 1, cells := 0, slots := 0, locals := 12 }) (va_Pc [.ref h0] (pq G k [(h0, .inr (4, [.int 0, .int 0, .int 0, .int 0, .int 0, .int 0, .int 0, .long 0]))] sz)) (va_Qv (fun _ : Nat → Nat => True) (fun u => pt G (va_A [(h0, .inr (4, [.int 0, .int 0, .int 0, .int 0, .int 0, .int 0, .int 0, .long 0]))] sz) [(h0, .inr (4, [.int 0, .int 0, .int 0, .int 0, .int 0, .int 0, .int 0, .long 0]))]) (va_A [(h0, .inr (4, [.int 0, .int 0, .int 0, .int 0, .int 0, .int 0, .int 0, .long 0]))] sz)) 0 0 (va_A [(h0, .inr (4, [.int 0, .int 0, .int 0, .int 0, .int 0, .int 0, .int 0, .long 0]))] sz) := by
  refine Met.ofW (cc := cX5_init) (maxL := 1) (ret := none) (by decide) rfl ?_
  intro p e s m args below meth c s₁ B hml hv
  obtain ⟨rfl, hsz, ⟨hP, hK, hN⟩, hD0⟩ := hv
  have hx := B.exec
  have hb := B.bytes
  have hr := B.returns
  have hts := atoms_spec (ws := v_c_X5_init) B.pre
  have hown : s.vm.findClass RX5 = some m.cls := findClass_of_methodNamed B.named
  have hlocks := B.notSynchronized
  have hin : meth.name = "<init>" := (name_of_methodNamed B.named B.method).1
  subst hsz
  have hD := hD0.self (sz := s.heap.size)
  generalize hAe : va_A [(h0, .inr (4, [.int 0, .int 0, .int 0, .int 0, .int 0, .int 0, .int 0, .long 0]))] s.heap.size = A at hD ⊢
  have hA : ∀ q : Nat, s.heap.size ≤ q → A q := fun q h => by rw [← hAe]; exact Or.inr h
  have hS : va_S A s.heap s.heap [] := va_S.rf
  have hP : va_P G vwCl [(h0, .inr (4, [.int 0, .int 0, .int 0, .int 0, .int 0, .int 0, .int 0, .long 0]))] s.heap := hP
  have hl := lv_entry ([.ref h0]) (n := 1) (Nat.le_of_ble_eq_true rfl)
  rw [lg_entry_eq]
  generalize (lg_sl ([.ref h0]) ++ List.replicate (1 - (lg_sl ([.ref h0])).length) Slot.unset).toArray = ls at hl ⊢
  have hl : lv_has ls 1 [(0, .ref h0)] := hl
  refine lv_aload_n hx hb dX5_init_0 rfl (lv_at hl 0 rfl) ?_
  refine W.objInit hx hb hown (hts (.methodLink RX5 3 objectInit) (by decide +kernel)) (hts (.instanceMethod objectInit) (by decide +kernel)) (hts (.code objectInit ⟨#[0xb1]⟩ 1 none) (by decide +kernel)) rfl (by rw [hml]; exact hl.1) rfl dX5_init_1 (Nat.le_of_ble_eq_true rfl) (Nat.le_of_ble_eq_true rfl) ?_
  refine W.eq (g2 := F0 m 4 ls []) rfl ?_
  refine W.widen (k := 0) (n := 0) (Nat.le_of_ble_eq_true rfl) (Nat.le_of_ble_eq_true rfl) ?_
  exact W.vret hx hb hr (fun t ht hW => ⟨⟨(fun i => ([] : List Nat).getD i 0), rfl, trivial, ⟨by rw [ht]; exact hP.sub [0] rfl, hD.sub [0] (by decide) rfl⟩⟩, hS.F ht⟩) hS.2.2 dX5_init_4
def v_c_X3_init : List Cond := .code yX3_init cX3_init 1 none :: ([.methodLink RX3 3 objectInit, .instanceMethod objectInit, .code objectInit ⟨#[0xb1]⟩ 1 none, .arrayClass .int, .fieldLink RX3 9 "TileHouse$Tiles" "free" "[I", .fieldLink RX3 15 "TileHouse$Tiles" "all" "[I", .fieldLink RX3 18 "TileHouse$Tiles" "sort" "[I", .fieldLink RX3 21 "TileHouse$Tiles" "low" "[I"] ++ (wsX30 ++ ([])))
theorem vg_c_X3_init : ∀ w ∈ v_c_X3_init, goodWord w = true := vg_c (c := .code yX3_init cX3_init 1 none) (l := [.methodLink RX3 3 objectInit, .instanceMethod objectInit, .code objectInit ⟨#[0xb1]⟩ 1 none, .arrayClass .int, .fieldLink RX3 9 "TileHouse$Tiles" "free" "[I", .fieldLink RX3 15 "TileHouse$Tiles" "all" "[I", .fieldLink RX3 18 "TileHouse$Tiles" "sort" "[I", .fieldLink RX3 21 "TileHouse$Tiles" "low" "[I"]) (by decide +kernel) (vg_a vgX3 (vg_nil))
theorem i_c_X3_init_X3 : ∀ w ∈ u_ws RX3 TX3 6, w ∈ v_c_X3_init := fun _ h => List.mem_cons_of_mem _ (List.mem_append_right _ (List.mem_append_left _ h))
set_option maxHeartbeats 4000000 in
set_option maxRecDepth 100000 in
theorem c_X3_init (l : Launch) (G : va_G) (k : Nat → ClassId) (sz : Nat) (h0 : Nat) : Met l yX3_init v_c_X3_init ({ frames := 1, cells := 4, slots := 76, locals := 12 }) (va_Pc [.ref h0] (pq G k [(h0, .inr (2, [.null, .null, .null, .null, .int 0, .int 0]))] sz)) (va_Qv (fun _ : Nat → Nat => True) (fun u => pt G (va_A [(h0, .inr (2, [.null, .null, .null, .null, .int 0, .int 0]))] sz) [(h0, .inr (2, [.ref (u 0), .ref (u 1), .ref (u 2), .ref (u 3), .int 0, .int 0])), ((u 0), .inl (k 0, 34, .inl (fun _ => 0))), ((u 1), .inl (k 0, 34, .inl (fun _ => 0))), ((u 2), .inl (k 0, 4, .inl (fun _ => 0))), ((u 3), .inl (k 0, 4, .inl (fun _ => 0)))]) (va_A [(h0, .inr (2, [.null, .null, .null, .null, .int 0, .int 0]))] sz)) 4 76 (va_A [(h0, .inr (2, [.null, .null, .null, .null, .int 0, .int 0]))] sz) := by
  refine Met.ofW (cc := cX3_init) (maxL := 1) (ret := none) (by decide) rfl ?_
  intro p e s m args below meth c s₁ B hml hv
  obtain ⟨rfl, hsz, ⟨hP, hK, hN⟩, hD0⟩ := hv
  have hx := B.exec
  have hb := B.bytes
  have hr := B.returns
  have hts := atoms_spec (ws := v_c_X3_init) B.pre
  have hown : s.vm.findClass RX3 = some m.cls := findClass_of_methodNamed B.named
  have hlocks := B.notSynchronized
  have hin : meth.name = "<init>" := (name_of_methodNamed B.named B.method).1
  subst hsz
  have hD := hD0.self (sz := s.heap.size)
  generalize hAe : va_A [(h0, .inr (2, [.null, .null, .null, .null, .int 0, .int 0]))] s.heap.size = A at hD ⊢
  have hA : ∀ q : Nat, s.heap.size ≤ q → A q := fun q h => by rw [← hAe]; exact Or.inr h
  have hS : va_S A s.heap s.heap [] := va_S.rf
  have hP : va_P G vwCl [(h0, .inr (2, [.null, .null, .null, .null, .int 0, .int 0]))] s.heap := hP
  have hl := lv_entry ([.ref h0]) (n := 1) (Nat.le_of_ble_eq_true rfl)
  rw [lg_entry_eq]
  generalize (lg_sl ([.ref h0]) ++ List.replicate (1 - (lg_sl ([.ref h0])).length) Slot.unset).toArray = ls at hl ⊢
  have hl : lv_has ls 1 [(0, .ref h0)] := hl
  refine lv_aload_n hx hb dX3_init_0 rfl (lv_at hl 0 rfl) ?_
  refine W.objInit hx hb hown (hts (.methodLink RX3 3 objectInit) (by decide +kernel)) (hts (.instanceMethod objectInit) (by decide +kernel)) (hts (.code objectInit ⟨#[0xb1]⟩ 1 none) (by decide +kernel)) rfl (by rw [hml]; exact hl.1) rfl dX3_init_1 (Nat.le_of_ble_eq_true rfl) (Nat.le_of_ble_eq_true rfl) ?_
  refine W.eq (g2 := F0 m 4 ls []) rfl ?_
  refine lv_aload_n hx hb dX3_init_4 rfl (lv_at hl 0 rfl) ?_
  refine lv_bipush (v := 34) hx hb dX3_init_5 (by decide) ?_
  refine va_newa (atype := .int) (ty := .int) (N' := 34) (a0 := (34, .inl (fun _ => 0))) hx hb (hts (.arrayClass .int) (by decide +kernel)) rfl hK hP hD hS hA (fun cA => rfl) (by decide) (by decide) (by decide) (Nat.le_of_ble_eq_true rfl) (Nat.le_of_ble_eq_true rfl) dX3_init_7 (fun q1 cA H hK1 hP hD hS => ?_)
  obtain rfl : cA = k 0 := ty_same0 hK1 hK
  replace hP : va_P G vwCl [(h0, .inr (2, [.null, .null, .null, .null, .int 0, .int 0])), (q1, .inl (k 0, 34, .inl (fun _ => 0)))] H := hP
  replace hD : va_D A [(h0, .inr (2, [.null, .null, .null, .null, .int 0, .int 0])), (q1, .inl (k 0, 34, .inl (fun _ => 0)))] := hD
  refine va_putF (D := G) (ci := 2) (v := .ref q1) (ty := (.array .int)) (C := RX3) (T := TX3) (N := 6) hx hb hts i_c_X3_init_X3 tyX3 tyX3_ok nmX3 hown hK hP hD hS 0 rfl rfl 0 (by decide) (hts (.fieldLink RX3 9 "TileHouse$Tiles" "free" "[I") (by decide +kernel)) (fun _ h9 => h9) rfl hin rfl (by decide +kernel) rfl rfl (Nat.le_of_ble_eq_true rfl) dX3_init_9 (fun H locs hP hD hS => ?_)
  replace hP : va_P G vwCl [(h0, .inr (2, [.ref q1, .null, .null, .null, .int 0, .int 0])), (q1, .inl (k 0, 34, .inl (fun _ => 0)))] H := hP
  replace hD : va_D A [(h0, .inr (2, [.ref q1, .null, .null, .null, .int 0, .int 0])), (q1, .inl (k 0, 34, .inl (fun _ => 0)))] := hD
  refine lv_aload_n hx hb dX3_init_12 rfl (lv_at hl 0 rfl) ?_
  refine lv_bipush (v := 34) hx hb dX3_init_13 (by decide) ?_
  refine va_newa (atype := .int) (ty := .int) (N' := 34) (a0 := (34, .inl (fun _ => 0))) hx hb (hts (.arrayClass .int) (by decide +kernel)) rfl hK hP hD hS hA (fun cA => rfl) (by decide) (by decide) (by decide) (Nat.le_of_ble_eq_true rfl) (Nat.le_of_ble_eq_true rfl) dX3_init_15 (fun q2 cA H hK1 hP hD hS => ?_)
  obtain rfl : cA = k 0 := ty_same0 hK1 hK
  replace hP : va_P G vwCl [(h0, .inr (2, [.ref q1, .null, .null, .null, .int 0, .int 0])), (q1, .inl (k 0, 34, .inl (fun _ => 0))), (q2, .inl (k 0, 34, .inl (fun _ => 0)))] H := hP
  replace hD : va_D A [(h0, .inr (2, [.ref q1, .null, .null, .null, .int 0, .int 0])), (q1, .inl (k 0, 34, .inl (fun _ => 0))), (q2, .inl (k 0, 34, .inl (fun _ => 0)))] := hD
  refine va_putF (D := G) (ci := 2) (v := .ref q2) (ty := (.array .int)) (C := RX3) (T := TX3) (N := 6) hx hb hts i_c_X3_init_X3 tyX3 tyX3_ok nmX3 hown hK hP hD hS 0 rfl rfl 1 (by decide) (hts (.fieldLink RX3 15 "TileHouse$Tiles" "all" "[I") (by decide +kernel)) (fun _ h9 => h9) rfl hin rfl (by decide +kernel) rfl rfl (Nat.le_of_ble_eq_true rfl) dX3_init_17 (fun H locs hP hD hS => ?_)
  replace hP : va_P G vwCl [(h0, .inr (2, [.ref q1, .ref q2, .null, .null, .int 0, .int 0])), (q1, .inl (k 0, 34, .inl (fun _ => 0))), (q2, .inl (k 0, 34, .inl (fun _ => 0)))] H := hP
  replace hD : va_D A [(h0, .inr (2, [.ref q1, .ref q2, .null, .null, .int 0, .int 0])), (q1, .inl (k 0, 34, .inl (fun _ => 0))), (q2, .inl (k 0, 34, .inl (fun _ => 0)))] := hD
  refine lv_aload_n hx hb dX3_init_20 rfl (lv_at hl 0 rfl) ?_
  refine lv_iconst (v := 4) hx hb dX3_init_21 (by decide) ?_
  refine va_newa (atype := .int) (ty := .int) (N' := 4) (a0 := (4, .inl (fun _ => 0))) hx hb (hts (.arrayClass .int) (by decide +kernel)) rfl hK hP hD hS hA (fun cA => rfl) (by decide) (by decide) (by decide) (Nat.le_of_ble_eq_true rfl) (Nat.le_of_ble_eq_true rfl) dX3_init_22 (fun q3 cA H hK1 hP hD hS => ?_)
  obtain rfl : cA = k 0 := ty_same0 hK1 hK
  replace hP : va_P G vwCl [(h0, .inr (2, [.ref q1, .ref q2, .null, .null, .int 0, .int 0])), (q1, .inl (k 0, 34, .inl (fun _ => 0))), (q2, .inl (k 0, 34, .inl (fun _ => 0))), (q3, .inl (k 0, 4, .inl (fun _ => 0)))] H := hP
  replace hD : va_D A [(h0, .inr (2, [.ref q1, .ref q2, .null, .null, .int 0, .int 0])), (q1, .inl (k 0, 34, .inl (fun _ => 0))), (q2, .inl (k 0, 34, .inl (fun _ => 0))), (q3, .inl (k 0, 4, .inl (fun _ => 0)))] := hD
  refine va_putF (D := G) (ci := 2) (v := .ref q3) (ty := (.array .int)) (C := RX3) (T := TX3) (N := 6) hx hb hts i_c_X3_init_X3 tyX3 tyX3_ok nmX3 hown hK hP hD hS 0 rfl rfl 2 (by decide) (hts (.fieldLink RX3 18 "TileHouse$Tiles" "sort" "[I") (by decide +kernel)) (fun _ h9 => h9) rfl hin rfl (by decide +kernel) rfl rfl (Nat.le_of_ble_eq_true rfl) dX3_init_24 (fun H locs hP hD hS => ?_)
  replace hP : va_P G vwCl [(h0, .inr (2, [.ref q1, .ref q2, .ref q3, .null, .int 0, .int 0])), (q1, .inl (k 0, 34, .inl (fun _ => 0))), (q2, .inl (k 0, 34, .inl (fun _ => 0))), (q3, .inl (k 0, 4, .inl (fun _ => 0)))] H := hP
  replace hD : va_D A [(h0, .inr (2, [.ref q1, .ref q2, .ref q3, .null, .int 0, .int 0])), (q1, .inl (k 0, 34, .inl (fun _ => 0))), (q2, .inl (k 0, 34, .inl (fun _ => 0))), (q3, .inl (k 0, 4, .inl (fun _ => 0)))] := hD
  refine lv_aload_n hx hb dX3_init_27 rfl (lv_at hl 0 rfl) ?_
  refine lv_iconst (v := 4) hx hb dX3_init_28 (by decide) ?_
  refine va_newa (atype := .int) (ty := .int) (N' := 4) (a0 := (4, .inl (fun _ => 0))) hx hb (hts (.arrayClass .int) (by decide +kernel)) rfl hK hP hD hS hA (fun cA => rfl) (by decide) (by decide) (by decide) (Nat.le_of_ble_eq_true rfl) (Nat.le_of_ble_eq_true rfl) dX3_init_29 (fun q4 cA H hK1 hP hD hS => ?_)
  obtain rfl : cA = k 0 := ty_same0 hK1 hK
  replace hP : va_P G vwCl [(h0, .inr (2, [.ref q1, .ref q2, .ref q3, .null, .int 0, .int 0])), (q1, .inl (k 0, 34, .inl (fun _ => 0))), (q2, .inl (k 0, 34, .inl (fun _ => 0))), (q3, .inl (k 0, 4, .inl (fun _ => 0))), (q4, .inl (k 0, 4, .inl (fun _ => 0)))] H := hP
  replace hD : va_D A [(h0, .inr (2, [.ref q1, .ref q2, .ref q3, .null, .int 0, .int 0])), (q1, .inl (k 0, 34, .inl (fun _ => 0))), (q2, .inl (k 0, 34, .inl (fun _ => 0))), (q3, .inl (k 0, 4, .inl (fun _ => 0))), (q4, .inl (k 0, 4, .inl (fun _ => 0)))] := hD
  refine va_putF (D := G) (ci := 2) (v := .ref q4) (ty := (.array .int)) (C := RX3) (T := TX3) (N := 6) hx hb hts i_c_X3_init_X3 tyX3 tyX3_ok nmX3 hown hK hP hD hS 0 rfl rfl 3 (by decide) (hts (.fieldLink RX3 21 "TileHouse$Tiles" "low" "[I") (by decide +kernel)) (fun _ h9 => h9) rfl hin rfl (by decide +kernel) rfl rfl (Nat.le_of_ble_eq_true rfl) dX3_init_31 (fun H locs hP hD hS => ?_)
  replace hP : va_P G vwCl [(h0, .inr (2, [.ref q1, .ref q2, .ref q3, .ref q4, .int 0, .int 0])), (q1, .inl (k 0, 34, .inl (fun _ => 0))), (q2, .inl (k 0, 34, .inl (fun _ => 0))), (q3, .inl (k 0, 4, .inl (fun _ => 0))), (q4, .inl (k 0, 4, .inl (fun _ => 0)))] H := hP
  replace hD : va_D A [(h0, .inr (2, [.ref q1, .ref q2, .ref q3, .ref q4, .int 0, .int 0])), (q1, .inl (k 0, 34, .inl (fun _ => 0))), (q2, .inl (k 0, 34, .inl (fun _ => 0))), (q3, .inl (k 0, 4, .inl (fun _ => 0))), (q4, .inl (k 0, 4, .inl (fun _ => 0)))] := hD
  refine W.widen (k := 4) (n := 76) (Nat.le_of_ble_eq_true rfl) (Nat.le_of_ble_eq_true rfl) ?_
  exact W.vret hx hb hr (fun t ht hW => ⟨⟨(fun i => ([q1, q2, q3, q4] : List Nat).getD i 0), rfl, trivial, ⟨by rw [ht]; exact hP.sub [0, 1, 2, 3, 4] rfl, hD.sub [0, 1, 2, 3, 4] (by decide) rfl⟩⟩, hS.F ht⟩) hS.2.2 dX3_init_34
def v_c_X4_init : List Cond := .code yX4_init cX4_init 1 none :: ([.methodLink RX4 3 objectInit, .instanceMethod objectInit, .code objectInit ⟨#[0xb1]⟩ 1 none, .arrayClass .int, .fieldLink RX4 11 "TileHouse$Wall" "kinds" "[I"] ++ (wsX40 ++ ([])))
theorem vg_c_X4_init : ∀ w ∈ v_c_X4_init, goodWord w = true := vg_c (c := .code yX4_init cX4_init 1 none) (l := [.methodLink RX4 3 objectInit, .instanceMethod objectInit, .code objectInit ⟨#[0xb1]⟩ 1 none, .arrayClass .int, .fieldLink RX4 11 "TileHouse$Wall" "kinds" "[I"]) (by decide +kernel) (vg_a vgX4 (vg_nil))
theorem i_c_X4_init_X4 : ∀ w ∈ u_ws RX4 TX4 4, w ∈ v_c_X4_init := fun _ h => List.mem_cons_of_mem _ (List.mem_append_right _ (List.mem_append_left _ h))
set_option maxHeartbeats 4000000 in
set_option maxRecDepth 100000 in
theorem c_X4_init (l : Launch) (G : va_G) (k : Nat → ClassId) (sz : Nat) (h0 : Nat) : Met l yX4_init v_c_X4_init ({ frames := 1, cells := 1, slots := 136, locals := 12 }) (va_Pc [.ref h0] (pq G k [(h0, .inr (3, [.null, .int 0, .int 0, .int 0]))] sz)) (va_Qv (fun _ : Nat → Nat => True) (fun u => pt G (va_A [(h0, .inr (3, [.null, .int 0, .int 0, .int 0]))] sz) [(h0, .inr (3, [.ref (u 0), .int 0, .int 0, .int 0])), ((u 0), .inl (k 0, 136, .inl (fun _ => 0)))]) (va_A [(h0, .inr (3, [.null, .int 0, .int 0, .int 0]))] sz)) 1 136 (va_A [(h0, .inr (3, [.null, .int 0, .int 0, .int 0]))] sz) := by
  refine Met.ofW (cc := cX4_init) (maxL := 1) (ret := none) (by decide) rfl ?_
  intro p e s m args below meth c s₁ B hml hv
  obtain ⟨rfl, hsz, ⟨hP, hK, hN⟩, hD0⟩ := hv
  have hx := B.exec
  have hb := B.bytes
  have hr := B.returns
  have hts := atoms_spec (ws := v_c_X4_init) B.pre
  have hown : s.vm.findClass RX4 = some m.cls := findClass_of_methodNamed B.named
  have hlocks := B.notSynchronized
  have hin : meth.name = "<init>" := (name_of_methodNamed B.named B.method).1
  subst hsz
  have hD := hD0.self (sz := s.heap.size)
  generalize hAe : va_A [(h0, .inr (3, [.null, .int 0, .int 0, .int 0]))] s.heap.size = A at hD ⊢
  have hA : ∀ q : Nat, s.heap.size ≤ q → A q := fun q h => by rw [← hAe]; exact Or.inr h
  have hS : va_S A s.heap s.heap [] := va_S.rf
  have hP : va_P G vwCl [(h0, .inr (3, [.null, .int 0, .int 0, .int 0]))] s.heap := hP
  have hl := lv_entry ([.ref h0]) (n := 1) (Nat.le_of_ble_eq_true rfl)
  rw [lg_entry_eq]
  generalize (lg_sl ([.ref h0]) ++ List.replicate (1 - (lg_sl ([.ref h0])).length) Slot.unset).toArray = ls at hl ⊢
  have hl : lv_has ls 1 [(0, .ref h0)] := hl
  refine lv_aload_n hx hb dX4_init_0 rfl (lv_at hl 0 rfl) ?_
  refine W.objInit hx hb hown (hts (.methodLink RX4 3 objectInit) (by decide +kernel)) (hts (.instanceMethod objectInit) (by decide +kernel)) (hts (.code objectInit ⟨#[0xb1]⟩ 1 none) (by decide +kernel)) rfl (by rw [hml]; exact hl.1) rfl dX4_init_1 (Nat.le_of_ble_eq_true rfl) (Nat.le_of_ble_eq_true rfl) ?_
  refine W.eq (g2 := F0 m 4 ls []) rfl ?_
  refine lv_aload_n hx hb dX4_init_4 rfl (lv_at hl 0 rfl) ?_
  refine lv_sipush (v := 136) hx hb dX4_init_5 (by decide) ?_
  refine va_newa (atype := .int) (ty := .int) (N' := 136) (a0 := (136, .inl (fun _ => 0))) hx hb (hts (.arrayClass .int) (by decide +kernel)) rfl hK hP hD hS hA (fun cA => rfl) (by decide) (by decide) (by decide) (Nat.le_of_ble_eq_true rfl) (Nat.le_of_ble_eq_true rfl) dX4_init_8 (fun q1 cA H hK1 hP hD hS => ?_)
  obtain rfl : cA = k 0 := ty_same0 hK1 hK
  replace hP : va_P G vwCl [(h0, .inr (3, [.null, .int 0, .int 0, .int 0])), (q1, .inl (k 0, 136, .inl (fun _ => 0)))] H := hP
  replace hD : va_D A [(h0, .inr (3, [.null, .int 0, .int 0, .int 0])), (q1, .inl (k 0, 136, .inl (fun _ => 0)))] := hD
  refine va_putF (D := G) (ci := 3) (v := .ref q1) (ty := (.array .int)) (C := RX4) (T := TX4) (N := 4) hx hb hts i_c_X4_init_X4 tyX4 tyX4_ok nmX4 hown hK hP hD hS 0 rfl rfl 0 (by decide) (hts (.fieldLink RX4 11 "TileHouse$Wall" "kinds" "[I") (by decide +kernel)) (fun _ h9 => h9) rfl hin rfl (by decide +kernel) rfl rfl (Nat.le_of_ble_eq_true rfl) dX4_init_10 (fun H locs hP hD hS => ?_)
  replace hP : va_P G vwCl [(h0, .inr (3, [.ref q1, .int 0, .int 0, .int 0])), (q1, .inl (k 0, 136, .inl (fun _ => 0)))] H := hP
  replace hD : va_D A [(h0, .inr (3, [.ref q1, .int 0, .int 0, .int 0])), (q1, .inl (k 0, 136, .inl (fun _ => 0)))] := hD
  refine W.widen (k := 1) (n := 136) (Nat.le_of_ble_eq_true rfl) (Nat.le_of_ble_eq_true rfl) ?_
  exact W.vret hx hb hr (fun t ht hW => ⟨⟨(fun i => ([q1] : List Nat).getD i 0), rfl, trivial, ⟨by rw [ht]; exact hP.sub [0, 1] rfl, hD.sub [0, 1] (by decide) rfl⟩⟩, hS.F ht⟩) hS.2.2 dX4_init_13
def v_c_X1_init : List Cond := .code yX1_init cX1_init 1 none :: ([.methodLink RX1 3 objectInit, .instanceMethod objectInit, .code objectInit ⟨#[0xb1]⟩ 1 none, .arrayClass .int, .fieldLink RX1 9 "TileHouse$Judge" "sort" "[I", .fieldLink RX1 15 "TileHouse$Judge" "low" "[I", .fieldLink RX1 18 "TileHouse$Judge" "mayBeThrees" "[I"] ++ (wsX10 ++ ([])))
theorem vg_c_X1_init : ∀ w ∈ v_c_X1_init, goodWord w = true := vg_c (c := .code yX1_init cX1_init 1 none) (l := [.methodLink RX1 3 objectInit, .instanceMethod objectInit, .code objectInit ⟨#[0xb1]⟩ 1 none, .arrayClass .int, .fieldLink RX1 9 "TileHouse$Judge" "sort" "[I", .fieldLink RX1 15 "TileHouse$Judge" "low" "[I", .fieldLink RX1 18 "TileHouse$Judge" "mayBeThrees" "[I"]) (by decide +kernel) (vg_a vgX1 (vg_nil))
theorem i_c_X1_init_X1 : ∀ w ∈ u_ws RX1 TX1 19, w ∈ v_c_X1_init := fun _ h => List.mem_cons_of_mem _ (List.mem_append_right _ (List.mem_append_left _ h))
set_option maxHeartbeats 4000000 in
set_option maxRecDepth 100000 in
theorem c_X1_init (l : Launch) (G : va_G) (k : Nat → ClassId) (sz : Nat) (h0 : Nat) : Met l yX1_init v_c_X1_init ({ frames := 1, cells := 3, slots := 12, locals := 12 }) (va_Pc [.ref h0] (pq G k [(h0, .inr (0, [.int 0, .int 0, .int 0, .long 0, .int 0, .null, .int 0, .int 0, .int 0, .int 0, .int 0, .int 0, .long 0, .null, .null, .int 0, .long 0, .long 0, .null]))] sz)) (va_Qv (fun _ : Nat → Nat => True) (fun u => pt G (va_A [(h0, .inr (0, [.int 0, .int 0, .int 0, .long 0, .int 0, .null, .int 0, .int 0, .int 0, .int 0, .int 0, .int 0, .long 0, .null, .null, .int 0, .long 0, .long 0, .null]))] sz) [(h0, .inr (0, [.int 0, .int 0, .int 0, .long 0, .int 0, .null, .int 0, .int 0, .int 0, .int 0, .int 0, .int 0, .long 0, .ref (u 0), .ref (u 1), .int 0, .long 0, .long 0, .ref (u 2)])), ((u 0), .inl (k 0, 4, .inl (fun _ => 0))), ((u 1), .inl (k 0, 4, .inl (fun _ => 0))), ((u 2), .inl (k 0, 4, .inl (fun _ => 0)))]) (va_A [(h0, .inr (0, [.int 0, .int 0, .int 0, .long 0, .int 0, .null, .int 0, .int 0, .int 0, .int 0, .int 0, .int 0, .long 0, .null, .null, .int 0, .long 0, .long 0, .null]))] sz)) 3 12 (va_A [(h0, .inr (0, [.int 0, .int 0, .int 0, .long 0, .int 0, .null, .int 0, .int 0, .int 0, .int 0, .int 0, .int 0, .long 0, .null, .null, .int 0, .long 0, .long 0, .null]))] sz) := by
  refine Met.ofW (cc := cX1_init) (maxL := 1) (ret := none) (by decide) rfl ?_
  intro p e s m args below meth c s₁ B hml hv
  obtain ⟨rfl, hsz, ⟨hP, hK, hN⟩, hD0⟩ := hv
  have hx := B.exec
  have hb := B.bytes
  have hr := B.returns
  have hts := atoms_spec (ws := v_c_X1_init) B.pre
  have hown : s.vm.findClass RX1 = some m.cls := findClass_of_methodNamed B.named
  have hlocks := B.notSynchronized
  have hin : meth.name = "<init>" := (name_of_methodNamed B.named B.method).1
  subst hsz
  have hD := hD0.self (sz := s.heap.size)
  generalize hAe : va_A [(h0, .inr (0, [.int 0, .int 0, .int 0, .long 0, .int 0, .null, .int 0, .int 0, .int 0, .int 0, .int 0, .int 0, .long 0, .null, .null, .int 0, .long 0, .long 0, .null]))] s.heap.size = A at hD ⊢
  have hA : ∀ q : Nat, s.heap.size ≤ q → A q := fun q h => by rw [← hAe]; exact Or.inr h
  have hS : va_S A s.heap s.heap [] := va_S.rf
  have hP : va_P G vwCl [(h0, .inr (0, [.int 0, .int 0, .int 0, .long 0, .int 0, .null, .int 0, .int 0, .int 0, .int 0, .int 0, .int 0, .long 0, .null, .null, .int 0, .long 0, .long 0, .null]))] s.heap := hP
  have hl := lv_entry ([.ref h0]) (n := 1) (Nat.le_of_ble_eq_true rfl)
  rw [lg_entry_eq]
  generalize (lg_sl ([.ref h0]) ++ List.replicate (1 - (lg_sl ([.ref h0])).length) Slot.unset).toArray = ls at hl ⊢
  have hl : lv_has ls 1 [(0, .ref h0)] := hl
  refine lv_aload_n hx hb dX1_init_0 rfl (lv_at hl 0 rfl) ?_
  refine W.objInit hx hb hown (hts (.methodLink RX1 3 objectInit) (by decide +kernel)) (hts (.instanceMethod objectInit) (by decide +kernel)) (hts (.code objectInit ⟨#[0xb1]⟩ 1 none) (by decide +kernel)) rfl (by rw [hml]; exact hl.1) rfl dX1_init_1 (Nat.le_of_ble_eq_true rfl) (Nat.le_of_ble_eq_true rfl) ?_
  refine W.eq (g2 := F0 m 4 ls []) rfl ?_
  refine lv_aload_n hx hb dX1_init_4 rfl (lv_at hl 0 rfl) ?_
  refine lv_iconst (v := 4) hx hb dX1_init_5 (by decide) ?_
  refine va_newa (atype := .int) (ty := .int) (N' := 4) (a0 := (4, .inl (fun _ => 0))) hx hb (hts (.arrayClass .int) (by decide +kernel)) rfl hK hP hD hS hA (fun cA => rfl) (by decide) (by decide) (by decide) (Nat.le_of_ble_eq_true rfl) (Nat.le_of_ble_eq_true rfl) dX1_init_6 (fun q1 cA H hK1 hP hD hS => ?_)
  obtain rfl : cA = k 0 := ty_same0 hK1 hK
  replace hP : va_P G vwCl [(h0, .inr (0, [.int 0, .int 0, .int 0, .long 0, .int 0, .null, .int 0, .int 0, .int 0, .int 0, .int 0, .int 0, .long 0, .null, .null, .int 0, .long 0, .long 0, .null])), (q1, .inl (k 0, 4, .inl (fun _ => 0)))] H := hP
  replace hD : va_D A [(h0, .inr (0, [.int 0, .int 0, .int 0, .long 0, .int 0, .null, .int 0, .int 0, .int 0, .int 0, .int 0, .int 0, .long 0, .null, .null, .int 0, .long 0, .long 0, .null])), (q1, .inl (k 0, 4, .inl (fun _ => 0)))] := hD
  refine va_putF (D := G) (ci := 0) (v := .ref q1) (ty := (.array .int)) (C := RX1) (T := TX1) (N := 19) hx hb hts i_c_X1_init_X1 tyX1 tyX1_ok nmX1 hown hK hP hD hS 0 rfl rfl 13 (by decide) (hts (.fieldLink RX1 9 "TileHouse$Judge" "sort" "[I") (by decide +kernel)) (fun _ h9 => h9) rfl hin rfl (by decide +kernel) rfl rfl (Nat.le_of_ble_eq_true rfl) dX1_init_8 (fun H locs hP hD hS => ?_)
  replace hP : va_P G vwCl [(h0, .inr (0, [.int 0, .int 0, .int 0, .long 0, .int 0, .null, .int 0, .int 0, .int 0, .int 0, .int 0, .int 0, .long 0, .ref q1, .null, .int 0, .long 0, .long 0, .null])), (q1, .inl (k 0, 4, .inl (fun _ => 0)))] H := hP
  replace hD : va_D A [(h0, .inr (0, [.int 0, .int 0, .int 0, .long 0, .int 0, .null, .int 0, .int 0, .int 0, .int 0, .int 0, .int 0, .long 0, .ref q1, .null, .int 0, .long 0, .long 0, .null])), (q1, .inl (k 0, 4, .inl (fun _ => 0)))] := hD
  refine lv_aload_n hx hb dX1_init_11 rfl (lv_at hl 0 rfl) ?_
  refine lv_iconst (v := 4) hx hb dX1_init_12 (by decide) ?_
  refine va_newa (atype := .int) (ty := .int) (N' := 4) (a0 := (4, .inl (fun _ => 0))) hx hb (hts (.arrayClass .int) (by decide +kernel)) rfl hK hP hD hS hA (fun cA => rfl) (by decide) (by decide) (by decide) (Nat.le_of_ble_eq_true rfl) (Nat.le_of_ble_eq_true rfl) dX1_init_13 (fun q2 cA H hK1 hP hD hS => ?_)
  obtain rfl : cA = k 0 := ty_same0 hK1 hK
  replace hP : va_P G vwCl [(h0, .inr (0, [.int 0, .int 0, .int 0, .long 0, .int 0, .null, .int 0, .int 0, .int 0, .int 0, .int 0, .int 0, .long 0, .ref q1, .null, .int 0, .long 0, .long 0, .null])), (q1, .inl (k 0, 4, .inl (fun _ => 0))), (q2, .inl (k 0, 4, .inl (fun _ => 0)))] H := hP
  replace hD : va_D A [(h0, .inr (0, [.int 0, .int 0, .int 0, .long 0, .int 0, .null, .int 0, .int 0, .int 0, .int 0, .int 0, .int 0, .long 0, .ref q1, .null, .int 0, .long 0, .long 0, .null])), (q1, .inl (k 0, 4, .inl (fun _ => 0))), (q2, .inl (k 0, 4, .inl (fun _ => 0)))] := hD
  refine va_putF (D := G) (ci := 0) (v := .ref q2) (ty := (.array .int)) (C := RX1) (T := TX1) (N := 19) hx hb hts i_c_X1_init_X1 tyX1 tyX1_ok nmX1 hown hK hP hD hS 0 rfl rfl 14 (by decide) (hts (.fieldLink RX1 15 "TileHouse$Judge" "low" "[I") (by decide +kernel)) (fun _ h9 => h9) rfl hin rfl (by decide +kernel) rfl rfl (Nat.le_of_ble_eq_true rfl) dX1_init_15 (fun H locs hP hD hS => ?_)
  replace hP : va_P G vwCl [(h0, .inr (0, [.int 0, .int 0, .int 0, .long 0, .int 0, .null, .int 0, .int 0, .int 0, .int 0, .int 0, .int 0, .long 0, .ref q1, .ref q2, .int 0, .long 0, .long 0, .null])), (q1, .inl (k 0, 4, .inl (fun _ => 0))), (q2, .inl (k 0, 4, .inl (fun _ => 0)))] H := hP
  replace hD : va_D A [(h0, .inr (0, [.int 0, .int 0, .int 0, .long 0, .int 0, .null, .int 0, .int 0, .int 0, .int 0, .int 0, .int 0, .long 0, .ref q1, .ref q2, .int 0, .long 0, .long 0, .null])), (q1, .inl (k 0, 4, .inl (fun _ => 0))), (q2, .inl (k 0, 4, .inl (fun _ => 0)))] := hD
  refine lv_aload_n hx hb dX1_init_18 rfl (lv_at hl 0 rfl) ?_
  refine lv_iconst (v := 4) hx hb dX1_init_19 (by decide) ?_
  refine va_newa (atype := .int) (ty := .int) (N' := 4) (a0 := (4, .inl (fun _ => 0))) hx hb (hts (.arrayClass .int) (by decide +kernel)) rfl hK hP hD hS hA (fun cA => rfl) (by decide) (by decide) (by decide) (Nat.le_of_ble_eq_true rfl) (Nat.le_of_ble_eq_true rfl) dX1_init_20 (fun q3 cA H hK1 hP hD hS => ?_)
  obtain rfl : cA = k 0 := ty_same0 hK1 hK
  replace hP : va_P G vwCl [(h0, .inr (0, [.int 0, .int 0, .int 0, .long 0, .int 0, .null, .int 0, .int 0, .int 0, .int 0, .int 0, .int 0, .long 0, .ref q1, .ref q2, .int 0, .long 0, .long 0, .null])), (q1, .inl (k 0, 4, .inl (fun _ => 0))), (q2, .inl (k 0, 4, .inl (fun _ => 0))), (q3, .inl (k 0, 4, .inl (fun _ => 0)))] H := hP
  replace hD : va_D A [(h0, .inr (0, [.int 0, .int 0, .int 0, .long 0, .int 0, .null, .int 0, .int 0, .int 0, .int 0, .int 0, .int 0, .long 0, .ref q1, .ref q2, .int 0, .long 0, .long 0, .null])), (q1, .inl (k 0, 4, .inl (fun _ => 0))), (q2, .inl (k 0, 4, .inl (fun _ => 0))), (q3, .inl (k 0, 4, .inl (fun _ => 0)))] := hD
  refine va_putF (D := G) (ci := 0) (v := .ref q3) (ty := (.array .int)) (C := RX1) (T := TX1) (N := 19) hx hb hts i_c_X1_init_X1 tyX1 tyX1_ok nmX1 hown hK hP hD hS 0 rfl rfl 18 (by decide) (hts (.fieldLink RX1 18 "TileHouse$Judge" "mayBeThrees" "[I") (by decide +kernel)) (fun _ h9 => h9) rfl hin rfl (by decide +kernel) rfl rfl (Nat.le_of_ble_eq_true rfl) dX1_init_22 (fun H locs hP hD hS => ?_)
  replace hP : va_P G vwCl [(h0, .inr (0, [.int 0, .int 0, .int 0, .long 0, .int 0, .null, .int 0, .int 0, .int 0, .int 0, .int 0, .int 0, .long 0, .ref q1, .ref q2, .int 0, .long 0, .long 0, .ref q3])), (q1, .inl (k 0, 4, .inl (fun _ => 0))), (q2, .inl (k 0, 4, .inl (fun _ => 0))), (q3, .inl (k 0, 4, .inl (fun _ => 0)))] H := hP
  replace hD : va_D A [(h0, .inr (0, [.int 0, .int 0, .int 0, .long 0, .int 0, .null, .int 0, .int 0, .int 0, .int 0, .int 0, .int 0, .long 0, .ref q1, .ref q2, .int 0, .long 0, .long 0, .ref q3])), (q1, .inl (k 0, 4, .inl (fun _ => 0))), (q2, .inl (k 0, 4, .inl (fun _ => 0))), (q3, .inl (k 0, 4, .inl (fun _ => 0)))] := hD
  refine W.widen (k := 3) (n := 12) (Nat.le_of_ble_eq_true rfl) (Nat.le_of_ble_eq_true rfl) ?_
  exact W.vret hx hb hr (fun t ht hW => ⟨⟨(fun i => ([q1, q2, q3] : List Nat).getD i 0), rfl, trivial, ⟨by rw [ht]; exact hP.sub [0, 1, 2, 3] rfl, hD.sub [0, 1, 2, 3] (by decide) rfl⟩⟩, hS.F ht⟩) hS.2.2 dX1_init_25
def v_c_X2_init : List Cond := .code yX2_init cX2_init 1 none :: ([.methodLink RX2 3 objectInit, .instanceMethod objectInit, .code objectInit ⟨#[0xb1]⟩ 1 none, .classLink RX2 9 RX3, .instantiable RX3 6, .initialized RX3, .instanceMethod yX3_init, .fieldLink RX2 12 "TileHouse$Seat" "tiles" "LTileHouse$Tiles;", .arrayClass .int, .fieldLink RX2 18 "TileHouse$Seat" "thrown" "[I", .fieldLink RX2 22 "TileHouse$Seat" "points" "I"] ++ (wsX30 ++ (v_c_X3_init ++ (wsX20 ++ ([])))))
theorem vg_c_X2_init : ∀ w ∈ v_c_X2_init, goodWord w = true := vg_c (c := .code yX2_init cX2_init 1 none) (l := [.methodLink RX2 3 objectInit, .instanceMethod objectInit, .code objectInit ⟨#[0xb1]⟩ 1 none, .classLink RX2 9 RX3, .instantiable RX3 6, .initialized RX3, .instanceMethod yX3_init, .fieldLink RX2 12 "TileHouse$Seat" "tiles" "LTileHouse$Tiles;", .arrayClass .int, .fieldLink RX2 18 "TileHouse$Seat" "thrown" "[I", .fieldLink RX2 22 "TileHouse$Seat" "points" "I"]) (by decide +kernel) (vg_a vgX3 (vg_a vg_c_X3_init (vg_a vgX2 (vg_nil))))
theorem i_c_X2_init_X3 : ∀ w ∈ u_ws RX3 TX3 6, w ∈ v_c_X2_init := fun _ h => List.mem_cons_of_mem _ (List.mem_append_right _ (List.mem_append_left _ h))
theorem i_c_X2_init_X2 : ∀ w ∈ u_ws RX2 TX2 10, w ∈ v_c_X2_init := fun _ h => List.mem_cons_of_mem _ (List.mem_append_right _ (List.mem_append_right _ (List.mem_append_right _ (List.mem_append_left _ h))))
theorem g_c_X2_init_c_X3_init_11 : GoodIn v_c_X2_init (v_c_X3_init) := fun w h => ⟨List.mem_cons_of_mem _ (List.mem_append_right _ (List.mem_append_right _ (List.mem_append_left _ h))), good_of_word (vg_c_X3_init w h)⟩
set_option maxHeartbeats 4000000 in
set_option maxRecDepth 100000 in
theorem c_X2_init (l : Launch) (G : va_G) (k : Nat → ClassId) (sz : Nat) (h0 : Nat) : Met l yX2_init v_c_X2_init ({ frames := 2, cells := 6, slots := 168, locals := 32 }) (va_Pc [.ref h0] (pq G k [(h0, .inr (1, [.null, .null, .int 0, .long 0, .int 0, .int 0, .int 0, .int 0, .int 0, .int 0]))] sz)) (va_Qv (fun _ : Nat → Nat => True) (fun u => pt G (va_A [(h0, .inr (1, [.null, .null, .int 0, .long 0, .int 0, .int 0, .int 0, .int 0, .int 0, .int 0]))] sz) [(h0, .inr (1, [.ref (u 0), .ref (u 5), .int 0, .long 0, .int 25000, .int 0, .int 0, .int 0, .int 0, .int 0])), ((u 0), .inr (2, [.ref (u 1), .ref (u 2), .ref (u 3), .ref (u 4), .int 0, .int 0])), ((u 1), .inl (k 0, 34, .inl (fun _ => 0))), ((u 2), .inl (k 0, 34, .inl (fun _ => 0))), ((u 3), .inl (k 0, 4, .inl (fun _ => 0))), ((u 4), .inl (k 0, 4, .inl (fun _ => 0))), ((u 5), .inl (k 0, 86, .inl (fun _ => 0)))]) (va_A [(h0, .inr (1, [.null, .null, .int 0, .long 0, .int 0, .int 0, .int 0, .int 0, .int 0, .int 0]))] sz)) 6 168 (va_A [(h0, .inr (1, [.null, .null, .int 0, .long 0, .int 0, .int 0, .int 0, .int 0, .int 0, .int 0]))] sz) := by
  refine Met.ofW (cc := cX2_init) (maxL := 1) (ret := none) (by decide) rfl ?_
  intro p e s m args below meth c s₁ B hml hv
  obtain ⟨rfl, hsz, ⟨hP, hK, hN⟩, hD0⟩ := hv
  have hx := B.exec
  have hb := B.bytes
  have hr := B.returns
  have hts := atoms_spec (ws := v_c_X2_init) B.pre
  have hown : s.vm.findClass RX2 = some m.cls := findClass_of_methodNamed B.named
  have hlocks := B.notSynchronized
  have hin : meth.name = "<init>" := (name_of_methodNamed B.named B.method).1
  subst hsz
  have hD := hD0.self (sz := s.heap.size)
  generalize hAe : va_A [(h0, .inr (1, [.null, .null, .int 0, .long 0, .int 0, .int 0, .int 0, .int 0, .int 0, .int 0]))] s.heap.size = A at hD ⊢
  have hA : ∀ q : Nat, s.heap.size ≤ q → A q := fun q h => by rw [← hAe]; exact Or.inr h
  have hS : va_S A s.heap s.heap [] := va_S.rf
  have hP : va_P G vwCl [(h0, .inr (1, [.null, .null, .int 0, .long 0, .int 0, .int 0, .int 0, .int 0, .int 0, .int 0]))] s.heap := hP
  have hl := lv_entry ([.ref h0]) (n := 1) (Nat.le_of_ble_eq_true rfl)
  rw [lg_entry_eq]
  generalize (lg_sl ([.ref h0]) ++ List.replicate (1 - (lg_sl ([.ref h0])).length) Slot.unset).toArray = ls at hl ⊢
  have hl : lv_has ls 1 [(0, .ref h0)] := hl
  refine lv_aload_n hx hb dX2_init_0 rfl (lv_at hl 0 rfl) ?_
  refine W.objInit hx hb hown (hts (.methodLink RX2 3 objectInit) (by decide +kernel)) (hts (.instanceMethod objectInit) (by decide +kernel)) (hts (.code objectInit ⟨#[0xb1]⟩ 1 none) (by decide +kernel)) rfl (by rw [hml]; exact hl.1) rfl dX2_init_1 (Nat.le_of_ble_eq_true rfl) (Nat.le_of_ble_eq_true rfl) ?_
  refine W.eq (g2 := F0 m 4 ls []) rfl ?_
  refine lv_aload_n hx hb dX2_init_4 rfl (lv_at hl 0 rfl) ?_
  refine va_new (ci := 2) (fs := [.null, .null, .null, .null, .int 0, .int 0]) (C := RX3) (T := TX3) (N := 6) hx hb hts i_c_X2_init_X3 tyX3 tyX3_ok hown (hts (.classLink RX2 9 RX3) (by decide +kernel)) (hts (.instantiable RX3 6) (by decide +kernel)) (hts (.initialized RX3) (by decide +kernel)) hK hP hD hS hA rfl (by decide) (Nat.le_of_ble_eq_true rfl) (Nat.le_of_ble_eq_true rfl) dX2_init_5 (fun q1 H hP hD hS => ?_)
  replace hP : va_P G vwCl [(h0, .inr (1, [.null, .null, .int 0, .long 0, .int 0, .int 0, .int 0, .int 0, .int 0, .int 0])), (q1, .inr (2, [.null, .null, .null, .null, .int 0, .int 0]))] H := hP
  replace hD : va_D A [(h0, .inr (1, [.null, .null, .int 0, .long 0, .int 0, .int 0, .int 0, .int 0, .int 0, .int 0])), (q1, .inr (2, [.null, .null, .null, .null, .int 0, .int 0]))] := hD
  refine lv_dup hx hb dX2_init_8 rfl ?_
  have hPc := hP.sub (ws' := [(q1, .inr (2, [.null, .null, .null, .null, .int 0, .int 0]))]) [1] rfl
  have hDc := hD.sub (ws' := [(q1, .inr (2, [.null, .null, .null, .null, .int 0, .int 0]))]) [1] (by decide) rfl
  have hFc := va_free (wc := [(q1, .inr (2, [.null, .null, .null, .null, .int 0, .int 0]))]) hD hS hA [1] rfl
  refine va_callv (va_runIN (As := []) (rest := [.ref q1, .ref h0]) ⟨hx, hb, hml, hown, hts⟩ (c_X3_init l G k H.size q1) ⟨va_cnB 0 hts g_c_X2_init_c_X3_init_11 rfl rfl rfl (nw_X2_11 hN) (hts (.initialized RX3) (by decide +kernel)) (by decide +kernel) ⟨Nat.le_of_ble_eq_true rfl, Nat.le_of_ble_eq_true rfl⟩, rfl, (hts (.instanceMethod yX3_init) (by decide +kernel))⟩ ⟨pq_bl, pq_pre hPc hDc hK hN⟩ rfl rfl hl.1 rfl (lv_room (Nat.le_of_ble_eq_true rfl)) dX2_init_9 ⟨Nat.le_of_ble_eq_true rfl, Nat.le_of_ble_eq_true rfl⟩) hS (fun q _ h => hFc q h) hFc (fun ur2 t H1 locs ht hvm hr2 hB hz1 hk1 hS => ?_)
  obtain ⟨hP1, hD1⟩ := hB
  rw [ht] at hP1
  obtain ⟨hP, hD⟩ := va_join (wr := [(h0, .inr (1, [.null, .null, .int 0, .long 0, .int 0, .int 0, .int 0, .int 0, .int 0, .int 0]))]) (w1 := [(q1, .inr (2, [.ref (ur2 0), .ref (ur2 1), .ref (ur2 2), .ref (ur2 3), .int 0, .int 0])), ((ur2 0), .inl (k 0, 34, .inl (fun _ => 0))), ((ur2 1), .inl (k 0, 34, .inl (fun _ => 0))), ((ur2 2), .inl (k 0, 4, .inl (fun _ => 0))), ((ur2 3), .inl (k 0, 4, .inl (fun _ => 0)))]) hP hD [1] [0] rfl rfl (by decide) (by decide) hk1 hFc hP1 hD1
  generalize H1 = H at hP hS ⊢
  replace hP : va_P G vwCl [(h0, .inr (1, [.null, .null, .int 0, .long 0, .int 0, .int 0, .int 0, .int 0, .int 0, .int 0])), (q1, .inr (2, [.ref (ur2 0), .ref (ur2 1), .ref (ur2 2), .ref (ur2 3), .int 0, .int 0])), ((ur2 0), .inl (k 0, 34, .inl (fun _ => 0))), ((ur2 1), .inl (k 0, 34, .inl (fun _ => 0))), ((ur2 2), .inl (k 0, 4, .inl (fun _ => 0))), ((ur2 3), .inl (k 0, 4, .inl (fun _ => 0)))] H := hP
  replace hD : va_D A [(h0, .inr (1, [.null, .null, .int 0, .long 0, .int 0, .int 0, .int 0, .int 0, .int 0, .int 0])), (q1, .inr (2, [.ref (ur2 0), .ref (ur2 1), .ref (ur2 2), .ref (ur2 3), .int 0, .int 0])), ((ur2 0), .inl (k 0, 34, .inl (fun _ => 0))), ((ur2 1), .inl (k 0, 34, .inl (fun _ => 0))), ((ur2 2), .inl (k 0, 4, .inl (fun _ => 0))), ((ur2 3), .inl (k 0, 4, .inl (fun _ => 0)))] := hD
  refine va_putF (D := G) (ci := 1) (v := .ref q1) (ty := (.object "TileHouse$Tiles")) (C := RX2) (T := TX2) (N := 10) hx hb hts i_c_X2_init_X2 tyX2 tyX2_ok nmX2 hown hK hP hD hS 0 rfl rfl 0 (by decide) (hts (.fieldLink RX2 12 "TileHouse$Seat" "tiles" "LTileHouse$Tiles;") (by decide +kernel)) (fun _ h9 => h9) rfl hin rfl (by decide +kernel) rfl rfl (Nat.le_of_ble_eq_true rfl) dX2_init_12 (fun H locs hP hD hS => ?_)
  replace hP : va_P G vwCl [(h0, .inr (1, [.ref q1, .null, .int 0, .long 0, .int 0, .int 0, .int 0, .int 0, .int 0, .int 0])), (q1, .inr (2, [.ref (ur2 0), .ref (ur2 1), .ref (ur2 2), .ref (ur2 3), .int 0, .int 0])), ((ur2 0), .inl (k 0, 34, .inl (fun _ => 0))), ((ur2 1), .inl (k 0, 34, .inl (fun _ => 0))), ((ur2 2), .inl (k 0, 4, .inl (fun _ => 0))), ((ur2 3), .inl (k 0, 4, .inl (fun _ => 0)))] H := hP
  replace hD : va_D A [(h0, .inr (1, [.ref q1, .null, .int 0, .long 0, .int 0, .int 0, .int 0, .int 0, .int 0, .int 0])), (q1, .inr (2, [.ref (ur2 0), .ref (ur2 1), .ref (ur2 2), .ref (ur2 3), .int 0, .int 0])), ((ur2 0), .inl (k 0, 34, .inl (fun _ => 0))), ((ur2 1), .inl (k 0, 34, .inl (fun _ => 0))), ((ur2 2), .inl (k 0, 4, .inl (fun _ => 0))), ((ur2 3), .inl (k 0, 4, .inl (fun _ => 0)))] := hD
  refine lv_aload_n hx hb dX2_init_15 rfl (lv_at hl 0 rfl) ?_
  refine lv_bipush (v := 86) hx hb dX2_init_16 (by decide) ?_
  refine va_newa (atype := .int) (ty := .int) (N' := 86) (a0 := (86, .inl (fun _ => 0))) hx hb (hts (.arrayClass .int) (by decide +kernel)) rfl hK hP hD hS hA (fun cA => rfl) (by decide) (by decide) (by decide) (Nat.le_of_ble_eq_true rfl) (Nat.le_of_ble_eq_true rfl) dX2_init_18 (fun q3 cA H hK1 hP hD hS => ?_)
  obtain rfl : cA = k 0 := ty_same0 hK1 hK
  replace hP : va_P G vwCl [(h0, .inr (1, [.ref q1, .null, .int 0, .long 0, .int 0, .int 0, .int 0, .int 0, .int 0, .int 0])), (q1, .inr (2, [.ref (ur2 0), .ref (ur2 1), .ref (ur2 2), .ref (ur2 3), .int 0, .int 0])), ((ur2 0), .inl (k 0, 34, .inl (fun _ => 0))), ((ur2 1), .inl (k 0, 34, .inl (fun _ => 0))), ((ur2 2), .inl (k 0, 4, .inl (fun _ => 0))), ((ur2 3), .inl (k 0, 4, .inl (fun _ => 0))), (q3, .inl (k 0, 86, .inl (fun _ => 0)))] H := hP
  replace hD : va_D A [(h0, .inr (1, [.ref q1, .null, .int 0, .long 0, .int 0, .int 0, .int 0, .int 0, .int 0, .int 0])), (q1, .inr (2, [.ref (ur2 0), .ref (ur2 1), .ref (ur2 2), .ref (ur2 3), .int 0, .int 0])), ((ur2 0), .inl (k 0, 34, .inl (fun _ => 0))), ((ur2 1), .inl (k 0, 34, .inl (fun _ => 0))), ((ur2 2), .inl (k 0, 4, .inl (fun _ => 0))), ((ur2 3), .inl (k 0, 4, .inl (fun _ => 0))), (q3, .inl (k 0, 86, .inl (fun _ => 0)))] := hD
  refine va_putF (D := G) (ci := 1) (v := .ref q3) (ty := (.array .int)) (C := RX2) (T := TX2) (N := 10) hx hb hts i_c_X2_init_X2 tyX2 tyX2_ok nmX2 hown hK hP hD hS 0 rfl rfl 1 (by decide) (hts (.fieldLink RX2 18 "TileHouse$Seat" "thrown" "[I") (by decide +kernel)) (fun _ h9 => h9) rfl hin rfl (by decide +kernel) rfl rfl (Nat.le_of_ble_eq_true rfl) dX2_init_20 (fun H locs hP hD hS => ?_)
  replace hP : va_P G vwCl [(h0, .inr (1, [.ref q1, .ref q3, .int 0, .long 0, .int 0, .int 0, .int 0, .int 0, .int 0, .int 0])), (q1, .inr (2, [.ref (ur2 0), .ref (ur2 1), .ref (ur2 2), .ref (ur2 3), .int 0, .int 0])), ((ur2 0), .inl (k 0, 34, .inl (fun _ => 0))), ((ur2 1), .inl (k 0, 34, .inl (fun _ => 0))), ((ur2 2), .inl (k 0, 4, .inl (fun _ => 0))), ((ur2 3), .inl (k 0, 4, .inl (fun _ => 0))), (q3, .inl (k 0, 86, .inl (fun _ => 0)))] H := hP
  replace hD : va_D A [(h0, .inr (1, [.ref q1, .ref q3, .int 0, .long 0, .int 0, .int 0, .int 0, .int 0, .int 0, .int 0])), (q1, .inr (2, [.ref (ur2 0), .ref (ur2 1), .ref (ur2 2), .ref (ur2 3), .int 0, .int 0])), ((ur2 0), .inl (k 0, 34, .inl (fun _ => 0))), ((ur2 1), .inl (k 0, 34, .inl (fun _ => 0))), ((ur2 2), .inl (k 0, 4, .inl (fun _ => 0))), ((ur2 3), .inl (k 0, 4, .inl (fun _ => 0))), (q3, .inl (k 0, 86, .inl (fun _ => 0)))] := hD
  refine lv_aload_n hx hb dX2_init_23 rfl (lv_at hl 0 rfl) ?_
  refine lv_sipush (v := 25000) hx hb dX2_init_24 (by decide) ?_
  refine va_put (D := G) (ci := 1) (v := .int 25000) (ty := .int) (C := RX2) (T := TX2) (N := 10) hx hb hts i_c_X2_init_X2 tyX2 tyX2_ok nmX2 hown hK hP hD hS 0 rfl rfl 4 (by decide) (hts (.fieldLink RX2 22 "TileHouse$Seat" "points" "I") (by decide +kernel)) (fun _ h9 => h9) rfl (by decide +kernel) rfl rfl (Nat.le_of_ble_eq_true rfl) dX2_init_27 (fun H locs hP hD hS => ?_)
  replace hP : va_P G vwCl [(h0, .inr (1, [.ref q1, .ref q3, .int 0, .long 0, .int 25000, .int 0, .int 0, .int 0, .int 0, .int 0])), (q1, .inr (2, [.ref (ur2 0), .ref (ur2 1), .ref (ur2 2), .ref (ur2 3), .int 0, .int 0])), ((ur2 0), .inl (k 0, 34, .inl (fun _ => 0))), ((ur2 1), .inl (k 0, 34, .inl (fun _ => 0))), ((ur2 2), .inl (k 0, 4, .inl (fun _ => 0))), ((ur2 3), .inl (k 0, 4, .inl (fun _ => 0))), (q3, .inl (k 0, 86, .inl (fun _ => 0)))] H := hP
  replace hD : va_D A [(h0, .inr (1, [.ref q1, .ref q3, .int 0, .long 0, .int 25000, .int 0, .int 0, .int 0, .int 0, .int 0])), (q1, .inr (2, [.ref (ur2 0), .ref (ur2 1), .ref (ur2 2), .ref (ur2 3), .int 0, .int 0])), ((ur2 0), .inl (k 0, 34, .inl (fun _ => 0))), ((ur2 1), .inl (k 0, 34, .inl (fun _ => 0))), ((ur2 2), .inl (k 0, 4, .inl (fun _ => 0))), ((ur2 3), .inl (k 0, 4, .inl (fun _ => 0))), (q3, .inl (k 0, 86, .inl (fun _ => 0)))] := hD
  refine W.widen (k := 6) (n := 168) (Nat.le_of_ble_eq_true rfl) (Nat.le_of_ble_eq_true rfl) ?_
  exact W.vret hx hb hr (fun t ht hW => ⟨⟨(fun i => ([q1, (ur2 0), (ur2 1), (ur2 2), (ur2 3), q3] : List Nat).getD i 0), rfl, trivial, ⟨by rw [ht]; exact hP.sub [0, 1, 2, 3, 4, 5, 6] rfl, hD.sub [0, 1, 2, 3, 4, 5, 6] (by decide) rfl⟩⟩, hS.F ht⟩) hS.2.2 dX2_init_30

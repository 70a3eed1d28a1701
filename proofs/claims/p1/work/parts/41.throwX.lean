theorem dX6_river_0 : decode cX6_river 0 = .ok (.iload_n 1, 1) := by decide +kernel
theorem dX6_river_1 : decode cX6_river 1 = .ok (.invokestatic 213, 3) := by decide +kernel
theorem dX6_river_4 : decode cX6_river 4 = .ok (.ifCond .eq 19, 3) := by decide +kernel
theorem dX6_river_7 : decode cX6_river 7 = .ok (.iload_n 2, 1) := by decide +kernel
theorem dX6_river_8 : decode cX6_river 8 = .ok (.ifCond .lt 15, 3) := by decide +kernel
theorem dX6_river_23 : decode cX6_river 23 = .ok (.new 253, 3) := by decide +kernel
theorem dX6_river_26 : decode cX6_river 26 = .ok (.dup, 1) := by decide +kernel
theorem dX6_river_27 : decode cX6_river 27 = .ok (.ldc 255, 2) := by decide +kernel
theorem dX6_river_29 : decode cX6_river 29 = .ok (.invokespecial 257, 3) := by decide +kernel
theorem dX6_river_32 : decode cX6_river 32 = .ok (.athrow, 1) := by decide +kernel
theorem dX6_river_11 : decode cX6_river 11 = .ok (.iload_n 2, 1) := by decide +kernel
theorem dX6_river_12 : decode cX6_river 12 = .ok (.aload_n 0, 1) := by decide +kernel
theorem dX6_river_13 : decode cX6_river 13 = .ok (.iload_n 1, 1) := by decide +kernel
theorem dX6_river_14 : decode cX6_river 14 = .ok (.invokevirtual 65, 3) := by decide +kernel
theorem dX6_river_17 : decode cX6_river 17 = .ok (.getfield 107, 3) := by decide +kernel
theorem dX6_river_20 : decode cX6_river 20 = .ok (.if_icmp .lt 13, 3) := by decide +kernel
theorem dX6_wall_0 : decode cX6_wall 0 = .ok (.aload_n 0, 1) := by decide +kernel
theorem dX6_wall_1 : decode cX6_wall 1 = .ok (.getfield 18, 3) := by decide +kernel
theorem dX6_wall_4 : decode cX6_wall 4 = .ok (.iload_n 1, 1) := by decide +kernel
theorem dX6_wall_5 : decode cX6_wall 5 = .ok (.invokevirtual 75, 3) := by decide +kernel
theorem dX6_wall_8 : decode cX6_wall 8 = .ok (.istore_n 2, 1) := by decide +kernel
theorem dX6_wall_9 : decode cX6_wall 9 = .ok (.iload_n 2, 1) := by decide +kernel
theorem dX6_wall_10 : decode cX6_wall 10 = .ok (.iconst (-1), 1) := by decide +kernel
theorem dX6_wall_11 : decode cX6_wall 11 = .ok (.if_icmp .ne 14, 3) := by decide +kernel
theorem dX6_wall_14 : decode cX6_wall 14 = .ok (.new 253, 3) := by decide +kernel
theorem dX6_wall_17 : decode cX6_wall 17 = .ok (.dup, 1) := by decide +kernel
theorem dX6_wall_18 : decode cX6_wall 18 = .ok (.ldc_w 287, 3) := by decide +kernel
theorem dX6_wall_21 : decode cX6_wall 21 = .ok (.invokespecial 257, 3) := by decide +kernel
theorem dX6_wall_24 : decode cX6_wall 24 = .ok (.athrow, 1) := by decide +kernel
theorem dL_river_0 : decode cL_river 0 = .ok (.aload_n 3, 1) := by decide +kernel
theorem dL_river_1 : decode cL_river 1 = .ok (.iconst 0, 1) := by decide +kernel
theorem dL_river_2 : decode cL_river 2 = .ok (.aload_n 0, 1) := by decide +kernel
theorem dL_river_3 : decode cL_river 3 = .ok (.iload_n 1, 1) := by decide +kernel
theorem dL_river_4 : decode cL_river 4 = .ok (.iload_n 2, 1) := by decide +kernel
theorem dL_river_5 : decode cL_river 5 = .ok (.invokevirtual 7, 3) := by decide +kernel
theorem dL_river_13 : decode cL_river 13 = .ok (.astore 4, 2) := by decide +kernel
theorem dL_river_15 : decode cL_river 15 = .ok (.iconst 1, 1) := by decide +kernel
theorem dL_river_16 : decode cL_river 16 = .ok (.ireturn, 1) := by decide +kernel
theorem dL_wall_0 : decode cL_wall 0 = .ok (.aload_n 2, 1) := by decide +kernel
theorem dL_wall_1 : decode cL_wall 1 = .ok (.iconst 0, 1) := by decide +kernel
theorem dL_wall_2 : decode cL_wall 2 = .ok (.aload_n 0, 1) := by decide +kernel
theorem dL_wall_3 : decode cL_wall 3 = .ok (.iload_n 1, 1) := by decide +kernel
theorem dL_wall_4 : decode cL_wall 4 = .ok (.invokevirtual 15, 3) := by decide +kernel
theorem dL_wall_12 : decode cL_wall 12 = .ok (.astore_n 3, 1) := by decide +kernel
theorem dL_wall_13 : decode cL_wall 13 = .ok (.iconst 1, 1) := by decide +kernel
theorem dL_wall_14 : decode cL_wall 14 = .ok (.ireturn, 1) := by decide +kernel
theorem dX7_river_0 : decode cX7_river 0 = .ok (.aload_n 0, 1) := by decide +kernel
theorem dX7_river_1 : decode cX7_river 1 = .ok (.iload_n 1, 1) := by decide +kernel
theorem dX7_river_2 : decode cX7_river 2 = .ok (.invokestatic 355, 3) := by decide +kernel
theorem dX7_river_5 : decode cX7_river 5 = .ok (.ifCond .eq 17, 3) := by decide +kernel
theorem dX7_river_8 : decode cX7_river 8 = .ok (.iload_n 2, 1) := by decide +kernel
theorem dX7_river_9 : decode cX7_river 9 = .ok (.ifCond .lt 13, 3) := by decide +kernel
theorem dX7_river_22 : decode cX7_river 22 = .ok (.iconst 1, 1) := by decide +kernel
theorem dX7_river_23 : decode cX7_river 23 = .ok (.goto 4, 3) := by decide +kernel
theorem dX7_river_27 : decode cX7_river 27 = .ok (.putfield 103, 3) := by decide +kernel
theorem dX7_river_30 : decode cX7_river 30 = .ok (.aload_n 0, 1) := by decide +kernel
theorem dX7_river_31 : decode cX7_river 31 = .ok (.getfield 103, 3) := by decide +kernel
theorem dX7_river_34 : decode cX7_river 34 = .ok (.ifCond .le 7, 3) := by decide +kernel
theorem dX7_river_37 : decode cX7_river 37 = .ok (.iconst 0, 1) := by decide +kernel
theorem dX7_river_38 : decode cX7_river 38 = .ok (.goto 15, 3) := by decide +kernel
theorem dX7_river_53 : decode cX7_river 53 = .ok (.ireturn, 1) := by decide +kernel
theorem dX7_river_12 : decode cX7_river 12 = .ok (.iload_n 2, 1) := by decide +kernel
theorem dX7_river_13 : decode cX7_river 13 = .ok (.aload_n 0, 1) := by decide +kernel
theorem dX7_river_14 : decode cX7_river 14 = .ok (.getfield 55, 3) := by decide +kernel
theorem dX7_river_17 : decode cX7_river 17 = .ok (.iload_n 1, 1) := by decide +kernel
theorem dX7_river_18 : decode cX7_river 18 = .ok (.iaload, 1) := by decide +kernel
theorem dX7_river_19 : decode cX7_river 19 = .ok (.if_icmp .lt 7, 3) := by decide +kernel
theorem dX7_wall_0 : decode cX7_wall 0 = .ok (.aload_n 0, 1) := by decide +kernel
theorem dX7_wall_1 : decode cX7_wall 1 = .ok (.aload_n 0, 1) := by decide +kernel
theorem dX7_wall_2 : decode cX7_wall 2 = .ok (.getfield 323, 3) := by decide +kernel
theorem dX7_wall_5 : decode cX7_wall 5 = .ok (.ifCond .eq 14, 3) := by decide +kernel
theorem dX7_wall_19 : decode cX7_wall 19 = .ok (.iconst 1, 1) := by decide +kernel
theorem dX7_wall_20 : decode cX7_wall 20 = .ok (.goto 4, 3) := by decide +kernel
theorem dX7_wall_24 : decode cX7_wall 24 = .ok (.putfield 103, 3) := by decide +kernel
theorem dX7_wall_27 : decode cX7_wall 27 = .ok (.aload_n 0, 1) := by decide +kernel
theorem dX7_wall_28 : decode cX7_wall 28 = .ok (.getfield 103, 3) := by decide +kernel
theorem dX7_wall_31 : decode cX7_wall 31 = .ok (.ifCond .le 7, 3) := by decide +kernel
theorem dX7_wall_34 : decode cX7_wall 34 = .ok (.iconst 0, 1) := by decide +kernel
theorem dX7_wall_35 : decode cX7_wall 35 = .ok (.goto 9, 3) := by decide +kernel
theorem dX7_wall_44 : decode cX7_wall 44 = .ok (.ireturn, 1) := by decide +kernel
theorem dX7_thrown_0 : decode cX7_thrown 0 = .ok (.aload_n 0, 1) := by decide +kernel
theorem dX7_thrown_1 : decode cX7_thrown 1 = .ok (.getfield 103, 3) := by decide +kernel
theorem dX7_thrown_4 : decode cX7_thrown 4 = .ok (.ireturn, 1) := by decide +kernel
def cx_B : List Cond := [.declares (Bundle.initS "java/lang/RuntimeException"), .declares (Bundle.initS "java/lang/Exception"), .declares (Bundle.initS Bundle.tN), .castable cx_E cx_E]
theorem cx_ng : ∀ w ∈ cx_at.filter (fun w => !goodWord w), w ∈ cx_B := by decide +kernel
theorem vg_cx : ∀ w ∈ cx_at.filter goodWord, goodWord w = true := fun w h => (List.mem_filter.mp h).2
theorem cx_good : ∀ w ∈ Cond.classLink "TileHouse" 253 cx_E :: Cond.initialized cx_E :: cx_at, vx_ot w = true := by decide +kernel
theorem warmK {a b : String} {s U : State} (hW : s.WarmedH U.vm) (hZ : va_Nw (.castable a b) s) : va_Nw (.castable a b) U := va_tabs rfl (rfl : (s.setVm U.vm).vm = U.vm) (by rw [Cond.castable_setVm hW.alike]; exact hZ)
/-- what a throw asks of the start: three names declared, Throwable's two statics, the two texts -/
def XW (A : Nat → Prop) (U : State) (H : Heap) : Prop := (va_Nw (.declares (Bundle.initS "java/lang/RuntimeException")) U ∧ va_Nw (.declares (Bundle.initS "java/lang/Exception")) U ∧ va_Nw (.declares (Bundle.initS Bundle.tN)) U ∧ va_Nw (.castable cx_E cx_E) U) ∧ (vx_Zq Bundle.tN "UNASSIGNED_STACK" Bundle.steD A U H ∧ vx_Zq Bundle.tN "SUPPRESSED_SENTINEL" Bundle.listD A U H) ∧ (∃ sa : Nat, vk_R "TileHouse" 255 "no such discard" sa U) ∧ (∃ sa : Nat, vk_R "TileHouse" 287 "no such place" sa U)
theorem XW.warm {A : Nat → Prop} {s U : State} {H : Heap} (h : XW A s H) (hW : s.WarmedH U.vm) : XW A U H := by
  obtain ⟨⟨d1, d2, d3, d4⟩, ⟨z1, z2⟩, ⟨sa, r1⟩, sb, r2⟩ := h
  exact ⟨⟨d1.warmD hW, d2.warmD hW, d3.warmD hW, warmK hW d4⟩, ⟨vx_Zq.moved hW.alike z1, vx_Zq.moved hW.alike z2⟩, ⟨sa, vk_R.warm hW r1⟩, sb, vk_R.warm hW r2⟩
theorem XW.same {A : Nat → Prop} {s U : State} {H : Heap} (h : XW A s H) (hv : s.vm = U.vm) : XW A U H := by
  obtain ⟨⟨d1, d2, d3, d4⟩, ⟨z1, z2⟩, ⟨sa, r1⟩, sb, r2⟩ := h
  have ha : s.vm.Alike U.vm := by rw [hv]; exact Vm.Alike.refl _
  exact ⟨⟨d1.same rfl hv, d2.same rfl hv, d3.same rfl hv, d4.same rfl hv⟩, ⟨vx_Zq.moved ha z1, vx_Zq.moved ha z2⟩, ⟨sa, vk_R.same hv.symm r1⟩, sb, vk_R.same hv.symm r2⟩
theorem XW.kept {A : Nat → Prop} {U : State} {H H1 : Heap} (h : XW A U H) (hq : ∀ a : Nat, a < H.size → ¬ A a → H1[a]? = H[a]?) : XW A U H1 := ⟨h.1, ⟨h.2.1.1.kept hq, h.2.1.2.kept hq⟩, h.2.2⟩
theorem XW.narrow {A B : Nat → Prop} {U : State} {H : Heap} (h : XW A U H) (hAB : ∀ q, B q → A q) : XW B U H := ⟨h.1, ⟨h.2.1.1.narrow hAB, h.2.1.2.narrow hAB⟩, h.2.2⟩
def px (G : va_G) (k : Nat → ClassId) (ws : va_W) (sz : Nat) (U : State) : Prop := pq G k ws sz U ∧ XW (va_A ws sz) U U.heap
theorem px_bl {av : List Value} {G : va_G} {k : Nat → ClassId} {ws : va_W} {sz : Nat} : FrameBlind (va_Pc av (px G k ws sz)) := fun a U g mk q => ⟨q.1, (pq_bl (av := av) a U g mk ⟨q.1, q.2.1⟩).2, q.2.2.same rfl⟩
theorem px_pre {av : List Value} {G : va_G} {k : Nat → ClassId} {A : Nat → Prop} {ws : va_W} {H : Heap} {s : State} (hP : va_P G vwCl ws H) (hD : va_D A ws) (hK : va_K G vwCl (tyF k) s) (hN : NW s) (hX : XW (va_A ws H.size) s H) : ∀ U : State, U.heap = H → s.WarmedH U.vm → va_Pc av (px G k ws H.size) av.toArray U := fun U hU hW => ⟨rfl, (pq_pre (av := av) hP hD hK hN U hU hW).2, by rw [hU]; exact hX.warm hW⟩
def v_c_X6_river0 : List Cond := .code yX6_river cX6_river 3 (some .int) :: ([.methodLink RX6 213 yX6_isSeat, .static yX6_isSeat, .initialized RX6, .classLink RX6 253 "java/util/NoSuchElementException", .initialized "java/util/NoSuchElementException", .methodLink RX6 65 yX6_at, .instanceMethod yX6_at, .selects RX6 yX6_at yX6_at, .fieldLink RX6 107 "TileHouse$Seat" "discards" "I"] ++ (v_c_X6_isSeat ++ (v_c_X6_at ++ (wsX20 ++ (cx_at.filter goodWord ++ ([]))))))
theorem vg_c_X6_river0 : ∀ w ∈ v_c_X6_river0, goodWord w = true := vg_c (c := .code yX6_river cX6_river 3 (some .int)) (l := [.methodLink RX6 213 yX6_isSeat, .static yX6_isSeat, .initialized RX6, .classLink RX6 253 "java/util/NoSuchElementException", .initialized "java/util/NoSuchElementException", .methodLink RX6 65 yX6_at, .instanceMethod yX6_at, .selects RX6 yX6_at yX6_at, .fieldLink RX6 107 "TileHouse$Seat" "discards" "I"]) (by decide +kernel) (vg_a vg_c_X6_isSeat (vg_a vg_c_X6_at (vg_a vgX2 (vg_a vg_cx (vg_nil)))))
theorem i_c_X6_river0_X2 : ∀ w ∈ u_ws RX2 TX2 10, w ∈ v_c_X6_river0 := fun _ h => List.mem_cons_of_mem _ (List.mem_append_right _ (List.mem_append_right _ (List.mem_append_right _ (List.mem_append_left _ h))))
theorem g_c_X6_river0_c_X6_isSeat_213 : GoodIn v_c_X6_river0 (wsS RX6 213 yX6_isSeat v_c_X6_isSeat) := goodIn_app (goodIn_of _ (by decide +kernel)) (fun w h => ⟨List.mem_cons_of_mem _ (List.mem_append_right _ (List.mem_append_left _ h)), good_of_word (vg_c_X6_isSeat w h)⟩)
theorem g_c_X6_river0_c_X6_at_65 : GoodIn v_c_X6_river0 (wsV RX6 65 RX6 yX6_at v_c_X6_at) := goodIn_app (goodIn_of _ (by decide +kernel)) (fun w h => ⟨List.mem_cons_of_mem _ (List.mem_append_right _ (List.mem_append_right _ (List.mem_append_left _ h))), good_of_word (vg_c_X6_at w h)⟩)
set_option maxHeartbeats 4000000 in
set_option maxRecDepth 100000 in
theorem c_X6_river0 (l : Launch) (hst : l.stackTraces = false) (G : va_G) (k : Nat → ClassId) (sz : Nat) (h0 : Nat) (pl : Nat) (f : Nat → Option Nat) (sa : Nat → Nat) (hf : ∀ j, j < 4 → f j = some (sa j)) (s0 : Nat) (p0 : Int32) (p1 : Int32) (hs : vp_in p0 4 → sa (p0 &&& 3).toNatClampNeg = s0) (x1 : Value) (x2 : Value) (x3 : Value) (x4 : Value) (x5 : Value) (x6 : Value) (x7 : Value) (x8 : Value) (x9 : Value) (x10 : Value) (x11 : Value) (x12 : Value) (x13 : Value) (x14 : Value) (x15 : Value) (x16 : Value) (x17 : Value) (x18 : Value) (oy0 : Value) (oy1 : Value) (oy3 : Value) (oy4 : Value) (oy5 : Value) (oy6 : Value) (oy7 : Value) (oy8 : Value) (oy9 : Value) : vx_Met l yX6_river v_c_X6_river0 ({ frames := 6, cells := 1, slots := 6, locals := 90 }) (va_Pc [.ref h0, .int p0, .int p1] (px G k [(h0, .inr (5, [.ref pl, x1, x2, x3, x4, x5, x6, x7, x8, x9, x10, x11, x12, x13, x14, x15, x16, x17, x18])), (pl, .inl (k 3, 4, .inr (.inr (.inr (.inr f))))), (s0, .inr (1, [oy0, oy1, .int 0, oy3, oy4, oy5, oy6, oy7, oy8, oy9]))] sz)) (va_Qi (fun (_ : Int32) (_ : Unit) => False) (fun _ _ => True) (va_A [(h0, .inr (5, [.ref pl, x1, x2, x3, x4, x5, x6, x7, x8, x9, x10, x11, x12, x13, x14, x15, x16, x17, x18])), (pl, .inl (k 3, 4, .inr (.inr (.inr (.inr f))))), (s0, .inr (1, [oy0, oy1, .int 0, oy3, oy4, oy5, oy6, oy7, oy8, oy9]))] sz)) (vx_X (fun _ : Unit => True) (fun E _ _ => E = cx_E) (va_A [(h0, .inr (5, [.ref pl, x1, x2, x3, x4, x5, x6, x7, x8, x9, x10, x11, x12, x13, x14, x15, x16, x17, x18])), (pl, .inl (k 3, 4, .inr (.inr (.inr (.inr f))))), (s0, .inr (1, [oy0, oy1, .int 0, oy3, oy4, oy5, oy6, oy7, oy8, oy9]))] sz)) 1 6 (va_A [(h0, .inr (5, [.ref pl, x1, x2, x3, x4, x5, x6, x7, x8, x9, x10, x11, x12, x13, x14, x15, x16, x17, x18])), (pl, .inl (k 3, 4, .inr (.inr (.inr (.inr f))))), (s0, .inr (1, [oy0, oy1, .int 0, oy3, oy4, oy5, oy6, oy7, oy8, oy9]))] sz) := by
  refine vx_ofW (cc := cX6_river) (maxL := 3) (ret := (some .int)) (by decide) rfl ?_
  intro p e s m args below meth c s₁ B hml htab hv
  obtain ⟨rfl, ⟨hsz, ⟨hP, hK, hN⟩, hD0⟩, hXW⟩ := hv
  have hx := B.exec
  have hb := B.bytes
  have hts := atoms_spec (ws := v_c_X6_river0) B.pre
  have hown : s.vm.findClass RX6 = some m.cls := findClass_of_methodNamed B.named
  have hlocks := B.notSynchronized
  subst hsz
  have hS : va_S (va_A [(h0, .inr (5, [.ref pl, x1, x2, x3, x4, x5, x6, x7, x8, x9, x10, x11, x12, x13, x14, x15, x16, x17, x18])), (pl, .inl (k 3, 4, .inr (.inr (.inr (.inr f))))), (s0, .inr (1, [oy0, oy1, .int 0, oy3, oy4, oy5, oy6, oy7, oy8, oy9]))] s.heap.size) s.heap s.heap [] := va_S.rf
  obtain ⟨⟨hd1, hd2, hd3, hd4⟩, ⟨hZ1, hZ2⟩, ⟨sq, hsa⟩, -⟩ := hXW
  have hl := lv_entry ([.ref h0, .int p0, .int p1]) (n := 3) (Nat.le_of_ble_eq_true rfl)
  rw [lg_entry_eq]
  generalize (lg_sl ([.ref h0, .int p0, .int p1]) ++ List.replicate (3 - (lg_sl ([.ref h0, .int p0, .int p1])).length) Slot.unset).toArray = ls at hl ⊢
  have hl : lv_has ls 3 [(0, .ref h0), (1, .int p0), (2, .int p1)] := hl
  refine lv_iload_n hx hb dX6_river_0 rfl (lv_at hl 1 rfl) ?_
  have hPc := hP.sub (ws' := []) [] rfl
  refine q_calli (va_runS (As := [.int p0]) (rest := []) ⟨hx, hb, hml, hown, hts⟩ (c_X6_isSeat l G k p0) (cwS 1 hts g_c_X6_river0_c_X6_isSeat_213 rfl rfl rfl (by decide +kernel) ⟨Nat.le_of_ble_eq_true rfl, Nat.le_of_ble_eq_true rfl⟩) ⟨pr_bl, pr_pre hPc hK hN⟩ rfl rfl hl.1 rfl (lv_room (Nat.le_of_ble_eq_true rfl)) dX6_river_1 ⟨Nat.le_of_ble_eq_true rfl, Nat.le_of_ble_eq_true rfl⟩) (fun r1 hr1 => ?_)
  rcases hr1 with ⟨rfl, h2⟩ | ⟨rfl, h2⟩
  · skip
    refine lv_if_eq (tgt := 23) hx hb dX6_river_4 (by decide) (fun c9 => absurd c9 (by decide)) (fun _ => ?_)
    refine lv_iload_n hx hb dX6_river_7 rfl (lv_at hl 2 rfl) ?_
    refine lv_if_lt (tgt := 23) hx hb dX6_river_8 (by decide) (fun c3 => ?_) (fun c3 => ?_)
    · skip
      exact cx_throw (text := "no such discard") (ik := 253) (is := 255) hx hb hst hown (hts (.classLink RX6 253 "java/util/NoSuchElementException") (by decide +kernel)) (hts (.initialized "java/util/NoSuchElementException") (by decide +kernel)) hsa (vx_hat (fun w h => hts w (List.mem_cons_of_mem _ (List.mem_append_right _ (List.mem_append_right _ (List.mem_append_right _ (List.mem_append_right _ (List.mem_append_left _ h))))))) cx_ng (vx_c (va_Nw.use rfl hd1) (vx_c (va_Nw.use rfl hd2) (vx_c (va_Nw.use rfl hd3) (vx_c (va_Nw.use rfl hd4) vx_n))))) cx_good hZ1 hZ2 hS (hl.1.trans hml.symm) dX6_river_23 dX6_river_26 dX6_river_27 dX6_river_29 dX6_river_32 (fun x h => (htab x h).elim) (Nat.le_of_ble_eq_true rfl) (Nat.le_of_ble_eq_true rfl) (Nat.le_of_ble_eq_true rfl) (Nat.le_of_ble_eq_true rfl) hlocks (fun t h1 h2 h3 => ⟨(), trivial, rfl, h2, fun q h _ => h3 q h⟩) (fun z h => by cases h) (Nat.le_of_ble_eq_true rfl) (Nat.le_of_ble_eq_true rfl)
    · skip
      refine lv_iload_n hx hb dX6_river_11 rfl (lv_at hl 2 rfl) ?_
      refine lv_aload_n hx hb dX6_river_12 rfl (lv_at hl 0 rfl) ?_
      refine lv_iload_n hx hb dX6_river_13 rfl (lv_at hl 1 rfl) ?_
      have hPc := hP.sub (ws' := [(h0, .inr (5, [.ref pl, x1, x2, x3, x4, x5, x6, x7, x8, x9, x10, x11, x12, x13, x14, x15, x16, x17, x18])), (pl, .inl (k 3, 4, .inr (.inr (.inr (.inr f)))))]) [0, 1] rfl
      refine q_callr (va_runV (As := [.int p0]) (rest := [.int p1]) ⟨hx, hb, hml, hown, hts⟩ (c_X6_at l G k h0 pl f sa hf p0 (x1) (x2) (x3) (x4) (x5) (x6) (x7) (x8) (x9) (x10) (x11) (x12) (x13) (x14) (x15) (x16) (x17) (x18)) (cwV 1 hts g_c_X6_river0_c_X6_at_65 rfl rfl rfl (by decide +kernel) ⟨Nat.le_of_ble_eq_true rfl, Nat.le_of_ble_eq_true rfl⟩) ⟨pr_bl, va_recv hK hPc (ci := 5) (q0 := 0) rfl rfl, pr_pre hPc hK hN⟩ rfl rfl hl.1 rfl (lv_room (Nat.le_of_ble_eq_true rfl)) dX6_river_14 ⟨Nat.le_of_ble_eq_true rfl, Nat.le_of_ble_eq_true rfl⟩) (fun r4 hr4 => ?_)
      rw [show r4 = s0 from hr4.trans (hs h2)]
      refine va_get (D := G) (ci := 1) (v := .int 0) (C := RX2) (T := TX2) (N := 10) hx hb hts i_c_X6_river0_X2 hown hK hP 2 rfl rfl 2 (by decide) (hts (.fieldLink RX6 107 "TileHouse$Seat" "discards" "I") (by decide +kernel)) (fun _ h9 => h9) rfl dX6_river_17 ?_
      refine lv_icmp_lt (tgt := 33) hx hb dX6_river_20 (by decide) (fun c9 => absurd c9 (by assumption)) (fun _ => ?_)
      exact cx_throw (text := "no such discard") (ik := 253) (is := 255) hx hb hst hown (hts (.classLink RX6 253 "java/util/NoSuchElementException") (by decide +kernel)) (hts (.initialized "java/util/NoSuchElementException") (by decide +kernel)) hsa (vx_hat (fun w h => hts w (List.mem_cons_of_mem _ (List.mem_append_right _ (List.mem_append_right _ (List.mem_append_right _ (List.mem_append_right _ (List.mem_append_left _ h))))))) cx_ng (vx_c (va_Nw.use rfl hd1) (vx_c (va_Nw.use rfl hd2) (vx_c (va_Nw.use rfl hd3) (vx_c (va_Nw.use rfl hd4) vx_n))))) cx_good hZ1 hZ2 hS (hl.1.trans hml.symm) dX6_river_23 dX6_river_26 dX6_river_27 dX6_river_29 dX6_river_32 (fun x h => (htab x h).elim) (Nat.le_of_ble_eq_true rfl) (Nat.le_of_ble_eq_true rfl) (Nat.le_of_ble_eq_true rfl) (Nat.le_of_ble_eq_true rfl) hlocks (fun t h1 h2 h3 => ⟨(), trivial, rfl, h2, fun q h _ => h3 q h⟩) (fun z h => by cases h) (Nat.le_of_ble_eq_true rfl) (Nat.le_of_ble_eq_true rfl)
  · skip
    refine lv_if_eq (tgt := 23) hx hb dX6_river_4 (by decide) (fun _ => ?_) (fun c9 => absurd (by decide) c9)
    exact cx_throw (text := "no such discard") (ik := 253) (is := 255) hx hb hst hown (hts (.classLink RX6 253 "java/util/NoSuchElementException") (by decide +kernel)) (hts (.initialized "java/util/NoSuchElementException") (by decide +kernel)) hsa (vx_hat (fun w h => hts w (List.mem_cons_of_mem _ (List.mem_append_right _ (List.mem_append_right _ (List.mem_append_right _ (List.mem_append_right _ (List.mem_append_left _ h))))))) cx_ng (vx_c (va_Nw.use rfl hd1) (vx_c (va_Nw.use rfl hd2) (vx_c (va_Nw.use rfl hd3) (vx_c (va_Nw.use rfl hd4) vx_n))))) cx_good hZ1 hZ2 hS (hl.1.trans hml.symm) dX6_river_23 dX6_river_26 dX6_river_27 dX6_river_29 dX6_river_32 (fun x h => (htab x h).elim) (Nat.le_of_ble_eq_true rfl) (Nat.le_of_ble_eq_true rfl) (Nat.le_of_ble_eq_true rfl) (Nat.le_of_ble_eq_true rfl) hlocks (fun t h1 h2 h3 => ⟨(), trivial, rfl, h2, fun q h _ => h3 q h⟩) (fun z h => by cases h) (Nat.le_of_ble_eq_true rfl) (Nat.le_of_ble_eq_true rfl)
def v_c_X6_wall0 : List Cond := .code yX6_wall cX6_wall 3 (some .int) :: ([.fieldLink RX6 18 "TileHouse" "bricks" "LTileHouse$Wall;", .methodLink RX6 75 yX4_kindAt, .instanceMethod yX4_kindAt, .selects RX4 yX4_kindAt yX4_kindAt, .initialized RX4, .classLink RX6 253 "java/util/NoSuchElementException", .initialized "java/util/NoSuchElementException"] ++ (wsX60 ++ (v_c_X4_kindAt0 ++ (cx_at.filter goodWord ++ ([])))))
theorem vg_c_X6_wall0 : ∀ w ∈ v_c_X6_wall0, goodWord w = true := vg_c (c := .code yX6_wall cX6_wall 3 (some .int)) (l := [.fieldLink RX6 18 "TileHouse" "bricks" "LTileHouse$Wall;", .methodLink RX6 75 yX4_kindAt, .instanceMethod yX4_kindAt, .selects RX4 yX4_kindAt yX4_kindAt, .initialized RX4, .classLink RX6 253 "java/util/NoSuchElementException", .initialized "java/util/NoSuchElementException"]) (by decide +kernel) (vg_a vgX6 (vg_a vg_c_X4_kindAt0 (vg_a vg_cx (vg_nil))))
theorem i_c_X6_wall0_X6 : ∀ w ∈ u_ws RX6 TX6 19, w ∈ v_c_X6_wall0 := fun _ h => List.mem_cons_of_mem _ (List.mem_append_right _ (List.mem_append_left _ h))
theorem g_c_X6_wall0_c_X4_kindAt0_75 : GoodIn v_c_X6_wall0 (wsV RX6 75 RX4 yX4_kindAt v_c_X4_kindAt0) := goodIn_app (goodIn_of _ (by decide +kernel)) (fun w h => ⟨List.mem_cons_of_mem _ (List.mem_append_right _ (List.mem_append_right _ (List.mem_append_left _ h))), good_of_word (vg_c_X4_kindAt0 w h)⟩)
set_option maxHeartbeats 4000000 in
set_option maxRecDepth 100000 in
theorem c_X6_wall0 (l : Launch) (hst : l.stackTraces = false) (G : va_G) (k : Nat → ClassId) (sz : Nat) (h0 : Nat) (wl : Nat) (p0 : Int32) (x0 : Value) (x2 : Value) (x3 : Value) (x4 : Value) (x5 : Value) (x6 : Value) (x7 : Value) (x8 : Value) (x9 : Value) (x10 : Value) (x11 : Value) (x12 : Value) (x13 : Value) (x14 : Value) (x15 : Value) (x16 : Value) (x17 : Value) (x18 : Value) (oy0 : Value) (oy2 : Value) (oy3 : Value) : vx_Met l yX6_wall v_c_X6_wall0 ({ frames := 6, cells := 1, slots := 6, locals := 90 }) (va_Pc [.ref h0, .int p0] (px G k [(h0, .inr (5, [x0, .ref wl, x2, x3, x4, x5, x6, x7, x8, x9, x10, x11, x12, x13, x14, x15, x16, x17, x18])), (wl, .inr (3, [oy0, .int 0, oy2, oy3]))] sz)) (va_Qi (fun (_ : Int32) (_ : Unit) => False) (fun _ _ => True) (va_A [(h0, .inr (5, [x0, .ref wl, x2, x3, x4, x5, x6, x7, x8, x9, x10, x11, x12, x13, x14, x15, x16, x17, x18])), (wl, .inr (3, [oy0, .int 0, oy2, oy3]))] sz)) (vx_X (fun _ : Unit => True) (fun E _ _ => E = cx_E) (va_A [(h0, .inr (5, [x0, .ref wl, x2, x3, x4, x5, x6, x7, x8, x9, x10, x11, x12, x13, x14, x15, x16, x17, x18])), (wl, .inr (3, [oy0, .int 0, oy2, oy3]))] sz)) 1 6 (va_A [(h0, .inr (5, [x0, .ref wl, x2, x3, x4, x5, x6, x7, x8, x9, x10, x11, x12, x13, x14, x15, x16, x17, x18])), (wl, .inr (3, [oy0, .int 0, oy2, oy3]))] sz) := by
  refine vx_ofW (cc := cX6_wall) (maxL := 3) (ret := (some .int)) (by decide) rfl ?_
  intro p e s m args below meth c s₁ B hml htab hv
  obtain ⟨rfl, ⟨hsz, ⟨hP, hK, hN⟩, hD0⟩, hXW⟩ := hv
  have hx := B.exec
  have hb := B.bytes
  have hts := atoms_spec (ws := v_c_X6_wall0) B.pre
  have hown : s.vm.findClass RX6 = some m.cls := findClass_of_methodNamed B.named
  have hlocks := B.notSynchronized
  subst hsz
  have hS : va_S (va_A [(h0, .inr (5, [x0, .ref wl, x2, x3, x4, x5, x6, x7, x8, x9, x10, x11, x12, x13, x14, x15, x16, x17, x18])), (wl, .inr (3, [oy0, .int 0, oy2, oy3]))] s.heap.size) s.heap s.heap [] := va_S.rf
  obtain ⟨⟨hd1, hd2, hd3, hd4⟩, ⟨hZ1, hZ2⟩, -, ⟨sq, hsa⟩⟩ := hXW
  have hl := lv_entry ([.ref h0, .int p0]) (n := 3) (Nat.le_of_ble_eq_true rfl)
  rw [lg_entry_eq]
  generalize (lg_sl ([.ref h0, .int p0]) ++ List.replicate (3 - (lg_sl ([.ref h0, .int p0])).length) Slot.unset).toArray = ls at hl ⊢
  have hl : lv_has ls 3 [(0, .ref h0), (1, .int p0)] := hl
  refine lv_aload_n hx hb dX6_wall_0 rfl (lv_at hl 0 rfl) ?_
  refine va_get (D := G) (ci := 5) (v := .ref wl) (C := RX6) (T := TX6) (N := 19) hx hb hts i_c_X6_wall0_X6 hown hK hP 0 rfl rfl 1 (by decide) (hts (.fieldLink RX6 18 "TileHouse" "bricks" "LTileHouse$Wall;") (by decide +kernel)) (fun _ h9 => h9) rfl dX6_wall_1 ?_
  refine lv_iload_n hx hb dX6_wall_4 rfl (lv_at hl 1 rfl) ?_
  have hPc := hP.sub (ws' := [(wl, .inr (3, [oy0, .int 0, oy2, oy3]))]) [1] rfl
  refine q_calli (va_runV (As := [.int p0]) (rest := []) ⟨hx, hb, hml, hown, hts⟩ (c_X4_kindAt0 l G k wl p0 (oy0) (oy2) (oy3)) (cwV 1 hts g_c_X6_wall0_c_X4_kindAt0_75 rfl rfl rfl (by decide +kernel) ⟨Nat.le_of_ble_eq_true rfl, Nat.le_of_ble_eq_true rfl⟩) ⟨pr_bl, va_recv hK hPc (ci := 3) (q0 := 0) rfl rfl, pr_pre hPc hK hN⟩ rfl rfl hl.1 rfl (lv_room (Nat.le_of_ble_eq_true rfl)) dX6_wall_5 ⟨Nat.le_of_ble_eq_true rfl, Nat.le_of_ble_eq_true rfl⟩) (fun r1 hr1 => ?_)
  obtain rfl : r1 = (-1) := hr1
  refine lv_istore_n (lv' := [(2, .int (-1)), (0, .ref h0), (1, .int p0)]) hx hb dX6_wall_8 rfl hl (by decide) rfl (fun ls hl => ?_)
  refine lv_iload_n hx hb dX6_wall_9 rfl (lv_at hl 0 rfl) ?_
  refine lv_iconst (v := (-1)) hx hb dX6_wall_10 (by decide) ?_
  refine lv_icmp_ne (tgt := 25) hx hb dX6_wall_11 (by decide) (fun c9 => absurd (by decide) c9) (fun _ => ?_)
  exact cx_throwW (text := "no such place") (ik := 253) (is := 287) hx hb hst hown (hts (.classLink RX6 253 "java/util/NoSuchElementException") (by decide +kernel)) (hts (.initialized "java/util/NoSuchElementException") (by decide +kernel)) hsa (vx_hat (fun w h => hts w (List.mem_cons_of_mem _ (List.mem_append_right _ (List.mem_append_right _ (List.mem_append_right _ (List.mem_append_left _ h)))))) cx_ng (vx_c (va_Nw.use rfl hd1) (vx_c (va_Nw.use rfl hd2) (vx_c (va_Nw.use rfl hd3) (vx_c (va_Nw.use rfl hd4) vx_n))))) cx_good hZ1 hZ2 hS (hl.1.trans hml.symm) dX6_wall_14 dX6_wall_17 dX6_wall_18 dX6_wall_21 dX6_wall_24 (fun x h => (htab x h).elim) (Nat.le_of_ble_eq_true rfl) (Nat.le_of_ble_eq_true rfl) (Nat.le_of_ble_eq_true rfl) (Nat.le_of_ble_eq_true rfl) hlocks (fun t h1 h2 h3 => ⟨(), trivial, rfl, h2, fun q h _ => h3 q h⟩) (fun z h => by cases h) (Nat.le_of_ble_eq_true rfl) (Nat.le_of_ble_eq_true rfl)
def v_l_river : List Cond := .codeWith yL_river cL_river 5 (some .int) [(0, 10, 13, 13)] :: ([.classLink RL 13 "java/util/NoSuchElementException", .methodLink RL 7 yX6_river, .instanceMethod yX6_river, .selects RX6 yX6_river yX6_river, .initialized RX6] ++ (v_c_X6_river0 ++ ([])))
theorem vg_l_river : ∀ w ∈ v_l_river, goodWord w = true := vg_c (c := .codeWith yL_river cL_river 5 (some .int) [(0, 10, 13, 13)]) (l := [.classLink RL 13 "java/util/NoSuchElementException", .methodLink RL 7 yX6_river, .instanceMethod yX6_river, .selects RX6 yX6_river yX6_river, .initialized RX6]) (by decide +kernel) (vg_a vg_c_X6_river0 (vg_nil))
theorem g_l_river_c_X6_river0_7 : GoodIn v_l_river (wsV RL 7 RX6 yX6_river v_c_X6_river0) := goodIn_app (goodIn_of _ (by decide +kernel)) (fun w h => ⟨List.mem_cons_of_mem _ (List.mem_append_right _ (List.mem_append_left _ h)), good_of_word (vg_c_X6_river0 w h)⟩)
set_option maxHeartbeats 4000000 in
set_option maxRecDepth 100000 in
theorem l_river (l : Launch) (hst : l.stackTraces = false) (G : va_G) (k : Nat → ClassId) (sz : Nat) (h0 : Nat) (pl : Nat) (f : Nat → Option Nat) (sa : Nat → Nat) (hf : ∀ j, j < 4 → f j = some (sa j)) (s0 : Nat) (p0 : Int32) (p1 : Int32) (hs : vp_in p0 4 → sa (p0 &&& 3).toNatClampNeg = s0) (x1 : Value) (x2 : Value) (x3 : Value) (x4 : Value) (x5 : Value) (x6 : Value) (x7 : Value) (x8 : Value) (x9 : Value) (x10 : Value) (x11 : Value) (x12 : Value) (x13 : Value) (x14 : Value) (x15 : Value) (x16 : Value) (x17 : Value) (x18 : Value) (oy0 : Value) (oy1 : Value) (oy3 : Value) (oy4 : Value) (oy5 : Value) (oy6 : Value) (oy7 : Value) (oy8 : Value) (oy9 : Value) (o0 : Nat) : Met l yL_river v_l_river ({ frames := 7, cells := 1, slots := 6, locals := 112 }) (va_Pc [.ref h0, .int p0, .int p1, .ref o0] (px G k [(h0, .inr (5, [.ref pl, x1, x2, x3, x4, x5, x6, x7, x8, x9, x10, x11, x12, x13, x14, x15, x16, x17, x18])), (pl, .inl (k 3, 4, .inr (.inr (.inr (.inr f))))), (s0, .inr (1, [oy0, oy1, .int 0, oy3, oy4, oy5, oy6, oy7, oy8, oy9])), (o0, .inl (k 1, 1, .inr (.inl (fun _ => 0))))] sz)) (va_Qi (fun r (_ : Unit) => r = 1) (fun _ _ => True) (va_A [(h0, .inr (5, [.ref pl, x1, x2, x3, x4, x5, x6, x7, x8, x9, x10, x11, x12, x13, x14, x15, x16, x17, x18])), (pl, .inl (k 3, 4, .inr (.inr (.inr (.inr f))))), (s0, .inr (1, [oy0, oy1, .int 0, oy3, oy4, oy5, oy6, oy7, oy8, oy9])), (o0, .inl (k 1, 1, .inr (.inl (fun _ => 0))))] sz)) 1 6 (va_A [(h0, .inr (5, [.ref pl, x1, x2, x3, x4, x5, x6, x7, x8, x9, x10, x11, x12, x13, x14, x15, x16, x17, x18])), (pl, .inl (k 3, 4, .inr (.inr (.inr (.inr f))))), (s0, .inr (1, [oy0, oy1, .int 0, oy3, oy4, oy5, oy6, oy7, oy8, oy9])), (o0, .inl (k 1, 1, .inr (.inl (fun _ => 0))))] sz) := by
  refine va_MetW (cc := cL_river) (maxL := 5) (ret := (some .int)) (hh := [(0, 10, 13, 13)]) (by decide) rfl ?_
  intro p e s m args below meth c s₁ B hml hv
  obtain ⟨rfl, ⟨hsz, ⟨hP, hK, hN⟩, hD0⟩, hXW⟩ := hv
  have hx := B.exec
  have hb := B.bytes
  have hr := B.returns
  have hts := atoms_spec (ws := v_l_river) B.pre
  have hown : s.vm.findClass RL = some m.cls := findClass_of_methodNamed B.named
  have hlocks := B.notSynchronized
  have htab := vx_table (x := yL_river) B (hts (.codeWith yL_river cL_river 5 (some .int) [(0, 10, 13, 13)]) List.mem_cons_self)
  subst hsz
  have hD := hD0.self (sz := s.heap.size)
  generalize hAe : va_A [(h0, .inr (5, [.ref pl, x1, x2, x3, x4, x5, x6, x7, x8, x9, x10, x11, x12, x13, x14, x15, x16, x17, x18])), (pl, .inl (k 3, 4, .inr (.inr (.inr (.inr f))))), (s0, .inr (1, [oy0, oy1, .int 0, oy3, oy4, oy5, oy6, oy7, oy8, oy9])), (o0, .inl (k 1, 1, .inr (.inl (fun _ => 0))))] s.heap.size = A at hD hXW ⊢
  have hA : ∀ q : Nat, s.heap.size ≤ q → A q := fun q h => by rw [← hAe]; exact Or.inr h
  have hS : va_S A s.heap s.heap [] := va_S.rf
  have hP : va_P G vwCl [(h0, .inr (5, [.ref pl, x1, x2, x3, x4, x5, x6, x7, x8, x9, x10, x11, x12, x13, x14, x15, x16, x17, x18])), (pl, .inl (k 3, 4, .inr (.inr (.inr (.inr f))))), (s0, .inr (1, [oy0, oy1, .int 0, oy3, oy4, oy5, oy6, oy7, oy8, oy9])), (o0, .inl (k 1, 1, .inr (.inl (fun _ => 0))))] s.heap := hP
  have hl := lv_entry ([.ref h0, .int p0, .int p1, .ref o0]) (n := 5) (Nat.le_of_ble_eq_true rfl)
  rw [lg_entry_eq]
  generalize (lg_sl ([.ref h0, .int p0, .int p1, .ref o0]) ++ List.replicate (5 - (lg_sl ([.ref h0, .int p0, .int p1, .ref o0])).length) Slot.unset).toArray = ls at hl ⊢
  have hl : lv_has ls 5 [(0, .ref h0), (1, .int p0), (2, .int p1), (3, .ref o0)] := hl
  refine lv_aload_n hx hb dL_river_0 rfl (lv_at hl 3 rfl) ?_
  refine lv_iconst (v := 0) hx hb dL_river_1 (by decide) ?_
  refine lv_aload_n hx hb dL_river_2 rfl (lv_at hl 0 rfl) ?_
  refine lv_iload_n hx hb dL_river_3 rfl (lv_at hl 1 rfl) ?_
  refine lv_iload_n hx hb dL_river_4 rfl (lv_at hl 2 rfl) ?_
  have hPc := hP.sub (ws' := [(h0, .inr (5, [.ref pl, x1, x2, x3, x4, x5, x6, x7, x8, x9, x10, x11, x12, x13, x14, x15, x16, x17, x18])), (pl, .inl (k 3, 4, .inr (.inr (.inr (.inr f))))), (s0, .inr (1, [oy0, oy1, .int 0, oy3, oy4, oy5, oy6, oy7, oy8, oy9]))]) [0, 1, 2] rfl
  have hDc := hD.sub (ws' := [(h0, .inr (5, [.ref pl, x1, x2, x3, x4, x5, x6, x7, x8, x9, x10, x11, x12, x13, x14, x15, x16, x17, x18])), (pl, .inl (k 3, 4, .inr (.inr (.inr (.inr f))))), (s0, .inr (1, [oy0, oy1, .int 0, oy3, oy4, oy5, oy6, oy7, oy8, oy9]))]) [0, 1, 2] (by decide) rfl
  have hFc := va_free (wc := [(h0, .inr (5, [.ref pl, x1, x2, x3, x4, x5, x6, x7, x8, x9, x10, x11, x12, x13, x14, x15, x16, x17, x18])), (pl, .inl (k 3, 4, .inr (.inr (.inr (.inr f))))), (s0, .inr (1, [oy0, oy1, .int 0, oy3, oy4, oy5, oy6, oy7, oy8, oy9]))]) hD hS hA [0, 1, 2] rfl
  refine vx_calli (vx_runV (As := [.int p0, .int p1]) (rest := [.int 0, .ref o0]) ⟨hx, hb, hml, hown, hts⟩ (c_X6_river0 l hst G k s.heap.size h0 pl f sa hf s0 p0 p1 hs x1 x2 x3 x4 x5 x6 x7 x8 x9 x10 x11 x12 x13 x14 x15 x16 x17 x18 oy0 oy1 oy3 oy4 oy5 oy6 oy7 oy8 oy9) (cwV 2 hts g_l_river_c_X6_river0_7 rfl rfl rfl (by decide +kernel) ⟨Nat.le_of_ble_eq_true rfl, Nat.le_of_ble_eq_true rfl⟩) ⟨px_bl, va_recv hK hPc (ci := 5) (q0 := 0) rfl rfl, px_pre hPc hDc hK hN (hXW.narrow hFc)⟩ rfl rfl hl.1 rfl (lv_room (Nat.le_of_ble_eq_true rfl)) dL_river_5 ⟨Nat.le_of_ble_eq_true rfl, Nat.le_of_ble_eq_true rfl⟩) hS (fun q _ h => hFc q h) hFc (fun q _ h => hFc q h) (fun E ce q9 u t H1 locs1 ht hvm hpx hBX hz hk1 hS hce hcv hcl => ?_) (fun r u t H1 locs1 ht hvm hp => hp.elim)
  subst hBX
  refine cx_catch (own := RL) (name := cx_E) hown _ _ htab (by decide) (by decide) (hts (.classLink RL 13 "java/util/NoSuchElementException") (by decide +kernel)) (va_Nw.use rfl hXW.1.2.2.2) hce hcv hcl ?_
  refine W.eq (g2 := F0 m 13 ls [.ref q9]) rfl ?_
  refine lv_astore (lv' := [(4, .ref q9), (0, .ref h0), (1, .int p0), (2, .int p1), (3, .ref o0)]) hx hb dL_river_13 hl (by decide) rfl (fun ls hl => ?_)
  refine lv_iconst (v := 1) hx hb dL_river_15 (by decide) ?_
  refine W.widen (k := 1) (n := 6) (Nat.le_of_ble_eq_true rfl) (Nat.le_of_ble_eq_true rfl) ?_
  exact W.iret (v := 1) hx hb hr (fun t ht hW => ⟨⟨1, (), rfl, rfl, trivial⟩, hS.F ht⟩) hS.2.2 dL_river_16
def v_l_wall : List Cond := .codeWith yL_wall cL_wall 4 (some .int) [(0, 9, 12, 13)] :: ([.classLink RL 13 "java/util/NoSuchElementException", .methodLink RL 15 yX6_wall, .instanceMethod yX6_wall, .selects RX6 yX6_wall yX6_wall, .initialized RX6] ++ (v_c_X6_wall0 ++ ([])))
theorem vg_l_wall : ∀ w ∈ v_l_wall, goodWord w = true := vg_c (c := .codeWith yL_wall cL_wall 4 (some .int) [(0, 9, 12, 13)]) (l := [.classLink RL 13 "java/util/NoSuchElementException", .methodLink RL 15 yX6_wall, .instanceMethod yX6_wall, .selects RX6 yX6_wall yX6_wall, .initialized RX6]) (by decide +kernel) (vg_a vg_c_X6_wall0 (vg_nil))
theorem g_l_wall_c_X6_wall0_15 : GoodIn v_l_wall (wsV RL 15 RX6 yX6_wall v_c_X6_wall0) := goodIn_app (goodIn_of _ (by decide +kernel)) (fun w h => ⟨List.mem_cons_of_mem _ (List.mem_append_right _ (List.mem_append_left _ h)), good_of_word (vg_c_X6_wall0 w h)⟩)
set_option maxHeartbeats 4000000 in
set_option maxRecDepth 100000 in
theorem l_wall (l : Launch) (hst : l.stackTraces = false) (G : va_G) (k : Nat → ClassId) (sz : Nat) (h0 : Nat) (wl : Nat) (p0 : Int32) (x0 : Value) (x2 : Value) (x3 : Value) (x4 : Value) (x5 : Value) (x6 : Value) (x7 : Value) (x8 : Value) (x9 : Value) (x10 : Value) (x11 : Value) (x12 : Value) (x13 : Value) (x14 : Value) (x15 : Value) (x16 : Value) (x17 : Value) (x18 : Value) (oy0 : Value) (oy2 : Value) (oy3 : Value) (o0 : Nat) : Met l yL_wall v_l_wall ({ frames := 7, cells := 1, slots := 6, locals := 112 }) (va_Pc [.ref h0, .int p0, .ref o0] (px G k [(h0, .inr (5, [x0, .ref wl, x2, x3, x4, x5, x6, x7, x8, x9, x10, x11, x12, x13, x14, x15, x16, x17, x18])), (wl, .inr (3, [oy0, .int 0, oy2, oy3])), (o0, .inl (k 1, 1, .inr (.inl (fun _ => 0))))] sz)) (va_Qi (fun r (_ : Unit) => r = 1) (fun _ _ => True) (va_A [(h0, .inr (5, [x0, .ref wl, x2, x3, x4, x5, x6, x7, x8, x9, x10, x11, x12, x13, x14, x15, x16, x17, x18])), (wl, .inr (3, [oy0, .int 0, oy2, oy3])), (o0, .inl (k 1, 1, .inr (.inl (fun _ => 0))))] sz)) 1 6 (va_A [(h0, .inr (5, [x0, .ref wl, x2, x3, x4, x5, x6, x7, x8, x9, x10, x11, x12, x13, x14, x15, x16, x17, x18])), (wl, .inr (3, [oy0, .int 0, oy2, oy3])), (o0, .inl (k 1, 1, .inr (.inl (fun _ => 0))))] sz) := by
  refine va_MetW (cc := cL_wall) (maxL := 4) (ret := (some .int)) (hh := [(0, 9, 12, 13)]) (by decide) rfl ?_
  intro p e s m args below meth c s₁ B hml hv
  obtain ⟨rfl, ⟨hsz, ⟨hP, hK, hN⟩, hD0⟩, hXW⟩ := hv
  have hx := B.exec
  have hb := B.bytes
  have hr := B.returns
  have hts := atoms_spec (ws := v_l_wall) B.pre
  have hown : s.vm.findClass RL = some m.cls := findClass_of_methodNamed B.named
  have hlocks := B.notSynchronized
  have htab := vx_table (x := yL_wall) B (hts (.codeWith yL_wall cL_wall 4 (some .int) [(0, 9, 12, 13)]) List.mem_cons_self)
  subst hsz
  have hD := hD0.self (sz := s.heap.size)
  generalize hAe : va_A [(h0, .inr (5, [x0, .ref wl, x2, x3, x4, x5, x6, x7, x8, x9, x10, x11, x12, x13, x14, x15, x16, x17, x18])), (wl, .inr (3, [oy0, .int 0, oy2, oy3])), (o0, .inl (k 1, 1, .inr (.inl (fun _ => 0))))] s.heap.size = A at hD hXW ⊢
  have hA : ∀ q : Nat, s.heap.size ≤ q → A q := fun q h => by rw [← hAe]; exact Or.inr h
  have hS : va_S A s.heap s.heap [] := va_S.rf
  have hP : va_P G vwCl [(h0, .inr (5, [x0, .ref wl, x2, x3, x4, x5, x6, x7, x8, x9, x10, x11, x12, x13, x14, x15, x16, x17, x18])), (wl, .inr (3, [oy0, .int 0, oy2, oy3])), (o0, .inl (k 1, 1, .inr (.inl (fun _ => 0))))] s.heap := hP
  have hl := lv_entry ([.ref h0, .int p0, .ref o0]) (n := 4) (Nat.le_of_ble_eq_true rfl)
  rw [lg_entry_eq]
  generalize (lg_sl ([.ref h0, .int p0, .ref o0]) ++ List.replicate (4 - (lg_sl ([.ref h0, .int p0, .ref o0])).length) Slot.unset).toArray = ls at hl ⊢
  have hl : lv_has ls 4 [(0, .ref h0), (1, .int p0), (2, .ref o0)] := hl
  refine lv_aload_n hx hb dL_wall_0 rfl (lv_at hl 2 rfl) ?_
  refine lv_iconst (v := 0) hx hb dL_wall_1 (by decide) ?_
  refine lv_aload_n hx hb dL_wall_2 rfl (lv_at hl 0 rfl) ?_
  refine lv_iload_n hx hb dL_wall_3 rfl (lv_at hl 1 rfl) ?_
  have hPc := hP.sub (ws' := [(h0, .inr (5, [x0, .ref wl, x2, x3, x4, x5, x6, x7, x8, x9, x10, x11, x12, x13, x14, x15, x16, x17, x18])), (wl, .inr (3, [oy0, .int 0, oy2, oy3]))]) [0, 1] rfl
  have hDc := hD.sub (ws' := [(h0, .inr (5, [x0, .ref wl, x2, x3, x4, x5, x6, x7, x8, x9, x10, x11, x12, x13, x14, x15, x16, x17, x18])), (wl, .inr (3, [oy0, .int 0, oy2, oy3]))]) [0, 1] (by decide) rfl
  have hFc := va_free (wc := [(h0, .inr (5, [x0, .ref wl, x2, x3, x4, x5, x6, x7, x8, x9, x10, x11, x12, x13, x14, x15, x16, x17, x18])), (wl, .inr (3, [oy0, .int 0, oy2, oy3]))]) hD hS hA [0, 1] rfl
  refine vx_calli (vx_runV (As := [.int p0]) (rest := [.int 0, .ref o0]) ⟨hx, hb, hml, hown, hts⟩ (c_X6_wall0 l hst G k s.heap.size h0 wl p0 x0 x2 x3 x4 x5 x6 x7 x8 x9 x10 x11 x12 x13 x14 x15 x16 x17 x18 oy0 oy2 oy3) (cwV 1 hts g_l_wall_c_X6_wall0_15 rfl rfl rfl (by decide +kernel) ⟨Nat.le_of_ble_eq_true rfl, Nat.le_of_ble_eq_true rfl⟩) ⟨px_bl, va_recv hK hPc (ci := 5) (q0 := 0) rfl rfl, px_pre hPc hDc hK hN (hXW.narrow hFc)⟩ rfl rfl hl.1 rfl (lv_room (Nat.le_of_ble_eq_true rfl)) dL_wall_4 ⟨Nat.le_of_ble_eq_true rfl, Nat.le_of_ble_eq_true rfl⟩) hS (fun q _ h => hFc q h) hFc (fun q _ h => hFc q h) (fun E ce q9 u t H1 locs1 ht hvm hpx hBX hz hk1 hS hce hcv hcl => ?_) (fun r u t H1 locs1 ht hvm hp => hp.elim)
  subst hBX
  refine cx_catch (own := RL) (name := cx_E) hown _ _ htab (by decide) (by decide) (hts (.classLink RL 13 "java/util/NoSuchElementException") (by decide +kernel)) (va_Nw.use rfl hXW.1.2.2.2) hce hcv hcl ?_
  refine W.eq (g2 := F0 m 12 ls [.ref q9]) rfl ?_
  refine lv_astore_n (lv' := [(3, .ref q9), (0, .ref h0), (1, .int p0), (2, .ref o0)]) hx hb dL_wall_12 rfl hl (by decide) rfl (fun ls hl => ?_)
  refine lv_iconst (v := 1) hx hb dL_wall_13 (by decide) ?_
  refine W.widen (k := 1) (n := 6) (Nat.le_of_ble_eq_true rfl) (Nat.le_of_ble_eq_true rfl) ?_
  exact W.iret (v := 1) hx hb hr (fun t ht hW => ⟨⟨1, (), rfl, rfl, trivial⟩, hS.F ht⟩) hS.2.2 dL_wall_14
def v_m_river : List Cond := .code yX7_river cX7_river 3 (some .int) :: ([.methodLink RX7 355 yX7_isSeat, .static yX7_isSeat, .initialized RX7, .fieldLink RX7 103 "TileHouseModel" "thrown" "I", .fieldLink RX7 55 "TileHouseModel" "riverMany" "[I"] ++ (v_c_X7_isSeat ++ (wsX70 ++ ([]))))
theorem vg_m_river : ∀ w ∈ v_m_river, goodWord w = true := vg_c (c := .code yX7_river cX7_river 3 (some .int)) (l := [.methodLink RX7 355 yX7_isSeat, .static yX7_isSeat, .initialized RX7, .fieldLink RX7 103 "TileHouseModel" "thrown" "I", .fieldLink RX7 55 "TileHouseModel" "riverMany" "[I"]) (by decide +kernel) (vg_a vg_c_X7_isSeat (vg_a vgX7 (vg_nil)))
theorem i_m_river_X7 : ∀ w ∈ u_ws RX7 TX7 68, w ∈ v_m_river := fun _ h => List.mem_cons_of_mem _ (List.mem_append_right _ (List.mem_append_right _ (List.mem_append_left _ h)))
theorem g_m_river_c_X7_isSeat_355 : GoodIn v_m_river (wsS RX7 355 yX7_isSeat v_c_X7_isSeat) := goodIn_app (goodIn_of _ (by decide +kernel)) (fun w h => ⟨List.mem_cons_of_mem _ (List.mem_append_right _ (List.mem_append_left _ h)), good_of_word (vg_c_X7_isSeat w h)⟩)
set_option maxHeartbeats 4000000 in
set_option maxRecDepth 100000 in
theorem m_river (l : Launch) (G : va_G) (k : Nat → ClassId) (sz : Nat) (h0 : Nat) (u : Nat → Nat) (p0 : Int32) (p1 : Int32) : Met l yX7_river v_m_river ({ frames := 1, cells := 0, slots := 0, locals := 20 }) (va_Pc [.ref h0, .int p0, .int p1] (pq G k [(h0, .inr (6, [.int 0, .ref (u 0), .ref (u 1), .ref (u 2), .int 0, .ref (u 3), .ref (u 4), .int 0, .int 0, .int 0, .int 0, .int 0, .long 0, .int 0, .int 0, .int 0, .int 0, .long 0, .int 0, .ref (u 5), .ref (u 6), .int 0, .int 0, .int 0, .long 0, .long 0, .ref (u 7), .ref (u 8), .ref (u 9), .ref (u 10), .ref (u 11), .ref (u 12), .ref (u 13), .ref (u 14), .ref (u 15), .ref (u 16), .ref (u 17), .ref (u 18), .ref (u 19), .ref (u 20), .int 0, .int 0, .int 0, .int 0, .int 0, .int 0, .int 0, .int 0, .int 0, .int (-1), .int (-1), .int (-1), .int 0, .int 0, .int 0, .int 0, .int 0, .int 0, .int 0, .int 0, .ref (u 21), .ref (u 22), .ref (u 23), .ref (u 24), .ref (u 25), .ref (u 26), .int 0, .long 0])), ((u 15), .inl (k 0, 4, .inl (fun _ => 0)))] sz)) (va_Qi (fun r (_ : Unit) => r = 0) (fun (_ : Unit) => pt G (va_A [(h0, .inr (6, [.int 0, .ref (u 0), .ref (u 1), .ref (u 2), .int 0, .ref (u 3), .ref (u 4), .int 0, .int 0, .int 0, .int 0, .int 0, .long 0, .int 0, .int 0, .int 0, .int 0, .long 0, .int 0, .ref (u 5), .ref (u 6), .int 0, .int 0, .int 0, .long 0, .long 0, .ref (u 7), .ref (u 8), .ref (u 9), .ref (u 10), .ref (u 11), .ref (u 12), .ref (u 13), .ref (u 14), .ref (u 15), .ref (u 16), .ref (u 17), .ref (u 18), .ref (u 19), .ref (u 20), .int 0, .int 0, .int 0, .int 0, .int 0, .int 0, .int 0, .int 0, .int 0, .int (-1), .int (-1), .int (-1), .int 0, .int 0, .int 0, .int 0, .int 0, .int 0, .int 0, .int 0, .ref (u 21), .ref (u 22), .ref (u 23), .ref (u 24), .ref (u 25), .ref (u 26), .int 0, .long 0])), ((u 15), .inl (k 0, 4, .inl (fun _ => 0)))] sz) [(h0, .inr (6, [.int 1, .ref (u 0), .ref (u 1), .ref (u 2), .int 0, .ref (u 3), .ref (u 4), .int 0, .int 0, .int 0, .int 0, .int 0, .long 0, .int 0, .int 0, .int 0, .int 0, .long 0, .int 0, .ref (u 5), .ref (u 6), .int 0, .int 0, .int 0, .long 0, .long 0, .ref (u 7), .ref (u 8), .ref (u 9), .ref (u 10), .ref (u 11), .ref (u 12), .ref (u 13), .ref (u 14), .ref (u 15), .ref (u 16), .ref (u 17), .ref (u 18), .ref (u 19), .ref (u 20), .int 0, .int 0, .int 0, .int 0, .int 0, .int 0, .int 0, .int 0, .int 0, .int (-1), .int (-1), .int (-1), .int 0, .int 0, .int 0, .int 0, .int 0, .int 0, .int 0, .int 0, .ref (u 21), .ref (u 22), .ref (u 23), .ref (u 24), .ref (u 25), .ref (u 26), .int 0, .long 0]))]) (va_A [(h0, .inr (6, [.int 0, .ref (u 0), .ref (u 1), .ref (u 2), .int 0, .ref (u 3), .ref (u 4), .int 0, .int 0, .int 0, .int 0, .int 0, .long 0, .int 0, .int 0, .int 0, .int 0, .long 0, .int 0, .ref (u 5), .ref (u 6), .int 0, .int 0, .int 0, .long 0, .long 0, .ref (u 7), .ref (u 8), .ref (u 9), .ref (u 10), .ref (u 11), .ref (u 12), .ref (u 13), .ref (u 14), .ref (u 15), .ref (u 16), .ref (u 17), .ref (u 18), .ref (u 19), .ref (u 20), .int 0, .int 0, .int 0, .int 0, .int 0, .int 0, .int 0, .int 0, .int 0, .int (-1), .int (-1), .int (-1), .int 0, .int 0, .int 0, .int 0, .int 0, .int 0, .int 0, .int 0, .ref (u 21), .ref (u 22), .ref (u 23), .ref (u 24), .ref (u 25), .ref (u 26), .int 0, .long 0])), ((u 15), .inl (k 0, 4, .inl (fun _ => 0)))] sz)) 0 0 (va_A [(h0, .inr (6, [.int 0, .ref (u 0), .ref (u 1), .ref (u 2), .int 0, .ref (u 3), .ref (u 4), .int 0, .int 0, .int 0, .int 0, .int 0, .long 0, .int 0, .int 0, .int 0, .int 0, .long 0, .int 0, .ref (u 5), .ref (u 6), .int 0, .int 0, .int 0, .long 0, .long 0, .ref (u 7), .ref (u 8), .ref (u 9), .ref (u 10), .ref (u 11), .ref (u 12), .ref (u 13), .ref (u 14), .ref (u 15), .ref (u 16), .ref (u 17), .ref (u 18), .ref (u 19), .ref (u 20), .int 0, .int 0, .int 0, .int 0, .int 0, .int 0, .int 0, .int 0, .int 0, .int (-1), .int (-1), .int (-1), .int 0, .int 0, .int 0, .int 0, .int 0, .int 0, .int 0, .int 0, .ref (u 21), .ref (u 22), .ref (u 23), .ref (u 24), .ref (u 25), .ref (u 26), .int 0, .long 0])), ((u 15), .inl (k 0, 4, .inl (fun _ => 0)))] sz) := by
  refine Met.ofW (cc := cX7_river) (maxL := 3) (ret := (some .int)) (by decide) rfl ?_
  intro p e s m args below meth c s₁ B hml hv
  obtain ⟨rfl, hsz, ⟨hP, hK, hN⟩, hD0⟩ := hv
  have hx := B.exec
  have hb := B.bytes
  have hr := B.returns
  have hts := atoms_spec (ws := v_m_river) B.pre
  have hown : s.vm.findClass RX7 = some m.cls := findClass_of_methodNamed B.named
  have hlocks := B.notSynchronized
  subst hsz
  have hD := hD0.self (sz := s.heap.size)
  generalize hAe : va_A [(h0, .inr (6, [.int 0, .ref (u 0), .ref (u 1), .ref (u 2), .int 0, .ref (u 3), .ref (u 4), .int 0, .int 0, .int 0, .int 0, .int 0, .long 0, .int 0, .int 0, .int 0, .int 0, .long 0, .int 0, .ref (u 5), .ref (u 6), .int 0, .int 0, .int 0, .long 0, .long 0, .ref (u 7), .ref (u 8), .ref (u 9), .ref (u 10), .ref (u 11), .ref (u 12), .ref (u 13), .ref (u 14), .ref (u 15), .ref (u 16), .ref (u 17), .ref (u 18), .ref (u 19), .ref (u 20), .int 0, .int 0, .int 0, .int 0, .int 0, .int 0, .int 0, .int 0, .int 0, .int (-1), .int (-1), .int (-1), .int 0, .int 0, .int 0, .int 0, .int 0, .int 0, .int 0, .int 0, .ref (u 21), .ref (u 22), .ref (u 23), .ref (u 24), .ref (u 25), .ref (u 26), .int 0, .long 0])), ((u 15), .inl (k 0, 4, .inl (fun _ => 0)))] s.heap.size = A at hD ⊢
  have hA : ∀ q : Nat, s.heap.size ≤ q → A q := fun q h => by rw [← hAe]; exact Or.inr h
  have hS : va_S A s.heap s.heap [] := va_S.rf
  have hP : va_P G vwCl [(h0, .inr (6, [.int 0, .ref (u 0), .ref (u 1), .ref (u 2), .int 0, .ref (u 3), .ref (u 4), .int 0, .int 0, .int 0, .int 0, .int 0, .long 0, .int 0, .int 0, .int 0, .int 0, .long 0, .int 0, .ref (u 5), .ref (u 6), .int 0, .int 0, .int 0, .long 0, .long 0, .ref (u 7), .ref (u 8), .ref (u 9), .ref (u 10), .ref (u 11), .ref (u 12), .ref (u 13), .ref (u 14), .ref (u 15), .ref (u 16), .ref (u 17), .ref (u 18), .ref (u 19), .ref (u 20), .int 0, .int 0, .int 0, .int 0, .int 0, .int 0, .int 0, .int 0, .int 0, .int (-1), .int (-1), .int (-1), .int 0, .int 0, .int 0, .int 0, .int 0, .int 0, .int 0, .int 0, .ref (u 21), .ref (u 22), .ref (u 23), .ref (u 24), .ref (u 25), .ref (u 26), .int 0, .long 0])), ((u 15), .inl (k 0, 4, .inl (fun _ => 0)))] s.heap := hP
  refine hvar hP hS (fun H locs hP hS => ?_)
  have hl := lv_entry ([.ref h0, .int p0, .int p1]) (n := 3) (Nat.le_of_ble_eq_true rfl)
  rw [lg_entry_eq]
  generalize (lg_sl ([.ref h0, .int p0, .int p1]) ++ List.replicate (3 - (lg_sl ([.ref h0, .int p0, .int p1])).length) Slot.unset).toArray = ls at hl ⊢
  have hl : lv_has ls 3 [(0, .ref h0), (1, .int p0), (2, .int p1)] := hl
  refine lv_aload_n hx hb dX7_river_0 rfl (lv_at hl 0 rfl) ?_
  refine lv_iload_n hx hb dX7_river_1 rfl (lv_at hl 1 rfl) ?_
  have hPc := hP.sub (ws' := []) [] rfl
  refine q_calli (va_runS (As := [.int p0]) (rest := [.ref h0]) ⟨hx, hb, hml, hown, hts⟩ (c_X7_isSeat l G k p0) (cwS 1 hts g_m_river_c_X7_isSeat_355 rfl rfl rfl (by decide +kernel) ⟨Nat.le_of_ble_eq_true rfl, Nat.le_of_ble_eq_true rfl⟩) ⟨pr_bl, pr_pre hPc hK hN⟩ rfl rfl hl.1 rfl (lv_room (Nat.le_of_ble_eq_true rfl)) dX7_river_2 ⟨Nat.le_of_ble_eq_true rfl, Nat.le_of_ble_eq_true rfl⟩) (fun r1 hr1 => ?_)
  rcases hr1 with ⟨rfl, h2⟩ | ⟨rfl, h2⟩
  · skip
    refine lv_if_eq (tgt := 22) hx hb dX7_river_5 (by decide) (fun c9 => absurd c9 (by decide)) (fun _ => ?_)
    refine lv_iload_n hx hb dX7_river_8 rfl (lv_at hl 2 rfl) ?_
    refine lv_if_lt (tgt := 22) hx hb dX7_river_9 (by decide) (fun c3 => ?_) (fun c3 => ?_)
    · skip
      refine lv_iconst (v := 1) hx hb dX7_river_22 (by decide) ?_
      refine lv_goto (tgt := 27) hx hb dX7_river_23 (by decide) ?_
      refine va_put (D := G) (ci := 6) (v := .int 1) (ty := .int) (C := RX7) (T := TX7) (N := 68) hx hb hts i_m_river_X7 tyX7 tyX7_ok nmX7 hown hK hP hD hS 0 rfl rfl 0 (by decide) (hts (.fieldLink RX7 103 "TileHouseModel" "thrown" "I") (by decide +kernel)) (fun _ h9 => h9) rfl (by decide +kernel) rfl rfl (Nat.le_of_ble_eq_true rfl) dX7_river_27 (fun H locs hP hD hS => ?_)
      replace hP : va_P G vwCl [(h0, .inr (6, [.int 1, .ref (u 0), .ref (u 1), .ref (u 2), .int 0, .ref (u 3), .ref (u 4), .int 0, .int 0, .int 0, .int 0, .int 0, .long 0, .int 0, .int 0, .int 0, .int 0, .long 0, .int 0, .ref (u 5), .ref (u 6), .int 0, .int 0, .int 0, .long 0, .long 0, .ref (u 7), .ref (u 8), .ref (u 9), .ref (u 10), .ref (u 11), .ref (u 12), .ref (u 13), .ref (u 14), .ref (u 15), .ref (u 16), .ref (u 17), .ref (u 18), .ref (u 19), .ref (u 20), .int 0, .int 0, .int 0, .int 0, .int 0, .int 0, .int 0, .int 0, .int 0, .int (-1), .int (-1), .int (-1), .int 0, .int 0, .int 0, .int 0, .int 0, .int 0, .int 0, .int 0, .ref (u 21), .ref (u 22), .ref (u 23), .ref (u 24), .ref (u 25), .ref (u 26), .int 0, .long 0])), ((u 15), .inl (k 0, 4, .inl (fun _ => 0)))] H := hP
      replace hD : va_D A [(h0, .inr (6, [.int 1, .ref (u 0), .ref (u 1), .ref (u 2), .int 0, .ref (u 3), .ref (u 4), .int 0, .int 0, .int 0, .int 0, .int 0, .long 0, .int 0, .int 0, .int 0, .int 0, .long 0, .int 0, .ref (u 5), .ref (u 6), .int 0, .int 0, .int 0, .long 0, .long 0, .ref (u 7), .ref (u 8), .ref (u 9), .ref (u 10), .ref (u 11), .ref (u 12), .ref (u 13), .ref (u 14), .ref (u 15), .ref (u 16), .ref (u 17), .ref (u 18), .ref (u 19), .ref (u 20), .int 0, .int 0, .int 0, .int 0, .int 0, .int 0, .int 0, .int 0, .int 0, .int (-1), .int (-1), .int (-1), .int 0, .int 0, .int 0, .int 0, .int 0, .int 0, .int 0, .int 0, .ref (u 21), .ref (u 22), .ref (u 23), .ref (u 24), .ref (u 25), .ref (u 26), .int 0, .long 0])), ((u 15), .inl (k 0, 4, .inl (fun _ => 0)))] := hD
      refine lv_aload_n hx hb dX7_river_30 rfl (lv_at hl 0 rfl) ?_
      refine va_get (D := G) (ci := 6) (v := .int 1) (C := RX7) (T := TX7) (N := 68) hx hb hts i_m_river_X7 hown hK hP 0 rfl rfl 0 (by decide) (hts (.fieldLink RX7 103 "TileHouseModel" "thrown" "I") (by decide +kernel)) (fun _ h9 => h9) rfl dX7_river_31 ?_
      refine lv_if_le (tgt := 41) hx hb dX7_river_34 (by decide) (fun c9 => absurd c9 (by decide)) (fun _ => ?_)
      refine lv_iconst (v := 0) hx hb dX7_river_37 (by decide) ?_
      refine lv_goto (tgt := 53) hx hb dX7_river_38 (by decide) ?_
      refine W.widen (k := 0) (n := 0) (Nat.le_of_ble_eq_true rfl) (Nat.le_of_ble_eq_true rfl) ?_
      exact W.iret (v := 0) hx hb hr (fun t ht hW => ⟨⟨0, (), rfl, rfl, ⟨by rw [ht]; exact hP.sub [0] rfl, hD.sub [0] (by decide) rfl⟩⟩, hS.F ht⟩) hS.2.2 dX7_river_53
    · skip
      refine lv_iload_n hx hb dX7_river_12 rfl (lv_at hl 2 rfl) ?_
      refine lv_aload_n hx hb dX7_river_13 rfl (lv_at hl 0 rfl) ?_
      refine va_get (D := G) (ci := 6) (v := .ref (u 15)) (C := RX7) (T := TX7) (N := 68) hx hb hts i_m_river_X7 hown hK hP 0 rfl rfl 34 (by decide) (hts (.fieldLink RX7 55 "TileHouseModel" "riverMany" "[I") (by decide +kernel)) (fun _ h9 => h9) rfl dX7_river_14 ?_
      refine lv_iload_n hx hb dX7_river_17 rfl (lv_at hl 1 rfl) ?_
      refine va_iald hx hb hK hP 1 0 rfl rfl h2 dX7_river_18 ?_
      refine lv_topi (fun z4 ez4 => ?_)
      obtain rfl : z4 = 0 := ez4.trans rfl
      refine lv_icmp_lt (tgt := 26) hx hb dX7_river_19 (by decide) (fun c9 => absurd c9 (by assumption)) (fun _ => ?_)
      refine lv_iconst (v := 1) hx hb dX7_river_22 (by decide) ?_
      refine lv_goto (tgt := 27) hx hb dX7_river_23 (by decide) ?_
      refine va_put (D := G) (ci := 6) (v := .int 1) (ty := .int) (C := RX7) (T := TX7) (N := 68) hx hb hts i_m_river_X7 tyX7 tyX7_ok nmX7 hown hK hP hD hS 0 rfl rfl 0 (by decide) (hts (.fieldLink RX7 103 "TileHouseModel" "thrown" "I") (by decide +kernel)) (fun _ h9 => h9) rfl (by decide +kernel) rfl rfl (Nat.le_of_ble_eq_true rfl) dX7_river_27 (fun H locs hP hD hS => ?_)
      replace hP : va_P G vwCl [(h0, .inr (6, [.int 1, .ref (u 0), .ref (u 1), .ref (u 2), .int 0, .ref (u 3), .ref (u 4), .int 0, .int 0, .int 0, .int 0, .int 0, .long 0, .int 0, .int 0, .int 0, .int 0, .long 0, .int 0, .ref (u 5), .ref (u 6), .int 0, .int 0, .int 0, .long 0, .long 0, .ref (u 7), .ref (u 8), .ref (u 9), .ref (u 10), .ref (u 11), .ref (u 12), .ref (u 13), .ref (u 14), .ref (u 15), .ref (u 16), .ref (u 17), .ref (u 18), .ref (u 19), .ref (u 20), .int 0, .int 0, .int 0, .int 0, .int 0, .int 0, .int 0, .int 0, .int 0, .int (-1), .int (-1), .int (-1), .int 0, .int 0, .int 0, .int 0, .int 0, .int 0, .int 0, .int 0, .ref (u 21), .ref (u 22), .ref (u 23), .ref (u 24), .ref (u 25), .ref (u 26), .int 0, .long 0])), ((u 15), .inl (k 0, 4, .inl (fun _ => 0)))] H := hP
      replace hD : va_D A [(h0, .inr (6, [.int 1, .ref (u 0), .ref (u 1), .ref (u 2), .int 0, .ref (u 3), .ref (u 4), .int 0, .int 0, .int 0, .int 0, .int 0, .long 0, .int 0, .int 0, .int 0, .int 0, .long 0, .int 0, .ref (u 5), .ref (u 6), .int 0, .int 0, .int 0, .long 0, .long 0, .ref (u 7), .ref (u 8), .ref (u 9), .ref (u 10), .ref (u 11), .ref (u 12), .ref (u 13), .ref (u 14), .ref (u 15), .ref (u 16), .ref (u 17), .ref (u 18), .ref (u 19), .ref (u 20), .int 0, .int 0, .int 0, .int 0, .int 0, .int 0, .int 0, .int 0, .int 0, .int (-1), .int (-1), .int (-1), .int 0, .int 0, .int 0, .int 0, .int 0, .int 0, .int 0, .int 0, .ref (u 21), .ref (u 22), .ref (u 23), .ref (u 24), .ref (u 25), .ref (u 26), .int 0, .long 0])), ((u 15), .inl (k 0, 4, .inl (fun _ => 0)))] := hD
      refine lv_aload_n hx hb dX7_river_30 rfl (lv_at hl 0 rfl) ?_
      refine va_get (D := G) (ci := 6) (v := .int 1) (C := RX7) (T := TX7) (N := 68) hx hb hts i_m_river_X7 hown hK hP 0 rfl rfl 0 (by decide) (hts (.fieldLink RX7 103 "TileHouseModel" "thrown" "I") (by decide +kernel)) (fun _ h9 => h9) rfl dX7_river_31 ?_
      refine lv_if_le (tgt := 41) hx hb dX7_river_34 (by decide) (fun c9 => absurd c9 (by decide)) (fun _ => ?_)
      refine lv_iconst (v := 0) hx hb dX7_river_37 (by decide) ?_
      refine lv_goto (tgt := 53) hx hb dX7_river_38 (by decide) ?_
      refine W.widen (k := 0) (n := 0) (Nat.le_of_ble_eq_true rfl) (Nat.le_of_ble_eq_true rfl) ?_
      exact W.iret (v := 0) hx hb hr (fun t ht hW => ⟨⟨0, (), rfl, rfl, ⟨by rw [ht]; exact hP.sub [0] rfl, hD.sub [0] (by decide) rfl⟩⟩, hS.F ht⟩) hS.2.2 dX7_river_53
  · skip
    refine lv_if_eq (tgt := 22) hx hb dX7_river_5 (by decide) (fun _ => ?_) (fun c9 => absurd (by decide) c9)
    refine lv_iconst (v := 1) hx hb dX7_river_22 (by decide) ?_
    refine lv_goto (tgt := 27) hx hb dX7_river_23 (by decide) ?_
    refine va_put (D := G) (ci := 6) (v := .int 1) (ty := .int) (C := RX7) (T := TX7) (N := 68) hx hb hts i_m_river_X7 tyX7 tyX7_ok nmX7 hown hK hP hD hS 0 rfl rfl 0 (by decide) (hts (.fieldLink RX7 103 "TileHouseModel" "thrown" "I") (by decide +kernel)) (fun _ h9 => h9) rfl (by decide +kernel) rfl rfl (Nat.le_of_ble_eq_true rfl) dX7_river_27 (fun H locs hP hD hS => ?_)
    replace hP : va_P G vwCl [(h0, .inr (6, [.int 1, .ref (u 0), .ref (u 1), .ref (u 2), .int 0, .ref (u 3), .ref (u 4), .int 0, .int 0, .int 0, .int 0, .int 0, .long 0, .int 0, .int 0, .int 0, .int 0, .long 0, .int 0, .ref (u 5), .ref (u 6), .int 0, .int 0, .int 0, .long 0, .long 0, .ref (u 7), .ref (u 8), .ref (u 9), .ref (u 10), .ref (u 11), .ref (u 12), .ref (u 13), .ref (u 14), .ref (u 15), .ref (u 16), .ref (u 17), .ref (u 18), .ref (u 19), .ref (u 20), .int 0, .int 0, .int 0, .int 0, .int 0, .int 0, .int 0, .int 0, .int 0, .int (-1), .int (-1), .int (-1), .int 0, .int 0, .int 0, .int 0, .int 0, .int 0, .int 0, .int 0, .ref (u 21), .ref (u 22), .ref (u 23), .ref (u 24), .ref (u 25), .ref (u 26), .int 0, .long 0])), ((u 15), .inl (k 0, 4, .inl (fun _ => 0)))] H := hP
    replace hD : va_D A [(h0, .inr (6, [.int 1, .ref (u 0), .ref (u 1), .ref (u 2), .int 0, .ref (u 3), .ref (u 4), .int 0, .int 0, .int 0, .int 0, .int 0, .long 0, .int 0, .int 0, .int 0, .int 0, .long 0, .int 0, .ref (u 5), .ref (u 6), .int 0, .int 0, .int 0, .long 0, .long 0, .ref (u 7), .ref (u 8), .ref (u 9), .ref (u 10), .ref (u 11), .ref (u 12), .ref (u 13), .ref (u 14), .ref (u 15), .ref (u 16), .ref (u 17), .ref (u 18), .ref (u 19), .ref (u 20), .int 0, .int 0, .int 0, .int 0, .int 0, .int 0, .int 0, .int 0, .int 0, .int (-1), .int (-1), .int (-1), .int 0, .int 0, .int 0, .int 0, .int 0, .int 0, .int 0, .int 0, .ref (u 21), .ref (u 22), .ref (u 23), .ref (u 24), .ref (u 25), .ref (u 26), .int 0, .long 0])), ((u 15), .inl (k 0, 4, .inl (fun _ => 0)))] := hD
    refine lv_aload_n hx hb dX7_river_30 rfl (lv_at hl 0 rfl) ?_
    refine va_get (D := G) (ci := 6) (v := .int 1) (C := RX7) (T := TX7) (N := 68) hx hb hts i_m_river_X7 hown hK hP 0 rfl rfl 0 (by decide) (hts (.fieldLink RX7 103 "TileHouseModel" "thrown" "I") (by decide +kernel)) (fun _ h9 => h9) rfl dX7_river_31 ?_
    refine lv_if_le (tgt := 41) hx hb dX7_river_34 (by decide) (fun c9 => absurd c9 (by decide)) (fun _ => ?_)
    refine lv_iconst (v := 0) hx hb dX7_river_37 (by decide) ?_
    refine lv_goto (tgt := 53) hx hb dX7_river_38 (by decide) ?_
    refine W.widen (k := 0) (n := 0) (Nat.le_of_ble_eq_true rfl) (Nat.le_of_ble_eq_true rfl) ?_
    exact W.iret (v := 0) hx hb hr (fun t ht hW => ⟨⟨0, (), rfl, rfl, ⟨by rw [ht]; exact hP.sub [0] rfl, hD.sub [0] (by decide) rfl⟩⟩, hS.F ht⟩) hS.2.2 dX7_river_53
def v_m_wall : List Cond := .code yX7_wall cX7_wall 2 (some .int) :: ([.fieldLink RX7 323 "TileHouseModel" "isDealt" "Z", .fieldLink RX7 103 "TileHouseModel" "thrown" "I"] ++ (wsX70 ++ ([])))
theorem vg_m_wall : ∀ w ∈ v_m_wall, goodWord w = true := vg_c (c := .code yX7_wall cX7_wall 2 (some .int)) (l := [.fieldLink RX7 323 "TileHouseModel" "isDealt" "Z", .fieldLink RX7 103 "TileHouseModel" "thrown" "I"]) (by decide +kernel) (vg_a vgX7 (vg_nil))
theorem i_m_wall_X7 : ∀ w ∈ u_ws RX7 TX7 68, w ∈ v_m_wall := fun _ h => List.mem_cons_of_mem _ (List.mem_append_right _ (List.mem_append_left _ h))
set_option maxHeartbeats 4000000 in
set_option maxRecDepth 100000 in
theorem m_wall (l : Launch) (G : va_G) (k : Nat → ClassId) (sz : Nat) (h0 : Nat) (u : Nat → Nat) (p0 : Int32) : Met l yX7_wall v_m_wall ({ frames := 0, cells := 0, slots := 0, locals := 0 }) (va_Pc [.ref h0, .int p0] (pq G k [(h0, .inr (6, [.int 0, .ref (u 0), .ref (u 1), .ref (u 2), .int 0, .ref (u 3), .ref (u 4), .int 0, .int 0, .int 0, .int 0, .int 0, .long 0, .int 0, .int 0, .int 0, .int 0, .long 0, .int 0, .ref (u 5), .ref (u 6), .int 0, .int 0, .int 0, .long 0, .long 0, .ref (u 7), .ref (u 8), .ref (u 9), .ref (u 10), .ref (u 11), .ref (u 12), .ref (u 13), .ref (u 14), .ref (u 15), .ref (u 16), .ref (u 17), .ref (u 18), .ref (u 19), .ref (u 20), .int 0, .int 0, .int 0, .int 0, .int 0, .int 0, .int 0, .int 0, .int 0, .int (-1), .int (-1), .int (-1), .int 0, .int 0, .int 0, .int 0, .int 0, .int 0, .int 0, .int 0, .ref (u 21), .ref (u 22), .ref (u 23), .ref (u 24), .ref (u 25), .ref (u 26), .int 0, .long 0]))] sz)) (va_Qi (fun r (_ : Unit) => r = 0) (fun (_ : Unit) => pt G (va_A [(h0, .inr (6, [.int 0, .ref (u 0), .ref (u 1), .ref (u 2), .int 0, .ref (u 3), .ref (u 4), .int 0, .int 0, .int 0, .int 0, .int 0, .long 0, .int 0, .int 0, .int 0, .int 0, .long 0, .int 0, .ref (u 5), .ref (u 6), .int 0, .int 0, .int 0, .long 0, .long 0, .ref (u 7), .ref (u 8), .ref (u 9), .ref (u 10), .ref (u 11), .ref (u 12), .ref (u 13), .ref (u 14), .ref (u 15), .ref (u 16), .ref (u 17), .ref (u 18), .ref (u 19), .ref (u 20), .int 0, .int 0, .int 0, .int 0, .int 0, .int 0, .int 0, .int 0, .int 0, .int (-1), .int (-1), .int (-1), .int 0, .int 0, .int 0, .int 0, .int 0, .int 0, .int 0, .int 0, .ref (u 21), .ref (u 22), .ref (u 23), .ref (u 24), .ref (u 25), .ref (u 26), .int 0, .long 0]))] sz) [(h0, .inr (6, [.int 1, .ref (u 0), .ref (u 1), .ref (u 2), .int 0, .ref (u 3), .ref (u 4), .int 0, .int 0, .int 0, .int 0, .int 0, .long 0, .int 0, .int 0, .int 0, .int 0, .long 0, .int 0, .ref (u 5), .ref (u 6), .int 0, .int 0, .int 0, .long 0, .long 0, .ref (u 7), .ref (u 8), .ref (u 9), .ref (u 10), .ref (u 11), .ref (u 12), .ref (u 13), .ref (u 14), .ref (u 15), .ref (u 16), .ref (u 17), .ref (u 18), .ref (u 19), .ref (u 20), .int 0, .int 0, .int 0, .int 0, .int 0, .int 0, .int 0, .int 0, .int 0, .int (-1), .int (-1), .int (-1), .int 0, .int 0, .int 0, .int 0, .int 0, .int 0, .int 0, .int 0, .ref (u 21), .ref (u 22), .ref (u 23), .ref (u 24), .ref (u 25), .ref (u 26), .int 0, .long 0]))]) (va_A [(h0, .inr (6, [.int 0, .ref (u 0), .ref (u 1), .ref (u 2), .int 0, .ref (u 3), .ref (u 4), .int 0, .int 0, .int 0, .int 0, .int 0, .long 0, .int 0, .int 0, .int 0, .int 0, .long 0, .int 0, .ref (u 5), .ref (u 6), .int 0, .int 0, .int 0, .long 0, .long 0, .ref (u 7), .ref (u 8), .ref (u 9), .ref (u 10), .ref (u 11), .ref (u 12), .ref (u 13), .ref (u 14), .ref (u 15), .ref (u 16), .ref (u 17), .ref (u 18), .ref (u 19), .ref (u 20), .int 0, .int 0, .int 0, .int 0, .int 0, .int 0, .int 0, .int 0, .int 0, .int (-1), .int (-1), .int (-1), .int 0, .int 0, .int 0, .int 0, .int 0, .int 0, .int 0, .int 0, .ref (u 21), .ref (u 22), .ref (u 23), .ref (u 24), .ref (u 25), .ref (u 26), .int 0, .long 0]))] sz)) 0 0 (va_A [(h0, .inr (6, [.int 0, .ref (u 0), .ref (u 1), .ref (u 2), .int 0, .ref (u 3), .ref (u 4), .int 0, .int 0, .int 0, .int 0, .int 0, .long 0, .int 0, .int 0, .int 0, .int 0, .long 0, .int 0, .ref (u 5), .ref (u 6), .int 0, .int 0, .int 0, .long 0, .long 0, .ref (u 7), .ref (u 8), .ref (u 9), .ref (u 10), .ref (u 11), .ref (u 12), .ref (u 13), .ref (u 14), .ref (u 15), .ref (u 16), .ref (u 17), .ref (u 18), .ref (u 19), .ref (u 20), .int 0, .int 0, .int 0, .int 0, .int 0, .int 0, .int 0, .int 0, .int 0, .int (-1), .int (-1), .int (-1), .int 0, .int 0, .int 0, .int 0, .int 0, .int 0, .int 0, .int 0, .ref (u 21), .ref (u 22), .ref (u 23), .ref (u 24), .ref (u 25), .ref (u 26), .int 0, .long 0]))] sz) := by
  refine Met.ofW (cc := cX7_wall) (maxL := 2) (ret := (some .int)) (by decide) rfl ?_
  intro p e s m args below meth c s₁ B hml hv
  obtain ⟨rfl, hsz, ⟨hP, hK, hN⟩, hD0⟩ := hv
  have hx := B.exec
  have hb := B.bytes
  have hr := B.returns
  have hts := atoms_spec (ws := v_m_wall) B.pre
  have hown : s.vm.findClass RX7 = some m.cls := findClass_of_methodNamed B.named
  have hlocks := B.notSynchronized
  subst hsz
  have hD := hD0.self (sz := s.heap.size)
  generalize hAe : va_A [(h0, .inr (6, [.int 0, .ref (u 0), .ref (u 1), .ref (u 2), .int 0, .ref (u 3), .ref (u 4), .int 0, .int 0, .int 0, .int 0, .int 0, .long 0, .int 0, .int 0, .int 0, .int 0, .long 0, .int 0, .ref (u 5), .ref (u 6), .int 0, .int 0, .int 0, .long 0, .long 0, .ref (u 7), .ref (u 8), .ref (u 9), .ref (u 10), .ref (u 11), .ref (u 12), .ref (u 13), .ref (u 14), .ref (u 15), .ref (u 16), .ref (u 17), .ref (u 18), .ref (u 19), .ref (u 20), .int 0, .int 0, .int 0, .int 0, .int 0, .int 0, .int 0, .int 0, .int 0, .int (-1), .int (-1), .int (-1), .int 0, .int 0, .int 0, .int 0, .int 0, .int 0, .int 0, .int 0, .ref (u 21), .ref (u 22), .ref (u 23), .ref (u 24), .ref (u 25), .ref (u 26), .int 0, .long 0]))] s.heap.size = A at hD ⊢
  have hA : ∀ q : Nat, s.heap.size ≤ q → A q := fun q h => by rw [← hAe]; exact Or.inr h
  have hS : va_S A s.heap s.heap [] := va_S.rf
  have hP : va_P G vwCl [(h0, .inr (6, [.int 0, .ref (u 0), .ref (u 1), .ref (u 2), .int 0, .ref (u 3), .ref (u 4), .int 0, .int 0, .int 0, .int 0, .int 0, .long 0, .int 0, .int 0, .int 0, .int 0, .long 0, .int 0, .ref (u 5), .ref (u 6), .int 0, .int 0, .int 0, .long 0, .long 0, .ref (u 7), .ref (u 8), .ref (u 9), .ref (u 10), .ref (u 11), .ref (u 12), .ref (u 13), .ref (u 14), .ref (u 15), .ref (u 16), .ref (u 17), .ref (u 18), .ref (u 19), .ref (u 20), .int 0, .int 0, .int 0, .int 0, .int 0, .int 0, .int 0, .int 0, .int 0, .int (-1), .int (-1), .int (-1), .int 0, .int 0, .int 0, .int 0, .int 0, .int 0, .int 0, .int 0, .ref (u 21), .ref (u 22), .ref (u 23), .ref (u 24), .ref (u 25), .ref (u 26), .int 0, .long 0]))] s.heap := hP
  refine hvar hP hS (fun H locs hP hS => ?_)
  have hl := lv_entry ([.ref h0, .int p0]) (n := 2) (Nat.le_of_ble_eq_true rfl)
  rw [lg_entry_eq]
  generalize (lg_sl ([.ref h0, .int p0]) ++ List.replicate (2 - (lg_sl ([.ref h0, .int p0])).length) Slot.unset).toArray = ls at hl ⊢
  have hl : lv_has ls 2 [(0, .ref h0), (1, .int p0)] := hl
  refine lv_aload_n hx hb dX7_wall_0 rfl (lv_at hl 0 rfl) ?_
  refine lv_aload_n hx hb dX7_wall_1 rfl (lv_at hl 0 rfl) ?_
  refine va_get (D := G) (ci := 6) (v := .int 0) (C := RX7) (T := TX7) (N := 68) hx hb hts i_m_wall_X7 hown hK hP 0 rfl rfl 55 (by decide) (hts (.fieldLink RX7 323 "TileHouseModel" "isDealt" "Z") (by decide +kernel)) (fun _ h9 => h9) rfl dX7_wall_2 ?_
  refine lv_if_eq (tgt := 19) hx hb dX7_wall_5 (by decide) (fun _ => ?_) (fun c9 => absurd (by decide) c9)
  refine lv_iconst (v := 1) hx hb dX7_wall_19 (by decide) ?_
  refine lv_goto (tgt := 24) hx hb dX7_wall_20 (by decide) ?_
  refine va_put (D := G) (ci := 6) (v := .int 1) (ty := .int) (C := RX7) (T := TX7) (N := 68) hx hb hts i_m_wall_X7 tyX7 tyX7_ok nmX7 hown hK hP hD hS 0 rfl rfl 0 (by decide) (hts (.fieldLink RX7 103 "TileHouseModel" "thrown" "I") (by decide +kernel)) (fun _ h9 => h9) rfl (by decide +kernel) rfl rfl (Nat.le_of_ble_eq_true rfl) dX7_wall_24 (fun H locs hP hD hS => ?_)
  replace hP : va_P G vwCl [(h0, .inr (6, [.int 1, .ref (u 0), .ref (u 1), .ref (u 2), .int 0, .ref (u 3), .ref (u 4), .int 0, .int 0, .int 0, .int 0, .int 0, .long 0, .int 0, .int 0, .int 0, .int 0, .long 0, .int 0, .ref (u 5), .ref (u 6), .int 0, .int 0, .int 0, .long 0, .long 0, .ref (u 7), .ref (u 8), .ref (u 9), .ref (u 10), .ref (u 11), .ref (u 12), .ref (u 13), .ref (u 14), .ref (u 15), .ref (u 16), .ref (u 17), .ref (u 18), .ref (u 19), .ref (u 20), .int 0, .int 0, .int 0, .int 0, .int 0, .int 0, .int 0, .int 0, .int 0, .int (-1), .int (-1), .int (-1), .int 0, .int 0, .int 0, .int 0, .int 0, .int 0, .int 0, .int 0, .ref (u 21), .ref (u 22), .ref (u 23), .ref (u 24), .ref (u 25), .ref (u 26), .int 0, .long 0]))] H := hP
  replace hD : va_D A [(h0, .inr (6, [.int 1, .ref (u 0), .ref (u 1), .ref (u 2), .int 0, .ref (u 3), .ref (u 4), .int 0, .int 0, .int 0, .int 0, .int 0, .long 0, .int 0, .int 0, .int 0, .int 0, .long 0, .int 0, .ref (u 5), .ref (u 6), .int 0, .int 0, .int 0, .long 0, .long 0, .ref (u 7), .ref (u 8), .ref (u 9), .ref (u 10), .ref (u 11), .ref (u 12), .ref (u 13), .ref (u 14), .ref (u 15), .ref (u 16), .ref (u 17), .ref (u 18), .ref (u 19), .ref (u 20), .int 0, .int 0, .int 0, .int 0, .int 0, .int 0, .int 0, .int 0, .int 0, .int (-1), .int (-1), .int (-1), .int 0, .int 0, .int 0, .int 0, .int 0, .int 0, .int 0, .int 0, .ref (u 21), .ref (u 22), .ref (u 23), .ref (u 24), .ref (u 25), .ref (u 26), .int 0, .long 0]))] := hD
  refine lv_aload_n hx hb dX7_wall_27 rfl (lv_at hl 0 rfl) ?_
  refine va_get (D := G) (ci := 6) (v := .int 1) (C := RX7) (T := TX7) (N := 68) hx hb hts i_m_wall_X7 hown hK hP 0 rfl rfl 0 (by decide) (hts (.fieldLink RX7 103 "TileHouseModel" "thrown" "I") (by decide +kernel)) (fun _ h9 => h9) rfl dX7_wall_28 ?_
  refine lv_if_le (tgt := 38) hx hb dX7_wall_31 (by decide) (fun c9 => absurd c9 (by decide)) (fun _ => ?_)
  refine lv_iconst (v := 0) hx hb dX7_wall_34 (by decide) ?_
  refine lv_goto (tgt := 44) hx hb dX7_wall_35 (by decide) ?_
  refine W.widen (k := 0) (n := 0) (Nat.le_of_ble_eq_true rfl) (Nat.le_of_ble_eq_true rfl) ?_
  exact W.iret (v := 0) hx hb hr (fun t ht hW => ⟨⟨0, (), rfl, rfl, ⟨by rw [ht]; exact hP.sub [0] rfl, hD.sub [0] (by decide) rfl⟩⟩, hS.F ht⟩) hS.2.2 dX7_wall_44
def v_m_thrown1 : List Cond := .code yX7_thrown cX7_thrown 1 (some .int) :: ([.fieldLink RX7 103 "TileHouseModel" "thrown" "I"] ++ (wsX70 ++ ([])))
theorem vg_m_thrown1 : ∀ w ∈ v_m_thrown1, goodWord w = true := vg_c (c := .code yX7_thrown cX7_thrown 1 (some .int)) (l := [.fieldLink RX7 103 "TileHouseModel" "thrown" "I"]) (by decide +kernel) (vg_a vgX7 (vg_nil))
theorem i_m_thrown1_X7 : ∀ w ∈ u_ws RX7 TX7 68, w ∈ v_m_thrown1 := fun _ h => List.mem_cons_of_mem _ (List.mem_append_right _ (List.mem_append_left _ h))
set_option maxHeartbeats 4000000 in
set_option maxRecDepth 100000 in
theorem m_thrown1 (l : Launch) (G : va_G) (k : Nat → ClassId) (h0 : Nat) (u : Nat → Nat) : Met l yX7_thrown v_m_thrown1 ({ frames := 0, cells := 0, slots := 0, locals := 0 }) (va_Pc [.ref h0] (pr G k [(h0, .inr (6, [.int 1, .ref (u 0), .ref (u 1), .ref (u 2), .int 0, .ref (u 3), .ref (u 4), .int 0, .int 0, .int 0, .int 0, .int 0, .long 0, .int 0, .int 0, .int 0, .int 0, .long 0, .int 0, .ref (u 5), .ref (u 6), .int 0, .int 0, .int 0, .long 0, .long 0, .ref (u 7), .ref (u 8), .ref (u 9), .ref (u 10), .ref (u 11), .ref (u 12), .ref (u 13), .ref (u 14), .ref (u 15), .ref (u 16), .ref (u 17), .ref (u 18), .ref (u 19), .ref (u 20), .int 0, .int 0, .int 0, .int 0, .int 0, .int 0, .int 0, .int 0, .int 0, .int (-1), .int (-1), .int (-1), .int 0, .int 0, .int 0, .int 0, .int 0, .int 0, .int 0, .int 0, .ref (u 21), .ref (u 22), .ref (u 23), .ref (u 24), .ref (u 25), .ref (u 26), .int 0, .long 0]))])) (vp_Si (fun r => r = 1)) 0 0 (fun _ => False) := by
  refine Met.ofW (cc := cX7_thrown) (maxL := 1) (ret := (some .int)) (by decide) rfl ?_
  intro p e s m args below meth c s₁ B hml hv
  obtain ⟨rfl, hP, hK, hN⟩ := hv
  have hx := B.exec
  have hb := B.bytes
  have hr := B.returns
  have hts := atoms_spec (ws := v_m_thrown1) B.pre
  have hown : s.vm.findClass RX7 = some m.cls := findClass_of_methodNamed B.named
  have hlocks := B.notSynchronized
  have hl := lv_entry ([.ref h0]) (n := 1) (Nat.le_of_ble_eq_true rfl)
  rw [lg_entry_eq]
  generalize (lg_sl ([.ref h0]) ++ List.replicate (1 - (lg_sl ([.ref h0])).length) Slot.unset).toArray = ls at hl ⊢
  have hl : lv_has ls 1 [(0, .ref h0)] := hl
  refine lv_aload_n hx hb dX7_thrown_0 rfl (lv_at hl 0 rfl) ?_
  refine va_get (D := G) (ci := 6) (v := .int 1) (C := RX7) (T := TX7) (N := 68) hx hb hts i_m_thrown1_X7 hown hK hP 0 rfl rfl 0 (by decide) (hts (.fieldLink RX7 103 "TileHouseModel" "thrown" "I") (by decide +kernel)) (fun _ h9 => h9) rfl dX7_thrown_1 ?_
  exact W.iret (v := 1) hx hb hr (fun t ht hW => ⟨1, rfl, rfl, ht⟩) (fun _ h => by cases h) dX7_thrown_4

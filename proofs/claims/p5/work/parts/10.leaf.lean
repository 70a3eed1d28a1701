theorem dX6_isSeat_0 : decode cX6_isSeat 0 = .ok (.iload_n 0, 1) := by decide +kernel
theorem dX6_isSeat_1 : decode cX6_isSeat 1 = .ok (.ifCond .lt 12, 3) := by decide +kernel
theorem dX6_isSeat_13 : decode cX6_isSeat 13 = .ok (.iconst 0, 1) := by decide +kernel
theorem dX6_isSeat_14 : decode cX6_isSeat 14 = .ok (.ireturn, 1) := by decide +kernel
theorem dX6_isSeat_4 : decode cX6_isSeat 4 = .ok (.iload_n 0, 1) := by decide +kernel
theorem dX6_isSeat_5 : decode cX6_isSeat 5 = .ok (.iconst 4, 1) := by decide +kernel
theorem dX6_isSeat_6 : decode cX6_isSeat 6 = .ok (.if_icmp .ge 7, 3) := by decide +kernel
theorem dX6_isSeat_9 : decode cX6_isSeat 9 = .ok (.iconst 1, 1) := by decide +kernel
theorem dX6_isSeat_10 : decode cX6_isSeat 10 = .ok (.goto 4, 3) := by decide +kernel
theorem dX6_isKind_0 : decode cX6_isKind 0 = .ok (.iload_n 0, 1) := by decide +kernel
theorem dX6_isKind_1 : decode cX6_isKind 1 = .ok (.ifCond .lt 13, 3) := by decide +kernel
theorem dX6_isKind_14 : decode cX6_isKind 14 = .ok (.iconst 0, 1) := by decide +kernel
theorem dX6_isKind_15 : decode cX6_isKind 15 = .ok (.ireturn, 1) := by decide +kernel
theorem dX6_isKind_4 : decode cX6_isKind 4 = .ok (.iload_n 0, 1) := by decide +kernel
theorem dX6_isKind_5 : decode cX6_isKind 5 = .ok (.bipush 34, 2) := by decide +kernel
theorem dX6_isKind_7 : decode cX6_isKind 7 = .ok (.if_icmp .ge 7, 3) := by decide +kernel
theorem dX6_isKind_10 : decode cX6_isKind 10 = .ok (.iconst 1, 1) := by decide +kernel
theorem dX6_isKind_11 : decode cX6_isKind 11 = .ok (.goto 4, 3) := by decide +kernel
theorem dX7_isSeat_0 : decode cX7_isSeat 0 = .ok (.iload_n 0, 1) := by decide +kernel
theorem dX7_isSeat_1 : decode cX7_isSeat 1 = .ok (.ifCond .lt 12, 3) := by decide +kernel
theorem dX7_isSeat_13 : decode cX7_isSeat 13 = .ok (.iconst 0, 1) := by decide +kernel
theorem dX7_isSeat_14 : decode cX7_isSeat 14 = .ok (.ireturn, 1) := by decide +kernel
theorem dX7_isSeat_4 : decode cX7_isSeat 4 = .ok (.iload_n 0, 1) := by decide +kernel
theorem dX7_isSeat_5 : decode cX7_isSeat 5 = .ok (.iconst 4, 1) := by decide +kernel
theorem dX7_isSeat_6 : decode cX7_isSeat 6 = .ok (.if_icmp .ge 7, 3) := by decide +kernel
theorem dX7_isSeat_9 : decode cX7_isSeat 9 = .ok (.iconst 1, 1) := by decide +kernel
theorem dX7_isSeat_10 : decode cX7_isSeat 10 = .ok (.goto 4, 3) := by decide +kernel
theorem dX7_isKind_0 : decode cX7_isKind 0 = .ok (.iload_n 0, 1) := by decide +kernel
theorem dX7_isKind_1 : decode cX7_isKind 1 = .ok (.ifCond .lt 13, 3) := by decide +kernel
theorem dX7_isKind_14 : decode cX7_isKind 14 = .ok (.iconst 0, 1) := by decide +kernel
theorem dX7_isKind_15 : decode cX7_isKind 15 = .ok (.ireturn, 1) := by decide +kernel
theorem dX7_isKind_4 : decode cX7_isKind 4 = .ok (.iload_n 0, 1) := by decide +kernel
theorem dX7_isKind_5 : decode cX7_isKind 5 = .ok (.bipush 34, 2) := by decide +kernel
theorem dX7_isKind_7 : decode cX7_isKind 7 = .ok (.if_icmp .ge 7, 3) := by decide +kernel
theorem dX7_isKind_10 : decode cX7_isKind 10 = .ok (.iconst 1, 1) := by decide +kernel
theorem dX7_isKind_11 : decode cX7_isKind 11 = .ok (.goto 4, 3) := by decide +kernel
theorem dX6_startsRun_0 : decode cX6_startsRun 0 = .ok (.iload_n 0, 1) := by decide +kernel
theorem dX6_startsRun_1 : decode cX6_startsRun 1 = .ok (.ifCond .lt 22, 3) := by decide +kernel
theorem dX6_startsRun_23 : decode cX6_startsRun 23 = .ok (.iconst 0, 1) := by decide +kernel
theorem dX6_startsRun_24 : decode cX6_startsRun 24 = .ok (.ireturn, 1) := by decide +kernel
theorem dX6_startsRun_4 : decode cX6_startsRun 4 = .ok (.iload_n 0, 1) := by decide +kernel
theorem dX6_startsRun_5 : decode cX6_startsRun 5 = .ok (.bipush 27, 2) := by decide +kernel
theorem dX6_startsRun_7 : decode cX6_startsRun 7 = .ok (.if_icmp .ge 16, 3) := by decide +kernel
theorem dX6_startsRun_10 : decode cX6_startsRun 10 = .ok (.iload_n 0, 1) := by decide +kernel
theorem dX6_startsRun_11 : decode cX6_startsRun 11 = .ok (.bipush 9, 2) := by decide +kernel
theorem dX6_startsRun_13 : decode cX6_startsRun 13 = .ok (.irem, 1) := by decide +kernel
theorem dX6_startsRun_14 : decode cX6_startsRun 14 = .ok (.bipush 6, 2) := by decide +kernel
theorem dX6_startsRun_16 : decode cX6_startsRun 16 = .ok (.if_icmp .gt 7, 3) := by decide +kernel
theorem dX6_startsRun_19 : decode cX6_startsRun 19 = .ok (.iconst 1, 1) := by decide +kernel
theorem dX6_startsRun_20 : decode cX6_startsRun 20 = .ok (.goto 4, 3) := by decide +kernel
theorem dX7_isRun_0 : decode cX7_isRun 0 = .ok (.iload_n 0, 1) := by decide +kernel
theorem dX7_isRun_1 : decode cX7_isRun 1 = .ok (.ifCond .lt 22, 3) := by decide +kernel
theorem dX7_isRun_23 : decode cX7_isRun 23 = .ok (.iconst 0, 1) := by decide +kernel
theorem dX7_isRun_24 : decode cX7_isRun 24 = .ok (.ireturn, 1) := by decide +kernel
theorem dX7_isRun_4 : decode cX7_isRun 4 = .ok (.iload_n 0, 1) := by decide +kernel
theorem dX7_isRun_5 : decode cX7_isRun 5 = .ok (.bipush 27, 2) := by decide +kernel
theorem dX7_isRun_7 : decode cX7_isRun 7 = .ok (.if_icmp .ge 16, 3) := by decide +kernel
theorem dX7_isRun_10 : decode cX7_isRun 10 = .ok (.iload_n 0, 1) := by decide +kernel
theorem dX7_isRun_11 : decode cX7_isRun 11 = .ok (.bipush 9, 2) := by decide +kernel
theorem dX7_isRun_13 : decode cX7_isRun 13 = .ok (.irem, 1) := by decide +kernel
theorem dX7_isRun_14 : decode cX7_isRun 14 = .ok (.bipush 7, 2) := by decide +kernel
theorem dX7_isRun_16 : decode cX7_isRun 16 = .ok (.if_icmp .ge 7, 3) := by decide +kernel
theorem dX7_isRun_19 : decode cX7_isRun 19 = .ok (.iconst 1, 1) := by decide +kernel
theorem dX7_isRun_20 : decode cX7_isRun 20 = .ok (.goto 4, 3) := by decide +kernel
theorem dX6_tilesOfEach_0 : decode cX6_tilesOfEach 0 = .ok (.iload_n 0, 1) := by decide +kernel
theorem dX6_tilesOfEach_1 : decode cX6_tilesOfEach 1 = .ok (.ifCond .ne 5, 3) := by decide +kernel
theorem dX6_tilesOfEach_6 : decode cX6_tilesOfEach 6 = .ok (.iload_n 0, 1) := by decide +kernel
theorem dX6_tilesOfEach_7 : decode cX6_tilesOfEach 7 = .ok (.iconst 1, 1) := by decide +kernel
theorem dX6_tilesOfEach_8 : decode cX6_tilesOfEach 8 = .ok (.if_icmp .ne 7, 3) := by decide +kernel
theorem dX6_tilesOfEach_15 : decode cX6_tilesOfEach 15 = .ok (.iconst 4, 1) := by decide +kernel
theorem dX6_tilesOfEach_16 : decode cX6_tilesOfEach 16 = .ok (.ireturn, 1) := by decide +kernel
theorem dX6_tilesOfEach_11 : decode cX6_tilesOfEach 11 = .ok (.iconst 3, 1) := by decide +kernel
theorem dX6_tilesOfEach_12 : decode cX6_tilesOfEach 12 = .ok (.goto 4, 3) := by decide +kernel
theorem dX6_tilesOfEach_4 : decode cX6_tilesOfEach 4 = .ok (.iconst 1, 1) := by decide +kernel
theorem dX6_tilesOfEach_5 : decode cX6_tilesOfEach 5 = .ok (.ireturn, 1) := by decide +kernel
theorem dX6_at_0 : decode cX6_at 0 = .ok (.aload_n 0, 1) := by decide +kernel
theorem dX6_at_1 : decode cX6_at 1 = .ok (.getfield 11, 3) := by decide +kernel
theorem dX6_at_4 : decode cX6_at 4 = .ok (.iload_n 1, 1) := by decide +kernel
theorem dX6_at_5 : decode cX6_at 5 = .ok (.iconst 3, 1) := by decide +kernel
theorem dX6_at_6 : decode cX6_at 6 = .ok (.iand, 1) := by decide +kernel
theorem dX6_at_7 : decode cX6_at 7 = .ok (.aaload, 1) := by decide +kernel
theorem dX6_at_8 : decode cX6_at 8 = .ok (.areturn, 1) := by decide +kernel
theorem dX6_windOf_0 : decode cX6_windOf 0 = .ok (.iload_n 1, 1) := by decide +kernel
theorem dX6_windOf_1 : decode cX6_windOf 1 = .ok (.aload_n 0, 1) := by decide +kernel
theorem dX6_windOf_2 : decode cX6_windOf 2 = .ok (.getfield 62, 3) := by decide +kernel
theorem dX6_windOf_5 : decode cX6_windOf 5 = .ok (.isub, 1) := by decide +kernel
theorem dX6_windOf_6 : decode cX6_windOf 6 = .ok (.iconst 3, 1) := by decide +kernel
theorem dX6_windOf_7 : decode cX6_windOf 7 = .ok (.iand, 1) := by decide +kernel
theorem dX6_windOf_8 : decode cX6_windOf 8 = .ok (.ireturn, 1) := by decide +kernel
theorem dX6_isWin_0 : decode cX6_isWin 0 = .ok (.iload_n 1, 1) := by decide +kernel
theorem dX6_isWin_1 : decode cX6_isWin 1 = .ok (.ifCond .lt 20, 3) := by decide +kernel
theorem dX6_isWin_21 : decode cX6_isWin 21 = .ok (.iconst 0, 1) := by decide +kernel
theorem dX6_isWin_22 : decode cX6_isWin 22 = .ok (.ireturn, 1) := by decide +kernel
theorem dX6_isWin_4 : decode cX6_isWin 4 = .ok (.iload_n 1, 1) := by decide +kernel
theorem dX6_isWin_5 : decode cX6_isWin 5 = .ok (.aload_n 0, 1) := by decide +kernel
theorem dX6_isWin_6 : decode cX6_isWin 6 = .ok (.getfield 83, 3) := by decide +kernel
theorem dX6_isWin_9 : decode cX6_isWin 9 = .ok (.if_icmp .ge 12, 3) := by decide +kernel
theorem dX3_free_0 : decode cX3_free 0 = .ok (.iload_n 1, 1) := by decide +kernel
theorem dX3_free_1 : decode cX3_free 1 = .ok (.invokestatic 31, 3) := by decide +kernel
theorem dX3_free_4 : decode cX3_free 4 = .ok (.ifCond .eq 12, 3) := by decide +kernel
theorem dX3_free_7 : decode cX3_free 7 = .ok (.aload_n 0, 1) := by decide +kernel
theorem dX3_free_8 : decode cX3_free 8 = .ok (.getfield 9, 3) := by decide +kernel
theorem dX3_free_11 : decode cX3_free 11 = .ok (.iload_n 1, 1) := by decide +kernel
theorem dX3_free_12 : decode cX3_free 12 = .ok (.iaload, 1) := by decide +kernel
theorem dX3_free_13 : decode cX3_free 13 = .ok (.goto 4, 3) := by decide +kernel
theorem dX3_free_17 : decode cX3_free 17 = .ok (.ireturn, 1) := by decide +kernel
theorem dX3_free_16 : decode cX3_free 16 = .ok (.iconst 0, 1) := by decide +kernel
theorem dX3_all_0 : decode cX3_all 0 = .ok (.iload_n 1, 1) := by decide +kernel
theorem dX3_all_1 : decode cX3_all 1 = .ok (.invokestatic 31, 3) := by decide +kernel
theorem dX3_all_4 : decode cX3_all 4 = .ok (.ifCond .eq 12, 3) := by decide +kernel
theorem dX3_all_7 : decode cX3_all 7 = .ok (.aload_n 0, 1) := by decide +kernel
theorem dX3_all_8 : decode cX3_all 8 = .ok (.getfield 15, 3) := by decide +kernel
theorem dX3_all_11 : decode cX3_all 11 = .ok (.iload_n 1, 1) := by decide +kernel
theorem dX3_all_12 : decode cX3_all 12 = .ok (.iaload, 1) := by decide +kernel
theorem dX3_all_13 : decode cX3_all 13 = .ok (.goto 4, 3) := by decide +kernel
theorem dX3_all_17 : decode cX3_all 17 = .ok (.ireturn, 1) := by decide +kernel
theorem dX3_all_16 : decode cX3_all 16 = .ok (.iconst 0, 1) := by decide +kernel
theorem dX3_size_0 : decode cX3_size 0 = .ok (.aload_n 0, 1) := by decide +kernel
theorem dX3_size_1 : decode cX3_size 1 = .ok (.getfield 28, 3) := by decide +kernel
theorem dX3_size_4 : decode cX3_size 4 = .ok (.iconst 3, 1) := by decide +kernel
theorem dX3_size_5 : decode cX3_size 5 = .ok (.aload_n 0, 1) := by decide +kernel
theorem dX3_size_6 : decode cX3_size 6 = .ok (.getfield 24, 3) := by decide +kernel
theorem dX3_size_9 : decode cX3_size 9 = .ok (.imul, 1) := by decide +kernel
theorem dX3_size_10 : decode cX3_size 10 = .ok (.iadd, 1) := by decide +kernel
theorem dX3_size_11 : decode cX3_size 11 = .ok (.ireturn, 1) := by decide +kernel
theorem dX3_isOpen_0 : decode cX3_isOpen 0 = .ok (.iconst 0, 1) := by decide +kernel
theorem dX3_isOpen_1 : decode cX3_isOpen 1 = .ok (.istore_n 1, 1) := by decide +kernel
theorem dX3_isOpen_2 : decode cX3_isOpen 2 = .ok (.iload_n 1, 1) := by decide +kernel
theorem dX3_isOpen_3 : decode cX3_isOpen 3 = .ok (.aload_n 0, 1) := by decide +kernel
theorem dX3_isOpen_4 : decode cX3_isOpen 4 = .ok (.getfield 24, 3) := by decide +kernel
theorem dX3_isOpen_7 : decode cX3_isOpen 7 = .ok (.if_icmp .ge 26, 3) := by decide +kernel
theorem dX3_isOpen_33 : decode cX3_isOpen 33 = .ok (.iconst 0, 1) := by decide +kernel
theorem dX3_isOpen_34 : decode cX3_isOpen 34 = .ok (.ireturn, 1) := by decide +kernel
theorem dX4_kindAt_0 : decode cX4_kindAt 0 = .ok (.aload_n 0, 1) := by decide +kernel
theorem dX4_kindAt_1 : decode cX4_kindAt 1 = .ok (.getfield 19, 3) := by decide +kernel
theorem dX4_kindAt_4 : decode cX4_kindAt 4 = .ok (.ifCond .eq 23, 3) := by decide +kernel
theorem dX4_kindAt_27 : decode cX4_kindAt 27 = .ok (.iconst (-1), 1) := by decide +kernel
theorem dX4_kindAt_28 : decode cX4_kindAt 28 = .ok (.ireturn, 1) := by decide +kernel
theorem dX4_left_0 : decode cX4_left 0 = .ok (.aload_n 0, 1) := by decide +kernel
theorem dX4_left_1 : decode cX4_left 1 = .ok (.getfield 19, 3) := by decide +kernel
theorem dX4_left_4 : decode cX4_left 4 = .ok (.ifCond .eq 18, 3) := by decide +kernel
theorem dX4_left_22 : decode cX4_left 22 = .ok (.iconst 0, 1) := by decide +kernel
theorem dX4_left_23 : decode cX4_left 23 = .ok (.ireturn, 1) := by decide +kernel
theorem dX4_signs_0 : decode cX4_signs 0 = .ok (.aload_n 0, 1) := by decide +kernel
theorem dX4_signs_1 : decode cX4_signs 1 = .ok (.getfield 19, 3) := by decide +kernel
theorem dX4_signs_4 : decode cX4_signs 4 = .ok (.ifCond .eq 12, 3) := by decide +kernel
theorem dX4_signs_16 : decode cX4_signs 16 = .ok (.iconst 0, 1) := by decide +kernel
theorem dX4_signs_17 : decode cX4_signs 17 = .ok (.ireturn, 1) := by decide +kernel
def v_c_X6_isSeat : List Cond := .code yX6_isSeat cX6_isSeat 1 (some .boolean) :: ([] ++ ([]))
theorem vg_c_X6_isSeat : ∀ w ∈ v_c_X6_isSeat, goodWord w = true := vg_c (c := .code yX6_isSeat cX6_isSeat 1 (some .boolean)) (l := []) (by decide +kernel) (vg_nil)
set_option maxHeartbeats 4000000 in
set_option maxRecDepth 100000 in
theorem c_X6_isSeat (l : Launch) (G : va_G) (k : Nat → ClassId) (p0 : Int32) : Met l yX6_isSeat v_c_X6_isSeat ({ frames := 0, cells := 0, slots := 0, locals := 0 }) (va_Pc [.int p0] (pr G k [])) (vp_Si (fun r => (r = 1 ∧ vp_in p0 4) ∨ (r = 0 ∧ ¬ vp_in p0 4))) 0 0 (fun _ => False) := by
  refine Met.ofW (cc := cX6_isSeat) (maxL := 1) (ret := (some .boolean)) (by decide) rfl ?_
  intro p e s m args below meth c s₁ B hml hv
  obtain ⟨rfl, hP, hK, hN⟩ := hv
  have hx := B.exec
  have hb := B.bytes
  have hr := B.returns
  have hts := atoms_spec (ws := v_c_X6_isSeat) B.pre
  have hown : s.vm.findClass RX6 = some m.cls := findClass_of_methodNamed B.named
  have hlocks := B.notSynchronized
  have hl := lv_entry ([.int p0]) (n := 1) (Nat.le_of_ble_eq_true rfl)
  rw [lg_entry_eq]
  generalize (lg_sl ([.int p0]) ++ List.replicate (1 - (lg_sl ([.int p0])).length) Slot.unset).toArray = ls at hl ⊢
  have hl : lv_has ls 1 [(0, .int p0)] := hl
  refine lv_iload_n hx hb dX6_isSeat_0 rfl (lv_at hl 0 rfl) ?_
  refine lv_if_lt (tgt := 13) hx hb dX6_isSeat_1 (by decide) (fun c1 => ?_) (fun c1 => ?_)
  · skip
    refine lv_iconst (v := 0) hx hb dX6_isSeat_13 (by decide) ?_
    exact W.zret (v := 0) hx hb hr rfl (fun t ht hW => ⟨0, rfl, Or.inr ⟨rfl, by first | exact nin_lt (by assumption) | exact nin_ge (M := 4) rfl (by assumption)⟩, ht⟩) (fun _ h => by cases h) dX6_isSeat_14
  · skip
    refine lv_iload_n hx hb dX6_isSeat_4 rfl (lv_at hl 0 rfl) ?_
    refine lv_iconst (v := 4) hx hb dX6_isSeat_5 (by decide) ?_
    refine lv_icmp_ge (tgt := 13) hx hb dX6_isSeat_6 (by decide) (fun c2 => ?_) (fun c2 => ?_)
    · skip
      refine lv_iconst (v := 0) hx hb dX6_isSeat_13 (by decide) ?_
      exact W.zret (v := 0) hx hb hr rfl (fun t ht hW => ⟨0, rfl, Or.inr ⟨rfl, by first | exact nin_lt (by assumption) | exact nin_ge (M := 4) rfl (by assumption)⟩, ht⟩) (fun _ h => by cases h) dX6_isSeat_14
    · skip
      refine lv_iconst (v := 1) hx hb dX6_isSeat_9 (by decide) ?_
      refine lv_goto (tgt := 14) hx hb dX6_isSeat_10 (by decide) ?_
      exact W.zret (v := 1) hx hb hr rfl (fun t ht hW => ⟨1, rfl, Or.inl ⟨rfl, in_of (M := 4) rfl (by assumption) (by assumption)⟩, ht⟩) (fun _ h => by cases h) dX6_isSeat_14
def v_c_X6_isKind : List Cond := .code yX6_isKind cX6_isKind 1 (some .boolean) :: ([] ++ ([]))
theorem vg_c_X6_isKind : ∀ w ∈ v_c_X6_isKind, goodWord w = true := vg_c (c := .code yX6_isKind cX6_isKind 1 (some .boolean)) (l := []) (by decide +kernel) (vg_nil)
set_option maxHeartbeats 4000000 in
set_option maxRecDepth 100000 in
theorem c_X6_isKind (l : Launch) (G : va_G) (k : Nat → ClassId) (p0 : Int32) : Met l yX6_isKind v_c_X6_isKind ({ frames := 0, cells := 0, slots := 0, locals := 0 }) (va_Pc [.int p0] (pr G k [])) (vp_Si (fun r => (r = 1 ∧ vp_in p0 34) ∨ (r = 0 ∧ ¬ vp_in p0 34))) 0 0 (fun _ => False) := by
  refine Met.ofW (cc := cX6_isKind) (maxL := 1) (ret := (some .boolean)) (by decide) rfl ?_
  intro p e s m args below meth c s₁ B hml hv
  obtain ⟨rfl, hP, hK, hN⟩ := hv
  have hx := B.exec
  have hb := B.bytes
  have hr := B.returns
  have hts := atoms_spec (ws := v_c_X6_isKind) B.pre
  have hown : s.vm.findClass RX6 = some m.cls := findClass_of_methodNamed B.named
  have hlocks := B.notSynchronized
  have hl := lv_entry ([.int p0]) (n := 1) (Nat.le_of_ble_eq_true rfl)
  rw [lg_entry_eq]
  generalize (lg_sl ([.int p0]) ++ List.replicate (1 - (lg_sl ([.int p0])).length) Slot.unset).toArray = ls at hl ⊢
  have hl : lv_has ls 1 [(0, .int p0)] := hl
  refine lv_iload_n hx hb dX6_isKind_0 rfl (lv_at hl 0 rfl) ?_
  refine lv_if_lt (tgt := 14) hx hb dX6_isKind_1 (by decide) (fun c1 => ?_) (fun c1 => ?_)
  · skip
    refine lv_iconst (v := 0) hx hb dX6_isKind_14 (by decide) ?_
    exact W.zret (v := 0) hx hb hr rfl (fun t ht hW => ⟨0, rfl, Or.inr ⟨rfl, by first | exact nin_lt (by assumption) | exact nin_ge (M := 34) rfl (by assumption)⟩, ht⟩) (fun _ h => by cases h) dX6_isKind_15
  · skip
    refine lv_iload_n hx hb dX6_isKind_4 rfl (lv_at hl 0 rfl) ?_
    refine lv_bipush (v := 34) hx hb dX6_isKind_5 (by decide) ?_
    refine lv_icmp_ge (tgt := 14) hx hb dX6_isKind_7 (by decide) (fun c2 => ?_) (fun c2 => ?_)
    · skip
      refine lv_iconst (v := 0) hx hb dX6_isKind_14 (by decide) ?_
      exact W.zret (v := 0) hx hb hr rfl (fun t ht hW => ⟨0, rfl, Or.inr ⟨rfl, by first | exact nin_lt (by assumption) | exact nin_ge (M := 34) rfl (by assumption)⟩, ht⟩) (fun _ h => by cases h) dX6_isKind_15
    · skip
      refine lv_iconst (v := 1) hx hb dX6_isKind_10 (by decide) ?_
      refine lv_goto (tgt := 15) hx hb dX6_isKind_11 (by decide) ?_
      exact W.zret (v := 1) hx hb hr rfl (fun t ht hW => ⟨1, rfl, Or.inl ⟨rfl, in_of (M := 34) rfl (by assumption) (by assumption)⟩, ht⟩) (fun _ h => by cases h) dX6_isKind_15
def v_c_X7_isSeat : List Cond := .code yX7_isSeat cX7_isSeat 1 (some .boolean) :: ([] ++ ([]))
theorem vg_c_X7_isSeat : ∀ w ∈ v_c_X7_isSeat, goodWord w = true := vg_c (c := .code yX7_isSeat cX7_isSeat 1 (some .boolean)) (l := []) (by decide +kernel) (vg_nil)
set_option maxHeartbeats 4000000 in
set_option maxRecDepth 100000 in
theorem c_X7_isSeat (l : Launch) (G : va_G) (k : Nat → ClassId) (p0 : Int32) : Met l yX7_isSeat v_c_X7_isSeat ({ frames := 0, cells := 0, slots := 0, locals := 0 }) (va_Pc [.int p0] (pr G k [])) (vp_Si (fun r => (r = 1 ∧ vp_in p0 4) ∨ (r = 0 ∧ ¬ vp_in p0 4))) 0 0 (fun _ => False) := by
  refine Met.ofW (cc := cX7_isSeat) (maxL := 1) (ret := (some .boolean)) (by decide) rfl ?_
  intro p e s m args below meth c s₁ B hml hv
  obtain ⟨rfl, hP, hK, hN⟩ := hv
  have hx := B.exec
  have hb := B.bytes
  have hr := B.returns
  have hts := atoms_spec (ws := v_c_X7_isSeat) B.pre
  have hown : s.vm.findClass RX7 = some m.cls := findClass_of_methodNamed B.named
  have hlocks := B.notSynchronized
  have hl := lv_entry ([.int p0]) (n := 1) (Nat.le_of_ble_eq_true rfl)
  rw [lg_entry_eq]
  generalize (lg_sl ([.int p0]) ++ List.replicate (1 - (lg_sl ([.int p0])).length) Slot.unset).toArray = ls at hl ⊢
  have hl : lv_has ls 1 [(0, .int p0)] := hl
  refine lv_iload_n hx hb dX7_isSeat_0 rfl (lv_at hl 0 rfl) ?_
  refine lv_if_lt (tgt := 13) hx hb dX7_isSeat_1 (by decide) (fun c1 => ?_) (fun c1 => ?_)
  · skip
    refine lv_iconst (v := 0) hx hb dX7_isSeat_13 (by decide) ?_
    exact W.zret (v := 0) hx hb hr rfl (fun t ht hW => ⟨0, rfl, Or.inr ⟨rfl, by first | exact nin_lt (by assumption) | exact nin_ge (M := 4) rfl (by assumption)⟩, ht⟩) (fun _ h => by cases h) dX7_isSeat_14
  · skip
    refine lv_iload_n hx hb dX7_isSeat_4 rfl (lv_at hl 0 rfl) ?_
    refine lv_iconst (v := 4) hx hb dX7_isSeat_5 (by decide) ?_
    refine lv_icmp_ge (tgt := 13) hx hb dX7_isSeat_6 (by decide) (fun c2 => ?_) (fun c2 => ?_)
    · skip
      refine lv_iconst (v := 0) hx hb dX7_isSeat_13 (by decide) ?_
      exact W.zret (v := 0) hx hb hr rfl (fun t ht hW => ⟨0, rfl, Or.inr ⟨rfl, by first | exact nin_lt (by assumption) | exact nin_ge (M := 4) rfl (by assumption)⟩, ht⟩) (fun _ h => by cases h) dX7_isSeat_14
    · skip
      refine lv_iconst (v := 1) hx hb dX7_isSeat_9 (by decide) ?_
      refine lv_goto (tgt := 14) hx hb dX7_isSeat_10 (by decide) ?_
      exact W.zret (v := 1) hx hb hr rfl (fun t ht hW => ⟨1, rfl, Or.inl ⟨rfl, in_of (M := 4) rfl (by assumption) (by assumption)⟩, ht⟩) (fun _ h => by cases h) dX7_isSeat_14
def v_c_X7_isKind : List Cond := .code yX7_isKind cX7_isKind 1 (some .boolean) :: ([] ++ ([]))
theorem vg_c_X7_isKind : ∀ w ∈ v_c_X7_isKind, goodWord w = true := vg_c (c := .code yX7_isKind cX7_isKind 1 (some .boolean)) (l := []) (by decide +kernel) (vg_nil)
set_option maxHeartbeats 4000000 in
set_option maxRecDepth 100000 in
theorem c_X7_isKind (l : Launch) (G : va_G) (k : Nat → ClassId) (p0 : Int32) : Met l yX7_isKind v_c_X7_isKind ({ frames := 0, cells := 0, slots := 0, locals := 0 }) (va_Pc [.int p0] (pr G k [])) (vp_Si (fun r => (r = 1 ∧ vp_in p0 34) ∨ (r = 0 ∧ ¬ vp_in p0 34))) 0 0 (fun _ => False) := by
  refine Met.ofW (cc := cX7_isKind) (maxL := 1) (ret := (some .boolean)) (by decide) rfl ?_
  intro p e s m args below meth c s₁ B hml hv
  obtain ⟨rfl, hP, hK, hN⟩ := hv
  have hx := B.exec
  have hb := B.bytes
  have hr := B.returns
  have hts := atoms_spec (ws := v_c_X7_isKind) B.pre
  have hown : s.vm.findClass RX7 = some m.cls := findClass_of_methodNamed B.named
  have hlocks := B.notSynchronized
  have hl := lv_entry ([.int p0]) (n := 1) (Nat.le_of_ble_eq_true rfl)
  rw [lg_entry_eq]
  generalize (lg_sl ([.int p0]) ++ List.replicate (1 - (lg_sl ([.int p0])).length) Slot.unset).toArray = ls at hl ⊢
  have hl : lv_has ls 1 [(0, .int p0)] := hl
  refine lv_iload_n hx hb dX7_isKind_0 rfl (lv_at hl 0 rfl) ?_
  refine lv_if_lt (tgt := 14) hx hb dX7_isKind_1 (by decide) (fun c1 => ?_) (fun c1 => ?_)
  · skip
    refine lv_iconst (v := 0) hx hb dX7_isKind_14 (by decide) ?_
    exact W.zret (v := 0) hx hb hr rfl (fun t ht hW => ⟨0, rfl, Or.inr ⟨rfl, by first | exact nin_lt (by assumption) | exact nin_ge (M := 34) rfl (by assumption)⟩, ht⟩) (fun _ h => by cases h) dX7_isKind_15
  · skip
    refine lv_iload_n hx hb dX7_isKind_4 rfl (lv_at hl 0 rfl) ?_
    refine lv_bipush (v := 34) hx hb dX7_isKind_5 (by decide) ?_
    refine lv_icmp_ge (tgt := 14) hx hb dX7_isKind_7 (by decide) (fun c2 => ?_) (fun c2 => ?_)
    · skip
      refine lv_iconst (v := 0) hx hb dX7_isKind_14 (by decide) ?_
      exact W.zret (v := 0) hx hb hr rfl (fun t ht hW => ⟨0, rfl, Or.inr ⟨rfl, by first | exact nin_lt (by assumption) | exact nin_ge (M := 34) rfl (by assumption)⟩, ht⟩) (fun _ h => by cases h) dX7_isKind_15
    · skip
      refine lv_iconst (v := 1) hx hb dX7_isKind_10 (by decide) ?_
      refine lv_goto (tgt := 15) hx hb dX7_isKind_11 (by decide) ?_
      exact W.zret (v := 1) hx hb hr rfl (fun t ht hW => ⟨1, rfl, Or.inl ⟨rfl, in_of (M := 34) rfl (by assumption) (by assumption)⟩, ht⟩) (fun _ h => by cases h) dX7_isKind_15
def sr (p : Int32) : Prop := ¬ p < 0 ∧ ¬ (27 : Int32) ≤ p ∧ ¬ (7 : Int32) ≤ (p - p / 9 * 9)
theorem sr67 {q : Int32} : (6 : Int32) < q ↔ (7 : Int32) ≤ q := by rw [Int32.lt_iff_toInt_lt, Int32.le_iff_toInt_le, show (6 : Int32).toInt = 6 from rfl, show (7 : Int32).toInt = 7 from rfl]; omega
def v_c_X6_startsRun : List Cond := .code yX6_startsRun cX6_startsRun 1 (some .boolean) :: ([] ++ ([]))
theorem vg_c_X6_startsRun : ∀ w ∈ v_c_X6_startsRun, goodWord w = true := vg_c (c := .code yX6_startsRun cX6_startsRun 1 (some .boolean)) (l := []) (by decide +kernel) (vg_nil)
set_option maxHeartbeats 4000000 in
set_option maxRecDepth 100000 in
theorem c_X6_startsRun (l : Launch) (G : va_G) (k : Nat → ClassId) (p0 : Int32) : Met l yX6_startsRun v_c_X6_startsRun ({ frames := 0, cells := 0, slots := 0, locals := 0 }) (va_Pc [.int p0] (pr G k [])) (vp_Si (fun r => (r = 1 ∧ sr p0) ∨ (r = 0 ∧ ¬ sr p0))) 0 0 (fun _ => False) := by
  refine Met.ofW (cc := cX6_startsRun) (maxL := 1) (ret := (some .boolean)) (by decide) rfl ?_
  intro p e s m args below meth c s₁ B hml hv
  obtain ⟨rfl, hP, hK, hN⟩ := hv
  have hx := B.exec
  have hb := B.bytes
  have hr := B.returns
  have hts := atoms_spec (ws := v_c_X6_startsRun) B.pre
  have hown : s.vm.findClass RX6 = some m.cls := findClass_of_methodNamed B.named
  have hlocks := B.notSynchronized
  have hl := lv_entry ([.int p0]) (n := 1) (Nat.le_of_ble_eq_true rfl)
  rw [lg_entry_eq]
  generalize (lg_sl ([.int p0]) ++ List.replicate (1 - (lg_sl ([.int p0])).length) Slot.unset).toArray = ls at hl ⊢
  have hl : lv_has ls 1 [(0, .int p0)] := hl
  refine lv_iload_n hx hb dX6_startsRun_0 rfl (lv_at hl 0 rfl) ?_
  refine lv_if_lt (tgt := 23) hx hb dX6_startsRun_1 (by decide) (fun c1 => ?_) (fun c1 => ?_)
  · skip
    refine lv_iconst (v := 0) hx hb dX6_startsRun_23 (by decide) ?_
    exact W.zret (v := 0) hx hb hr rfl (fun t ht hW => ⟨0, rfl, Or.inr ⟨rfl, fun h9 => by first | exact h9.1 (by assumption) | exact h9.2.1 (by assumption) | exact h9.2.2 (by rw [← rfl]; first | assumption | exact sr67.mp (by assumption))⟩, ht⟩) (fun _ h => by cases h) dX6_startsRun_24
  · skip
    refine lv_iload_n hx hb dX6_startsRun_4 rfl (lv_at hl 0 rfl) ?_
    refine lv_bipush (v := 27) hx hb dX6_startsRun_5 (by decide) ?_
    refine lv_icmp_ge (tgt := 23) hx hb dX6_startsRun_7 (by decide) (fun c2 => ?_) (fun c2 => ?_)
    · skip
      refine lv_iconst (v := 0) hx hb dX6_startsRun_23 (by decide) ?_
      exact W.zret (v := 0) hx hb hr rfl (fun t ht hW => ⟨0, rfl, Or.inr ⟨rfl, fun h9 => by first | exact h9.1 (by assumption) | exact h9.2.1 (by assumption) | exact h9.2.2 (by rw [← rfl]; first | assumption | exact sr67.mp (by assumption))⟩, ht⟩) (fun _ h => by cases h) dX6_startsRun_24
    · skip
      refine lv_iload_n hx hb dX6_startsRun_10 rfl (lv_at hl 0 rfl) ?_
      refine lv_bipush (v := 9) hx hb dX6_startsRun_11 (by decide) ?_
      refine lv_irem hx hb dX6_startsRun_13 (by decide) ?_
      refine lv_topi (fun v3 ev3 => ?_)
      refine lv_bipush (v := 6) hx hb dX6_startsRun_14 (by decide) ?_
      refine lv_icmp_gt (tgt := 23) hx hb dX6_startsRun_16 (by decide) (fun c4 => ?_) (fun c4 => ?_)
      · skip
        refine lv_iconst (v := 0) hx hb dX6_startsRun_23 (by decide) ?_
        exact W.zret (v := 0) hx hb hr rfl (fun t ht hW => ⟨0, rfl, Or.inr ⟨rfl, fun h9 => by first | exact h9.1 (by assumption) | exact h9.2.1 (by assumption) | exact h9.2.2 (by rw [← ev3]; first | assumption | exact sr67.mp (by assumption))⟩, ht⟩) (fun _ h => by cases h) dX6_startsRun_24
      · skip
        refine lv_iconst (v := 1) hx hb dX6_startsRun_19 (by decide) ?_
        refine lv_goto (tgt := 24) hx hb dX6_startsRun_20 (by decide) ?_
        exact W.zret (v := 1) hx hb hr rfl (fun t ht hW => ⟨1, rfl, Or.inl ⟨rfl, by assumption, by assumption, by rw [← ev3]; first | assumption | exact fun h9 => absurd (sr67.mpr h9) (by assumption)⟩, ht⟩) (fun _ h => by cases h) dX6_startsRun_24
def v_c_X7_isRun : List Cond := .code yX7_isRun cX7_isRun 1 (some .boolean) :: ([] ++ ([]))
theorem vg_c_X7_isRun : ∀ w ∈ v_c_X7_isRun, goodWord w = true := vg_c (c := .code yX7_isRun cX7_isRun 1 (some .boolean)) (l := []) (by decide +kernel) (vg_nil)
set_option maxHeartbeats 4000000 in
set_option maxRecDepth 100000 in
theorem c_X7_isRun (l : Launch) (G : va_G) (k : Nat → ClassId) (p0 : Int32) : Met l yX7_isRun v_c_X7_isRun ({ frames := 0, cells := 0, slots := 0, locals := 0 }) (va_Pc [.int p0] (pr G k [])) (vp_Si (fun r => (r = 1 ∧ sr p0) ∨ (r = 0 ∧ ¬ sr p0))) 0 0 (fun _ => False) := by
  refine Met.ofW (cc := cX7_isRun) (maxL := 1) (ret := (some .boolean)) (by decide) rfl ?_
  intro p e s m args below meth c s₁ B hml hv
  obtain ⟨rfl, hP, hK, hN⟩ := hv
  have hx := B.exec
  have hb := B.bytes
  have hr := B.returns
  have hts := atoms_spec (ws := v_c_X7_isRun) B.pre
  have hown : s.vm.findClass RX7 = some m.cls := findClass_of_methodNamed B.named
  have hlocks := B.notSynchronized
  have hl := lv_entry ([.int p0]) (n := 1) (Nat.le_of_ble_eq_true rfl)
  rw [lg_entry_eq]
  generalize (lg_sl ([.int p0]) ++ List.replicate (1 - (lg_sl ([.int p0])).length) Slot.unset).toArray = ls at hl ⊢
  have hl : lv_has ls 1 [(0, .int p0)] := hl
  refine lv_iload_n hx hb dX7_isRun_0 rfl (lv_at hl 0 rfl) ?_
  refine lv_if_lt (tgt := 23) hx hb dX7_isRun_1 (by decide) (fun c1 => ?_) (fun c1 => ?_)
  · skip
    refine lv_iconst (v := 0) hx hb dX7_isRun_23 (by decide) ?_
    exact W.zret (v := 0) hx hb hr rfl (fun t ht hW => ⟨0, rfl, Or.inr ⟨rfl, fun h9 => by first | exact h9.1 (by assumption) | exact h9.2.1 (by assumption) | exact h9.2.2 (by rw [← rfl]; first | assumption | exact sr67.mp (by assumption))⟩, ht⟩) (fun _ h => by cases h) dX7_isRun_24
  · skip
    refine lv_iload_n hx hb dX7_isRun_4 rfl (lv_at hl 0 rfl) ?_
    refine lv_bipush (v := 27) hx hb dX7_isRun_5 (by decide) ?_
    refine lv_icmp_ge (tgt := 23) hx hb dX7_isRun_7 (by decide) (fun c2 => ?_) (fun c2 => ?_)
    · skip
      refine lv_iconst (v := 0) hx hb dX7_isRun_23 (by decide) ?_
      exact W.zret (v := 0) hx hb hr rfl (fun t ht hW => ⟨0, rfl, Or.inr ⟨rfl, fun h9 => by first | exact h9.1 (by assumption) | exact h9.2.1 (by assumption) | exact h9.2.2 (by rw [← rfl]; first | assumption | exact sr67.mp (by assumption))⟩, ht⟩) (fun _ h => by cases h) dX7_isRun_24
    · skip
      refine lv_iload_n hx hb dX7_isRun_10 rfl (lv_at hl 0 rfl) ?_
      refine lv_bipush (v := 9) hx hb dX7_isRun_11 (by decide) ?_
      refine lv_irem hx hb dX7_isRun_13 (by decide) ?_
      refine lv_topi (fun v3 ev3 => ?_)
      refine lv_bipush (v := 7) hx hb dX7_isRun_14 (by decide) ?_
      refine lv_icmp_ge (tgt := 23) hx hb dX7_isRun_16 (by decide) (fun c4 => ?_) (fun c4 => ?_)
      · skip
        refine lv_iconst (v := 0) hx hb dX7_isRun_23 (by decide) ?_
        exact W.zret (v := 0) hx hb hr rfl (fun t ht hW => ⟨0, rfl, Or.inr ⟨rfl, fun h9 => by first | exact h9.1 (by assumption) | exact h9.2.1 (by assumption) | exact h9.2.2 (by rw [← ev3]; first | assumption | exact sr67.mp (by assumption))⟩, ht⟩) (fun _ h => by cases h) dX7_isRun_24
      · skip
        refine lv_iconst (v := 1) hx hb dX7_isRun_19 (by decide) ?_
        refine lv_goto (tgt := 24) hx hb dX7_isRun_20 (by decide) ?_
        exact W.zret (v := 1) hx hb hr rfl (fun t ht hW => ⟨1, rfl, Or.inl ⟨rfl, by assumption, by assumption, by rw [← ev3]; first | assumption | exact fun h9 => absurd (sr67.mpr h9) (by assumption)⟩, ht⟩) (fun _ h => by cases h) dX7_isRun_24
def v_c_X6_tilesOfEach : List Cond := .code yX6_tilesOfEach cX6_tilesOfEach 1 (some .int) :: ([] ++ ([]))
theorem vg_c_X6_tilesOfEach : ∀ w ∈ v_c_X6_tilesOfEach, goodWord w = true := vg_c (c := .code yX6_tilesOfEach cX6_tilesOfEach 1 (some .int)) (l := []) (by decide +kernel) (vg_nil)
set_option maxHeartbeats 4000000 in
set_option maxRecDepth 100000 in
theorem c_X6_tilesOfEach (l : Launch) (G : va_G) (k : Nat → ClassId) (p0 : Int32) : Met l yX6_tilesOfEach v_c_X6_tilesOfEach ({ frames := 0, cells := 0, slots := 0, locals := 0 }) (va_Pc [.int p0] (pr G k [])) (vp_Si (fun r => (r = 1 ∧ p0 = 0) ∨ (r = 3 ∧ p0 = 1) ∨ (r = 4 ∧ ¬ p0 = 0 ∧ ¬ p0 = 1))) 0 0 (fun _ => False) := by
  refine Met.ofW (cc := cX6_tilesOfEach) (maxL := 1) (ret := (some .int)) (by decide) rfl ?_
  intro p e s m args below meth c s₁ B hml hv
  obtain ⟨rfl, hP, hK, hN⟩ := hv
  have hx := B.exec
  have hb := B.bytes
  have hr := B.returns
  have hts := atoms_spec (ws := v_c_X6_tilesOfEach) B.pre
  have hown : s.vm.findClass RX6 = some m.cls := findClass_of_methodNamed B.named
  have hlocks := B.notSynchronized
  have hl := lv_entry ([.int p0]) (n := 1) (Nat.le_of_ble_eq_true rfl)
  rw [lg_entry_eq]
  generalize (lg_sl ([.int p0]) ++ List.replicate (1 - (lg_sl ([.int p0])).length) Slot.unset).toArray = ls at hl ⊢
  have hl : lv_has ls 1 [(0, .int p0)] := hl
  refine lv_iload_n hx hb dX6_tilesOfEach_0 rfl (lv_at hl 0 rfl) ?_
  refine lv_if_ne (tgt := 6) hx hb dX6_tilesOfEach_1 (by decide) (fun c1 => ?_) (fun c1 => ?_)
  · skip
    refine lv_iload_n hx hb dX6_tilesOfEach_6 rfl (lv_at hl 0 rfl) ?_
    refine lv_iconst (v := 1) hx hb dX6_tilesOfEach_7 (by decide) ?_
    refine lv_icmp_ne (tgt := 15) hx hb dX6_tilesOfEach_8 (by decide) (fun c2 => ?_) (fun c2 => ?_)
    · skip
      refine lv_iconst (v := 4) hx hb dX6_tilesOfEach_15 (by decide) ?_
      exact W.iret (v := 4) hx hb hr (fun t ht hW => ⟨4, rfl, Or.inr (Or.inr ⟨rfl, by assumption, by assumption⟩), ht⟩) (fun _ h => by cases h) dX6_tilesOfEach_16
    · skip
      refine lv_iconst (v := 3) hx hb dX6_tilesOfEach_11 (by decide) ?_
      refine lv_goto (tgt := 16) hx hb dX6_tilesOfEach_12 (by decide) ?_
      exact W.iret (v := 3) hx hb hr (fun t ht hW => ⟨3, rfl, Or.inr (Or.inl ⟨rfl, by assumption⟩), ht⟩) (fun _ h => by cases h) dX6_tilesOfEach_16
  · skip
    refine lv_iconst (v := 1) hx hb dX6_tilesOfEach_4 (by decide) ?_
    exact W.iret (v := 1) hx hb hr (fun t ht hW => ⟨1, rfl, Or.inl ⟨rfl, by assumption⟩, ht⟩) (fun _ h => by cases h) dX6_tilesOfEach_5
def v_c_X6_at : List Cond := .code yX6_at cX6_at 2 (some (.object "TileHouse$Seat")) :: ([.fieldLink RX6 11 "TileHouse" "players" "[LTileHouse$Seat;"] ++ (wsX60 ++ ([])))
theorem vg_c_X6_at : ∀ w ∈ v_c_X6_at, goodWord w = true := vg_c (c := .code yX6_at cX6_at 2 (some (.object "TileHouse$Seat"))) (l := [.fieldLink RX6 11 "TileHouse" "players" "[LTileHouse$Seat;"]) (by decide +kernel) (vg_a vgX6 (vg_nil))
theorem i_c_X6_at_X6 : ∀ w ∈ u_ws RX6 TX6 19, w ∈ v_c_X6_at := fun _ h => List.mem_cons_of_mem _ (List.mem_append_right _ (List.mem_append_left _ h))
set_option maxHeartbeats 4000000 in
set_option maxRecDepth 100000 in
theorem c_X6_at (l : Launch) (G : va_G) (k : Nat → ClassId) (h0 : Nat) (pl : Nat) (f : Nat → Option Nat) (sa : Nat → Nat) (hf : ∀ j, j < 4 → f j = some (sa j)) (p0 : Int32) (x1 : Value) (x2 : Value) (x3 : Value) (x4 : Value) (x5 : Value) (x6 : Value) (x7 : Value) (x8 : Value) (x9 : Value) (x10 : Value) (x11 : Value) (x12 : Value) (x13 : Value) (x14 : Value) (x15 : Value) (x16 : Value) (x17 : Value) (x18 : Value) : Met l yX6_at v_c_X6_at ({ frames := 0, cells := 0, slots := 0, locals := 0 }) (va_Pc [.ref h0, .int p0] (pr G k [(h0, .inr (5, [.ref pl, x1, x2, x3, x4, x5, x6, x7, x8, x9, x10, x11, x12, x13, x14, x15, x16, x17, x18])), (pl, .inl (k 3, 4, .inr (.inr (.inr (.inr f)))))])) (va_Sr (fun r => r = sa (p0 &&& 3).toNatClampNeg) Value.ref) 0 0 (fun _ => False) := by
  refine Met.ofW (cc := cX6_at) (maxL := 2) (ret := (some (.object "TileHouse$Seat"))) (by decide) rfl ?_
  intro p e s m args below meth c s₁ B hml hv
  obtain ⟨rfl, hP, hK, hN⟩ := hv
  have hx := B.exec
  have hb := B.bytes
  have hr := B.returns
  have hts := atoms_spec (ws := v_c_X6_at) B.pre
  have hown : s.vm.findClass RX6 = some m.cls := findClass_of_methodNamed B.named
  have hlocks := B.notSynchronized
  have hl := lv_entry ([.ref h0, .int p0]) (n := 2) (Nat.le_of_ble_eq_true rfl)
  rw [lg_entry_eq]
  generalize (lg_sl ([.ref h0, .int p0]) ++ List.replicate (2 - (lg_sl ([.ref h0, .int p0])).length) Slot.unset).toArray = ls at hl ⊢
  have hl : lv_has ls 2 [(0, .ref h0), (1, .int p0)] := hl
  refine lv_aload_n hx hb dX6_at_0 rfl (lv_at hl 0 rfl) ?_
  refine va_get (D := G) (ci := 5) (v := .ref pl) (C := RX6) (T := TX6) (N := 19) hx hb hts i_c_X6_at_X6 hown hK hP 0 rfl rfl 0 (by decide) (hts (.fieldLink RX6 11 "TileHouse" "players" "[LTileHouse$Seat;") (by decide +kernel)) (fun _ h9 => h9) rfl dX6_at_1 ?_
  refine lv_iload_n hx hb dX6_at_4 rfl (lv_at hl 1 rfl) ?_
  refine lv_iconst (v := 3) hx hb dX6_at_5 (by decide) ?_
  refine lv_iand hx hb dX6_at_6 ?_
  refine lv_topi (fun v1 ev1 => ?_)
  refine va_aldq hx hb hK hP 1 3 rfl rfl (by rw [ev1]; exact pk_andIn p0 2 (by decide) (by decide)) dX6_at_7 ?_
  rw [hf _ (by rw [ev1]; exact in_lt (pk_andIn p0 2 (by decide) (by decide)))]
  refine W.eq (g2 := F0 m 8 ls [.ref (sa v1.toNatClampNeg)]) rfl ?_
  exact W.aret (v := .ref (sa v1.toNatClampNeg)) hx hb hr (Or.inl ⟨_, rfl⟩) (Or.inr ⟨_, rfl⟩) (fun t ht hW => ⟨sa v1.toNatClampNeg, rfl, by rw [ev1], ht⟩) (fun _ h => by cases h) dX6_at_8
def v_c_X6_windOf : List Cond := .code yX6_windOf cX6_windOf 2 (some .int) :: ([.fieldLink RX6 62 "TileHouse" "dealer" "I"] ++ (wsX60 ++ ([])))
theorem vg_c_X6_windOf : ∀ w ∈ v_c_X6_windOf, goodWord w = true := vg_c (c := .code yX6_windOf cX6_windOf 2 (some .int)) (l := [.fieldLink RX6 62 "TileHouse" "dealer" "I"]) (by decide +kernel) (vg_a vgX6 (vg_nil))
theorem i_c_X6_windOf_X6 : ∀ w ∈ u_ws RX6 TX6 19, w ∈ v_c_X6_windOf := fun _ h => List.mem_cons_of_mem _ (List.mem_append_right _ (List.mem_append_left _ h))
set_option maxHeartbeats 4000000 in
set_option maxRecDepth 100000 in
theorem c_X6_windOf (l : Launch) (G : va_G) (k : Nat → ClassId) (h0 : Nat) (dl : Int32) (p0 : Int32) (x0 : Value) (x1 : Value) (x2 : Value) (x3 : Value) (x4 : Value) (x5 : Value) (x6 : Value) (x7 : Value) (x8 : Value) (x10 : Value) (x11 : Value) (x12 : Value) (x13 : Value) (x14 : Value) (x15 : Value) (x16 : Value) (x17 : Value) (x18 : Value) : Met l yX6_windOf v_c_X6_windOf ({ frames := 0, cells := 0, slots := 0, locals := 0 }) (va_Pc [.ref h0, .int p0] (pr G k [(h0, .inr (5, [x0, x1, x2, x3, x4, x5, x6, x7, x8, .int dl, x10, x11, x12, x13, x14, x15, x16, x17, x18]))])) (vp_Si (fun r => r = (p0 - dl) &&& 3)) 0 0 (fun _ => False) := by
  refine Met.ofW (cc := cX6_windOf) (maxL := 2) (ret := (some .int)) (by decide) rfl ?_
  intro p e s m args below meth c s₁ B hml hv
  obtain ⟨rfl, hP, hK, hN⟩ := hv
  have hx := B.exec
  have hb := B.bytes
  have hr := B.returns
  have hts := atoms_spec (ws := v_c_X6_windOf) B.pre
  have hown : s.vm.findClass RX6 = some m.cls := findClass_of_methodNamed B.named
  have hlocks := B.notSynchronized
  have hl := lv_entry ([.ref h0, .int p0]) (n := 2) (Nat.le_of_ble_eq_true rfl)
  rw [lg_entry_eq]
  generalize (lg_sl ([.ref h0, .int p0]) ++ List.replicate (2 - (lg_sl ([.ref h0, .int p0])).length) Slot.unset).toArray = ls at hl ⊢
  have hl : lv_has ls 2 [(0, .ref h0), (1, .int p0)] := hl
  refine lv_iload_n hx hb dX6_windOf_0 rfl (lv_at hl 1 rfl) ?_
  refine lv_aload_n hx hb dX6_windOf_1 rfl (lv_at hl 0 rfl) ?_
  refine va_get (D := G) (ci := 5) (v := .int dl) (C := RX6) (T := TX6) (N := 19) hx hb hts i_c_X6_windOf_X6 hown hK hP 0 rfl rfl 9 (by decide) (hts (.fieldLink RX6 62 "TileHouse" "dealer" "I") (by decide +kernel)) (fun _ h9 => h9) rfl dX6_windOf_2 ?_
  refine lv_isub hx hb dX6_windOf_5 ?_
  refine lv_topi (fun v1 ev1 => ?_)
  refine lv_iconst (v := 3) hx hb dX6_windOf_6 (by decide) ?_
  refine lv_iand hx hb dX6_windOf_7 ?_
  refine lv_topi (fun v2 ev2 => ?_)
  exact W.iret (v := v2) hx hb hr (fun t ht hW => ⟨v2, rfl, by rw [ev2, ev1], ht⟩) (fun _ h => by cases h) dX6_windOf_8
def v_c_X6_isWin0 : List Cond := .code yX6_isWin cX6_isWin 2 (some .boolean) :: ([.fieldLink RX6 83 "TileHouse" "winCount" "I"] ++ (wsX60 ++ ([])))
theorem vg_c_X6_isWin0 : ∀ w ∈ v_c_X6_isWin0, goodWord w = true := vg_c (c := .code yX6_isWin cX6_isWin 2 (some .boolean)) (l := [.fieldLink RX6 83 "TileHouse" "winCount" "I"]) (by decide +kernel) (vg_a vgX6 (vg_nil))
theorem i_c_X6_isWin0_X6 : ∀ w ∈ u_ws RX6 TX6 19, w ∈ v_c_X6_isWin0 := fun _ h => List.mem_cons_of_mem _ (List.mem_append_right _ (List.mem_append_left _ h))
set_option maxHeartbeats 4000000 in
set_option maxRecDepth 100000 in
theorem c_X6_isWin0 (l : Launch) (G : va_G) (k : Nat → ClassId) (h0 : Nat) (p0 : Int32) (x0 : Value) (x1 : Value) (x2 : Value) (x3 : Value) (x4 : Value) (x5 : Value) (x7 : Value) (x8 : Value) (x9 : Value) (x10 : Value) (x11 : Value) (x12 : Value) (x13 : Value) (x14 : Value) (x15 : Value) (x16 : Value) (x17 : Value) (x18 : Value) : Met l yX6_isWin v_c_X6_isWin0 ({ frames := 0, cells := 0, slots := 0, locals := 0 }) (va_Pc [.ref h0, .int p0] (pr G k [(h0, .inr (5, [x0, x1, x2, x3, x4, x5, .int 0, x7, x8, x9, x10, x11, x12, x13, x14, x15, x16, x17, x18]))])) (vp_Si (fun r => r = 0)) 0 0 (fun _ => False) := by
  refine Met.ofW (cc := cX6_isWin) (maxL := 2) (ret := (some .boolean)) (by decide) rfl ?_
  intro p e s m args below meth c s₁ B hml hv
  obtain ⟨rfl, hP, hK, hN⟩ := hv
  have hx := B.exec
  have hb := B.bytes
  have hr := B.returns
  have hts := atoms_spec (ws := v_c_X6_isWin0) B.pre
  have hown : s.vm.findClass RX6 = some m.cls := findClass_of_methodNamed B.named
  have hlocks := B.notSynchronized
  have hl := lv_entry ([.ref h0, .int p0]) (n := 2) (Nat.le_of_ble_eq_true rfl)
  rw [lg_entry_eq]
  generalize (lg_sl ([.ref h0, .int p0]) ++ List.replicate (2 - (lg_sl ([.ref h0, .int p0])).length) Slot.unset).toArray = ls at hl ⊢
  have hl : lv_has ls 2 [(0, .ref h0), (1, .int p0)] := hl
  refine lv_iload_n hx hb dX6_isWin_0 rfl (lv_at hl 1 rfl) ?_
  refine lv_if_lt (tgt := 21) hx hb dX6_isWin_1 (by decide) (fun c1 => ?_) (fun c1 => ?_)
  · skip
    refine lv_iconst (v := 0) hx hb dX6_isWin_21 (by decide) ?_
    exact W.zret (v := 0) hx hb hr rfl (fun t ht hW => ⟨0, rfl, rfl, ht⟩) (fun _ h => by cases h) dX6_isWin_22
  · skip
    refine lv_iload_n hx hb dX6_isWin_4 rfl (lv_at hl 1 rfl) ?_
    refine lv_aload_n hx hb dX6_isWin_5 rfl (lv_at hl 0 rfl) ?_
    refine va_get (D := G) (ci := 5) (v := .int 0) (C := RX6) (T := TX6) (N := 19) hx hb hts i_c_X6_isWin0_X6 hown hK hP 0 rfl rfl 6 (by decide) (hts (.fieldLink RX6 83 "TileHouse" "winCount" "I") (by decide +kernel)) (fun _ h9 => h9) rfl dX6_isWin_6 ?_
    refine lv_icmp_ge (tgt := 21) hx hb dX6_isWin_9 (by decide) (fun _ => ?_) (fun c9 => absurd (i_nn (by assumption)) c9)
    refine lv_iconst (v := 0) hx hb dX6_isWin_21 (by decide) ?_
    exact W.zret (v := 0) hx hb hr rfl (fun t ht hW => ⟨0, rfl, rfl, ht⟩) (fun _ h => by cases h) dX6_isWin_22
def v_c_X3_free : List Cond := .code yX3_free cX3_free 2 (some .int) :: ([.initialized RX6, .static yX6_isKind, .fieldLink RX3 9 "TileHouse$Tiles" "free" "[I"] ++ (v_c_X6_isKind ++ (wsX30 ++ ([]))))
theorem vg_c_X3_free : ∀ w ∈ v_c_X3_free, goodWord w = true := vg_c (c := .code yX3_free cX3_free 2 (some .int)) (l := [.initialized RX6, .static yX6_isKind, .fieldLink RX3 9 "TileHouse$Tiles" "free" "[I"]) (by decide +kernel) (vg_a vg_c_X6_isKind (vg_a vgX3 (vg_nil)))
theorem i_c_X3_free_X3 : ∀ w ∈ u_ws RX3 TX3 6, w ∈ v_c_X3_free := fun _ h => List.mem_cons_of_mem _ (List.mem_append_right _ (List.mem_append_right _ (List.mem_append_left _ h)))
theorem g_c_X3_free_c_X6_isKind_31 : GoodIn v_c_X3_free (v_c_X6_isKind) := fun w h => ⟨List.mem_cons_of_mem _ (List.mem_append_right _ (List.mem_append_left _ h)), good_of_word (vg_c_X6_isKind w h)⟩
set_option maxHeartbeats 4000000 in
set_option maxRecDepth 100000 in
theorem c_X3_free (l : Launch) (G : va_G) (k : Nat → ClassId) (h0 : Nat) (fr : Nat) (f : Nat → Int32) (p0 : Int32) (x1 : Value) (x2 : Value) (x3 : Value) (x4 : Value) (x5 : Value) : Met l yX3_free v_c_X3_free ({ frames := 1, cells := 0, slots := 0, locals := 20 }) (va_Pc [.ref h0, .int p0] (pr G k [(h0, .inr (2, [.ref fr, x1, x2, x3, x4, x5])), (fr, .inl (k 0, 34, .inl f))])) (vp_Si (fun r => (vp_in p0 34 ∧ r = f p0.toNatClampNeg) ∨ (¬ vp_in p0 34 ∧ r = 0))) 0 0 (fun _ => False) := by
  refine Met.ofW (cc := cX3_free) (maxL := 2) (ret := (some .int)) (by decide) rfl ?_
  intro p e s m args below meth c s₁ B hml hv
  obtain ⟨rfl, hP, hK, hN⟩ := hv
  have hx := B.exec
  have hb := B.bytes
  have hr := B.returns
  have hts := atoms_spec (ws := v_c_X3_free) B.pre
  have hown : s.vm.findClass RX3 = some m.cls := findClass_of_methodNamed B.named
  have hlocks := B.notSynchronized
  have hl := lv_entry ([.ref h0, .int p0]) (n := 2) (Nat.le_of_ble_eq_true rfl)
  rw [lg_entry_eq]
  generalize (lg_sl ([.ref h0, .int p0]) ++ List.replicate (2 - (lg_sl ([.ref h0, .int p0])).length) Slot.unset).toArray = ls at hl ⊢
  have hl : lv_has ls 2 [(0, .ref h0), (1, .int p0)] := hl
  refine lv_iload_n hx hb dX3_free_0 rfl (lv_at hl 1 rfl) ?_
  have hPc := hP.sub (ws' := []) [] rfl
  refine q_calli (va_runSN (As := [.int p0]) (rest := []) ⟨hx, hb, hml, hown, hts⟩ (c_X6_isKind l G k p0) ⟨va_cnB 1 hts g_c_X3_free_c_X6_isKind_31 rfl rfl rfl (nw_X3_31 hN) (hts (.initialized RX6) (by decide +kernel)) (by decide +kernel) ⟨Nat.le_of_ble_eq_true rfl, Nat.le_of_ble_eq_true rfl⟩, (hts (.static yX6_isKind) (by decide +kernel)), trivial⟩ ⟨pr_bl, pr_pre hPc hK hN⟩ rfl rfl hl.1 rfl (lv_room (Nat.le_of_ble_eq_true rfl)) dX3_free_1 ⟨Nat.le_of_ble_eq_true rfl, Nat.le_of_ble_eq_true rfl⟩) (fun r1 hr1 => ?_)
  rcases hr1 with ⟨rfl, h2⟩ | ⟨rfl, h2⟩
  · skip
    refine lv_if_eq (tgt := 16) hx hb dX3_free_4 (by decide) (fun c9 => absurd c9 (by decide)) (fun _ => ?_)
    refine lv_aload_n hx hb dX3_free_7 rfl (lv_at hl 0 rfl) ?_
    refine va_get (D := G) (ci := 2) (v := .ref fr) (C := RX3) (T := TX3) (N := 6) hx hb hts i_c_X3_free_X3 hown hK hP 0 rfl rfl 0 (by decide) (hts (.fieldLink RX3 9 "TileHouse$Tiles" "free" "[I") (by decide +kernel)) (fun _ h9 => h9) rfl dX3_free_8 ?_
    refine lv_iload_n hx hb dX3_free_11 rfl (lv_at hl 1 rfl) ?_
    refine va_iald hx hb hK hP 1 0 rfl rfl h2 dX3_free_12 ?_
    refine lv_topi (fun v3 ev3 => ?_)
    refine lv_goto (tgt := 17) hx hb dX3_free_13 (by decide) ?_
    exact W.iret (v := v3) hx hb hr (fun t ht hW => ⟨v3, rfl, Or.inl ⟨h2, ev3⟩, ht⟩) (fun _ h => by cases h) dX3_free_17
  · skip
    refine lv_if_eq (tgt := 16) hx hb dX3_free_4 (by decide) (fun _ => ?_) (fun c9 => absurd (by decide) c9)
    refine lv_iconst (v := 0) hx hb dX3_free_16 (by decide) ?_
    exact W.iret (v := 0) hx hb hr (fun t ht hW => ⟨0, rfl, Or.inr ⟨h2, rfl⟩, ht⟩) (fun _ h => by cases h) dX3_free_17
def v_c_X3_all : List Cond := .code yX3_all cX3_all 2 (some .int) :: ([.initialized RX6, .static yX6_isKind, .fieldLink RX3 15 "TileHouse$Tiles" "all" "[I"] ++ (v_c_X6_isKind ++ (wsX30 ++ ([]))))
theorem vg_c_X3_all : ∀ w ∈ v_c_X3_all, goodWord w = true := vg_c (c := .code yX3_all cX3_all 2 (some .int)) (l := [.initialized RX6, .static yX6_isKind, .fieldLink RX3 15 "TileHouse$Tiles" "all" "[I"]) (by decide +kernel) (vg_a vg_c_X6_isKind (vg_a vgX3 (vg_nil)))
theorem i_c_X3_all_X3 : ∀ w ∈ u_ws RX3 TX3 6, w ∈ v_c_X3_all := fun _ h => List.mem_cons_of_mem _ (List.mem_append_right _ (List.mem_append_right _ (List.mem_append_left _ h)))
theorem g_c_X3_all_c_X6_isKind_31 : GoodIn v_c_X3_all (v_c_X6_isKind) := fun w h => ⟨List.mem_cons_of_mem _ (List.mem_append_right _ (List.mem_append_left _ h)), good_of_word (vg_c_X6_isKind w h)⟩
set_option maxHeartbeats 4000000 in
set_option maxRecDepth 100000 in
theorem c_X3_all (l : Launch) (G : va_G) (k : Nat → ClassId) (h0 : Nat) (fr : Nat) (f : Nat → Int32) (p0 : Int32) (x0 : Value) (x2 : Value) (x3 : Value) (x4 : Value) (x5 : Value) : Met l yX3_all v_c_X3_all ({ frames := 1, cells := 0, slots := 0, locals := 20 }) (va_Pc [.ref h0, .int p0] (pr G k [(h0, .inr (2, [x0, .ref fr, x2, x3, x4, x5])), (fr, .inl (k 0, 34, .inl f))])) (vp_Si (fun r => (vp_in p0 34 ∧ r = f p0.toNatClampNeg) ∨ (¬ vp_in p0 34 ∧ r = 0))) 0 0 (fun _ => False) := by
  refine Met.ofW (cc := cX3_all) (maxL := 2) (ret := (some .int)) (by decide) rfl ?_
  intro p e s m args below meth c s₁ B hml hv
  obtain ⟨rfl, hP, hK, hN⟩ := hv
  have hx := B.exec
  have hb := B.bytes
  have hr := B.returns
  have hts := atoms_spec (ws := v_c_X3_all) B.pre
  have hown : s.vm.findClass RX3 = some m.cls := findClass_of_methodNamed B.named
  have hlocks := B.notSynchronized
  have hl := lv_entry ([.ref h0, .int p0]) (n := 2) (Nat.le_of_ble_eq_true rfl)
  rw [lg_entry_eq]
  generalize (lg_sl ([.ref h0, .int p0]) ++ List.replicate (2 - (lg_sl ([.ref h0, .int p0])).length) Slot.unset).toArray = ls at hl ⊢
  have hl : lv_has ls 2 [(0, .ref h0), (1, .int p0)] := hl
  refine lv_iload_n hx hb dX3_all_0 rfl (lv_at hl 1 rfl) ?_
  have hPc := hP.sub (ws' := []) [] rfl
  refine q_calli (va_runSN (As := [.int p0]) (rest := []) ⟨hx, hb, hml, hown, hts⟩ (c_X6_isKind l G k p0) ⟨va_cnB 1 hts g_c_X3_all_c_X6_isKind_31 rfl rfl rfl (nw_X3_31 hN) (hts (.initialized RX6) (by decide +kernel)) (by decide +kernel) ⟨Nat.le_of_ble_eq_true rfl, Nat.le_of_ble_eq_true rfl⟩, (hts (.static yX6_isKind) (by decide +kernel)), trivial⟩ ⟨pr_bl, pr_pre hPc hK hN⟩ rfl rfl hl.1 rfl (lv_room (Nat.le_of_ble_eq_true rfl)) dX3_all_1 ⟨Nat.le_of_ble_eq_true rfl, Nat.le_of_ble_eq_true rfl⟩) (fun r1 hr1 => ?_)
  rcases hr1 with ⟨rfl, h2⟩ | ⟨rfl, h2⟩
  · skip
    refine lv_if_eq (tgt := 16) hx hb dX3_all_4 (by decide) (fun c9 => absurd c9 (by decide)) (fun _ => ?_)
    refine lv_aload_n hx hb dX3_all_7 rfl (lv_at hl 0 rfl) ?_
    refine va_get (D := G) (ci := 2) (v := .ref fr) (C := RX3) (T := TX3) (N := 6) hx hb hts i_c_X3_all_X3 hown hK hP 0 rfl rfl 1 (by decide) (hts (.fieldLink RX3 15 "TileHouse$Tiles" "all" "[I") (by decide +kernel)) (fun _ h9 => h9) rfl dX3_all_8 ?_
    refine lv_iload_n hx hb dX3_all_11 rfl (lv_at hl 1 rfl) ?_
    refine va_iald hx hb hK hP 1 0 rfl rfl h2 dX3_all_12 ?_
    refine lv_topi (fun v3 ev3 => ?_)
    refine lv_goto (tgt := 17) hx hb dX3_all_13 (by decide) ?_
    exact W.iret (v := v3) hx hb hr (fun t ht hW => ⟨v3, rfl, Or.inl ⟨h2, ev3⟩, ht⟩) (fun _ h => by cases h) dX3_all_17
  · skip
    refine lv_if_eq (tgt := 16) hx hb dX3_all_4 (by decide) (fun _ => ?_) (fun c9 => absurd (by decide) c9)
    refine lv_iconst (v := 0) hx hb dX3_all_16 (by decide) ?_
    exact W.iret (v := 0) hx hb hr (fun t ht hW => ⟨0, rfl, Or.inr ⟨h2, rfl⟩, ht⟩) (fun _ h => by cases h) dX3_all_17
def v_c_X3_size : List Cond := .code yX3_size cX3_size 1 (some .int) :: ([.fieldLink RX3 28 "TileHouse$Tiles" "loose" "I", .fieldLink RX3 24 "TileHouse$Tiles" "laidDown" "I"] ++ (wsX30 ++ ([])))
theorem vg_c_X3_size : ∀ w ∈ v_c_X3_size, goodWord w = true := vg_c (c := .code yX3_size cX3_size 1 (some .int)) (l := [.fieldLink RX3 28 "TileHouse$Tiles" "loose" "I", .fieldLink RX3 24 "TileHouse$Tiles" "laidDown" "I"]) (by decide +kernel) (vg_a vgX3 (vg_nil))
theorem i_c_X3_size_X3 : ∀ w ∈ u_ws RX3 TX3 6, w ∈ v_c_X3_size := fun _ h => List.mem_cons_of_mem _ (List.mem_append_right _ (List.mem_append_left _ h))
set_option maxHeartbeats 4000000 in
set_option maxRecDepth 100000 in
theorem c_X3_size (l : Launch) (G : va_G) (k : Nat → ClassId) (h0 : Nat) (ld : Int32) (lo : Int32) (x0 : Value) (x1 : Value) (x2 : Value) (x3 : Value) : Met l yX3_size v_c_X3_size ({ frames := 0, cells := 0, slots := 0, locals := 0 }) (va_Pc [.ref h0] (pr G k [(h0, .inr (2, [x0, x1, x2, x3, .int ld, .int lo]))])) (vp_Si (fun r => r = lo + 3 * ld)) 0 0 (fun _ => False) := by
  refine Met.ofW (cc := cX3_size) (maxL := 1) (ret := (some .int)) (by decide) rfl ?_
  intro p e s m args below meth c s₁ B hml hv
  obtain ⟨rfl, hP, hK, hN⟩ := hv
  have hx := B.exec
  have hb := B.bytes
  have hr := B.returns
  have hts := atoms_spec (ws := v_c_X3_size) B.pre
  have hown : s.vm.findClass RX3 = some m.cls := findClass_of_methodNamed B.named
  have hlocks := B.notSynchronized
  have hl := lv_entry ([.ref h0]) (n := 1) (Nat.le_of_ble_eq_true rfl)
  rw [lg_entry_eq]
  generalize (lg_sl ([.ref h0]) ++ List.replicate (1 - (lg_sl ([.ref h0])).length) Slot.unset).toArray = ls at hl ⊢
  have hl : lv_has ls 1 [(0, .ref h0)] := hl
  refine lv_aload_n hx hb dX3_size_0 rfl (lv_at hl 0 rfl) ?_
  refine va_get (D := G) (ci := 2) (v := .int lo) (C := RX3) (T := TX3) (N := 6) hx hb hts i_c_X3_size_X3 hown hK hP 0 rfl rfl 5 (by decide) (hts (.fieldLink RX3 28 "TileHouse$Tiles" "loose" "I") (by decide +kernel)) (fun _ h9 => h9) rfl dX3_size_1 ?_
  refine lv_iconst (v := 3) hx hb dX3_size_4 (by decide) ?_
  refine lv_aload_n hx hb dX3_size_5 rfl (lv_at hl 0 rfl) ?_
  refine va_get (D := G) (ci := 2) (v := .int ld) (C := RX3) (T := TX3) (N := 6) hx hb hts i_c_X3_size_X3 hown hK hP 0 rfl rfl 4 (by decide) (hts (.fieldLink RX3 24 "TileHouse$Tiles" "laidDown" "I") (by decide +kernel)) (fun _ h9 => h9) rfl dX3_size_6 ?_
  refine lv_imul hx hb dX3_size_9 ?_
  refine lv_topi (fun v1 ev1 => ?_)
  refine lv_iadd hx hb dX3_size_10 ?_
  refine lv_topi (fun v2 ev2 => ?_)
  exact W.iret (v := v2) hx hb hr (fun t ht hW => ⟨v2, rfl, by rw [ev2, ev1], ht⟩) (fun _ h => by cases h) dX3_size_11
def v_c_X3_isOpen0 : List Cond := .code yX3_isOpen cX3_isOpen 2 (some .boolean) :: ([.fieldLink RX3 24 "TileHouse$Tiles" "laidDown" "I"] ++ (wsX30 ++ ([])))
theorem vg_c_X3_isOpen0 : ∀ w ∈ v_c_X3_isOpen0, goodWord w = true := vg_c (c := .code yX3_isOpen cX3_isOpen 2 (some .boolean)) (l := [.fieldLink RX3 24 "TileHouse$Tiles" "laidDown" "I"]) (by decide +kernel) (vg_a vgX3 (vg_nil))
theorem i_c_X3_isOpen0_X3 : ∀ w ∈ u_ws RX3 TX3 6, w ∈ v_c_X3_isOpen0 := fun _ h => List.mem_cons_of_mem _ (List.mem_append_right _ (List.mem_append_left _ h))
set_option maxHeartbeats 4000000 in
set_option maxRecDepth 100000 in
theorem c_X3_isOpen0 (l : Launch) (G : va_G) (k : Nat → ClassId) (h0 : Nat) (x0 : Value) (x1 : Value) (x2 : Value) (x3 : Value) (x5 : Value) : Met l yX3_isOpen v_c_X3_isOpen0 ({ frames := 0, cells := 0, slots := 0, locals := 0 }) (va_Pc [.ref h0] (pr G k [(h0, .inr (2, [x0, x1, x2, x3, .int 0, x5]))])) (vp_Si (fun r => r = 0)) 0 0 (fun _ => False) := by
  refine Met.ofW (cc := cX3_isOpen) (maxL := 2) (ret := (some .boolean)) (by decide) rfl ?_
  intro p e s m args below meth c s₁ B hml hv
  obtain ⟨rfl, hP, hK, hN⟩ := hv
  have hx := B.exec
  have hb := B.bytes
  have hr := B.returns
  have hts := atoms_spec (ws := v_c_X3_isOpen0) B.pre
  have hown : s.vm.findClass RX3 = some m.cls := findClass_of_methodNamed B.named
  have hlocks := B.notSynchronized
  have hl := lv_entry ([.ref h0]) (n := 2) (Nat.le_of_ble_eq_true rfl)
  rw [lg_entry_eq]
  generalize (lg_sl ([.ref h0]) ++ List.replicate (2 - (lg_sl ([.ref h0])).length) Slot.unset).toArray = ls at hl ⊢
  have hl : lv_has ls 2 [(0, .ref h0)] := hl
  refine lv_iconst (v := 0) hx hb dX3_isOpen_0 (by decide) ?_
  refine lv_istore_n (lv' := [(1, .int 0), (0, .ref h0)]) hx hb dX3_isOpen_1 rfl hl (by decide) rfl (fun ls hl => ?_)
  refine lv_iload_n hx hb dX3_isOpen_2 rfl (lv_at hl 0 rfl) ?_
  refine lv_aload_n hx hb dX3_isOpen_3 rfl (lv_at hl 1 rfl) ?_
  refine va_get (D := G) (ci := 2) (v := .int 0) (C := RX3) (T := TX3) (N := 6) hx hb hts i_c_X3_isOpen0_X3 hown hK hP 0 rfl rfl 4 (by decide) (hts (.fieldLink RX3 24 "TileHouse$Tiles" "laidDown" "I") (by decide +kernel)) (fun _ h9 => h9) rfl dX3_isOpen_4 ?_
  refine lv_icmp_ge (tgt := 33) hx hb dX3_isOpen_7 (by decide) (fun _ => ?_) (fun c9 => absurd (by decide) c9)
  refine lv_iconst (v := 0) hx hb dX3_isOpen_33 (by decide) ?_
  exact W.zret (v := 0) hx hb hr rfl (fun t ht hW => ⟨0, rfl, rfl, ht⟩) (fun _ h => by cases h) dX3_isOpen_34
def v_c_X4_kindAt0 : List Cond := .code yX4_kindAt cX4_kindAt 2 (some .int) :: ([.fieldLink RX4 19 "TileHouse$Wall" "stands" "Z"] ++ (wsX40 ++ ([])))
theorem vg_c_X4_kindAt0 : ∀ w ∈ v_c_X4_kindAt0, goodWord w = true := vg_c (c := .code yX4_kindAt cX4_kindAt 2 (some .int)) (l := [.fieldLink RX4 19 "TileHouse$Wall" "stands" "Z"]) (by decide +kernel) (vg_a vgX4 (vg_nil))
theorem i_c_X4_kindAt0_X4 : ∀ w ∈ u_ws RX4 TX4 4, w ∈ v_c_X4_kindAt0 := fun _ h => List.mem_cons_of_mem _ (List.mem_append_right _ (List.mem_append_left _ h))
set_option maxHeartbeats 4000000 in
set_option maxRecDepth 100000 in
theorem c_X4_kindAt0 (l : Launch) (G : va_G) (k : Nat → ClassId) (h0 : Nat) (p0 : Int32) (x0 : Value) (x2 : Value) (x3 : Value) : Met l yX4_kindAt v_c_X4_kindAt0 ({ frames := 0, cells := 0, slots := 0, locals := 0 }) (va_Pc [.ref h0, .int p0] (pr G k [(h0, .inr (3, [x0, .int 0, x2, x3]))])) (vp_Si (fun r => r = (-1))) 0 0 (fun _ => False) := by
  refine Met.ofW (cc := cX4_kindAt) (maxL := 2) (ret := (some .int)) (by decide) rfl ?_
  intro p e s m args below meth c s₁ B hml hv
  obtain ⟨rfl, hP, hK, hN⟩ := hv
  have hx := B.exec
  have hb := B.bytes
  have hr := B.returns
  have hts := atoms_spec (ws := v_c_X4_kindAt0) B.pre
  have hown : s.vm.findClass RX4 = some m.cls := findClass_of_methodNamed B.named
  have hlocks := B.notSynchronized
  have hl := lv_entry ([.ref h0, .int p0]) (n := 2) (Nat.le_of_ble_eq_true rfl)
  rw [lg_entry_eq]
  generalize (lg_sl ([.ref h0, .int p0]) ++ List.replicate (2 - (lg_sl ([.ref h0, .int p0])).length) Slot.unset).toArray = ls at hl ⊢
  have hl : lv_has ls 2 [(0, .ref h0), (1, .int p0)] := hl
  refine lv_aload_n hx hb dX4_kindAt_0 rfl (lv_at hl 0 rfl) ?_
  refine va_get (D := G) (ci := 3) (v := .int 0) (C := RX4) (T := TX4) (N := 4) hx hb hts i_c_X4_kindAt0_X4 hown hK hP 0 rfl rfl 1 (by decide) (hts (.fieldLink RX4 19 "TileHouse$Wall" "stands" "Z") (by decide +kernel)) (fun _ h9 => h9) rfl dX4_kindAt_1 ?_
  refine lv_if_eq (tgt := 27) hx hb dX4_kindAt_4 (by decide) (fun _ => ?_) (fun c9 => absurd (by decide) c9)
  refine lv_iconst (v := (-1)) hx hb dX4_kindAt_27 (by decide) ?_
  exact W.iret (v := (-1)) hx hb hr (fun t ht hW => ⟨(-1), rfl, rfl, ht⟩) (fun _ h => by cases h) dX4_kindAt_28
def v_c_X4_left0 : List Cond := .code yX4_left cX4_left 1 (some .int) :: ([.fieldLink RX4 19 "TileHouse$Wall" "stands" "Z"] ++ (wsX40 ++ ([])))
theorem vg_c_X4_left0 : ∀ w ∈ v_c_X4_left0, goodWord w = true := vg_c (c := .code yX4_left cX4_left 1 (some .int)) (l := [.fieldLink RX4 19 "TileHouse$Wall" "stands" "Z"]) (by decide +kernel) (vg_a vgX4 (vg_nil))
theorem i_c_X4_left0_X4 : ∀ w ∈ u_ws RX4 TX4 4, w ∈ v_c_X4_left0 := fun _ h => List.mem_cons_of_mem _ (List.mem_append_right _ (List.mem_append_left _ h))
set_option maxHeartbeats 4000000 in
set_option maxRecDepth 100000 in
theorem c_X4_left0 (l : Launch) (G : va_G) (k : Nat → ClassId) (h0 : Nat) (x0 : Value) (x2 : Value) (x3 : Value) : Met l yX4_left v_c_X4_left0 ({ frames := 0, cells := 0, slots := 0, locals := 0 }) (va_Pc [.ref h0] (pr G k [(h0, .inr (3, [x0, .int 0, x2, x3]))])) (vp_Si (fun r => r = 0)) 0 0 (fun _ => False) := by
  refine Met.ofW (cc := cX4_left) (maxL := 1) (ret := (some .int)) (by decide) rfl ?_
  intro p e s m args below meth c s₁ B hml hv
  obtain ⟨rfl, hP, hK, hN⟩ := hv
  have hx := B.exec
  have hb := B.bytes
  have hr := B.returns
  have hts := atoms_spec (ws := v_c_X4_left0) B.pre
  have hown : s.vm.findClass RX4 = some m.cls := findClass_of_methodNamed B.named
  have hlocks := B.notSynchronized
  have hl := lv_entry ([.ref h0]) (n := 1) (Nat.le_of_ble_eq_true rfl)
  rw [lg_entry_eq]
  generalize (lg_sl ([.ref h0]) ++ List.replicate (1 - (lg_sl ([.ref h0])).length) Slot.unset).toArray = ls at hl ⊢
  have hl : lv_has ls 1 [(0, .ref h0)] := hl
  refine lv_aload_n hx hb dX4_left_0 rfl (lv_at hl 0 rfl) ?_
  refine va_get (D := G) (ci := 3) (v := .int 0) (C := RX4) (T := TX4) (N := 4) hx hb hts i_c_X4_left0_X4 hown hK hP 0 rfl rfl 1 (by decide) (hts (.fieldLink RX4 19 "TileHouse$Wall" "stands" "Z") (by decide +kernel)) (fun _ h9 => h9) rfl dX4_left_1 ?_
  refine lv_if_eq (tgt := 22) hx hb dX4_left_4 (by decide) (fun _ => ?_) (fun c9 => absurd (by decide) c9)
  refine lv_iconst (v := 0) hx hb dX4_left_22 (by decide) ?_
  exact W.iret (v := 0) hx hb hr (fun t ht hW => ⟨0, rfl, rfl, ht⟩) (fun _ h => by cases h) dX4_left_23
def v_c_X4_signs0 : List Cond := .code yX4_signs cX4_signs 1 (some .int) :: ([.fieldLink RX4 19 "TileHouse$Wall" "stands" "Z"] ++ (wsX40 ++ ([])))
theorem vg_c_X4_signs0 : ∀ w ∈ v_c_X4_signs0, goodWord w = true := vg_c (c := .code yX4_signs cX4_signs 1 (some .int)) (l := [.fieldLink RX4 19 "TileHouse$Wall" "stands" "Z"]) (by decide +kernel) (vg_a vgX4 (vg_nil))
theorem i_c_X4_signs0_X4 : ∀ w ∈ u_ws RX4 TX4 4, w ∈ v_c_X4_signs0 := fun _ h => List.mem_cons_of_mem _ (List.mem_append_right _ (List.mem_append_left _ h))
set_option maxHeartbeats 4000000 in
set_option maxRecDepth 100000 in
theorem c_X4_signs0 (l : Launch) (G : va_G) (k : Nat → ClassId) (h0 : Nat) (x0 : Value) (x2 : Value) (x3 : Value) : Met l yX4_signs v_c_X4_signs0 ({ frames := 0, cells := 0, slots := 0, locals := 0 }) (va_Pc [.ref h0] (pr G k [(h0, .inr (3, [x0, .int 0, x2, x3]))])) (vp_Si (fun r => r = 0)) 0 0 (fun _ => False) := by
  refine Met.ofW (cc := cX4_signs) (maxL := 1) (ret := (some .int)) (by decide) rfl ?_
  intro p e s m args below meth c s₁ B hml hv
  obtain ⟨rfl, hP, hK, hN⟩ := hv
  have hx := B.exec
  have hb := B.bytes
  have hr := B.returns
  have hts := atoms_spec (ws := v_c_X4_signs0) B.pre
  have hown : s.vm.findClass RX4 = some m.cls := findClass_of_methodNamed B.named
  have hlocks := B.notSynchronized
  have hl := lv_entry ([.ref h0]) (n := 1) (Nat.le_of_ble_eq_true rfl)
  rw [lg_entry_eq]
  generalize (lg_sl ([.ref h0]) ++ List.replicate (1 - (lg_sl ([.ref h0])).length) Slot.unset).toArray = ls at hl ⊢
  have hl : lv_has ls 1 [(0, .ref h0)] := hl
  refine lv_aload_n hx hb dX4_signs_0 rfl (lv_at hl 0 rfl) ?_
  refine va_get (D := G) (ci := 3) (v := .int 0) (C := RX4) (T := TX4) (N := 4) hx hb hts i_c_X4_signs0_X4 hown hK hP 0 rfl rfl 1 (by decide) (hts (.fieldLink RX4 19 "TileHouse$Wall" "stands" "Z") (by decide +kernel)) (fun _ h9 => h9) rfl dX4_signs_1 ?_
  refine lv_if_eq (tgt := 16) hx hb dX4_signs_4 (by decide) (fun _ => ?_) (fun c9 => absurd (by decide) c9)
  refine lv_iconst (v := 0) hx hb dX4_signs_16 (by decide) ?_
  exact W.iret (v := 0) hx hb hr (fun t ht hW => ⟨0, rfl, rfl, ht⟩) (fun _ h => by cases h) dX4_signs_17

theorem dX3_kinds_0 : decode cX3_kinds 0 = .ok (.lconst 0, 1) := by decide +kernel
theorem dX3_kinds_1 : decode cX3_kinds 1 = .ok (.lstore_n 1, 1) := by decide +kernel
theorem dX3_kinds_2 : decode cX3_kinds 2 = .ok (.iconst 0, 1) := by decide +kernel
theorem dX3_kinds_3 : decode cX3_kinds 3 = .ok (.istore_n 3, 1) := by decide +kernel
theorem dX3_kinds_4 : decode cX3_kinds 4 = .ok (.iload_n 3, 1) := by decide +kernel
theorem dX3_kinds_5 : decode cX3_kinds 5 = .ok (.bipush 34, 2) := by decide +kernel
theorem dX3_kinds_7 : decode cX3_kinds 7 = .ok (.if_icmp .ge 24, 3) := by decide +kernel
theorem dX3_kinds_31 : decode cX3_kinds 31 = .ok (.lload_n 1, 1) := by decide +kernel
theorem dX3_kinds_32 : decode cX3_kinds 32 = .ok (.lreturn, 1) := by decide +kernel
theorem dX3_kinds_10 : decode cX3_kinds 10 = .ok (.aload_n 0, 1) := by decide +kernel
theorem dX3_kinds_11 : decode cX3_kinds 11 = .ok (.getfield 15, 3) := by decide +kernel
theorem dX3_kinds_14 : decode cX3_kinds 14 = .ok (.iload_n 3, 1) := by decide +kernel
theorem dX3_kinds_15 : decode cX3_kinds 15 = .ok (.iaload, 1) := by decide +kernel
theorem dX3_kinds_25 : decode cX3_kinds 25 = .ok (.iinc 3 1, 3) := by decide +kernel
theorem dX3_kinds_28 : decode cX3_kinds 28 = .ok (.goto (-24), 3) := by decide +kernel
theorem dX3_kinds_16 : decode cX3_kinds 16 = .ok (.ifCond .le 9, 3) := by decide +kernel
theorem dX3_kinds_19 : decode cX3_kinds 19 = .ok (.lload_n 1, 1) := by decide +kernel
theorem dX3_kinds_20 : decode cX3_kinds 20 = .ok (.lconst 1, 1) := by decide +kernel
theorem dX3_kinds_21 : decode cX3_kinds 21 = .ok (.iload_n 3, 1) := by decide +kernel
theorem dX3_kinds_22 : decode cX3_kinds 22 = .ok (.lshl, 1) := by decide +kernel
theorem dX3_kinds_23 : decode cX3_kinds 23 = .ok (.lor, 1) := by decide +kernel
theorem dX3_kinds_24 : decode cX3_kinds 24 = .ok (.lstore_n 1, 1) := by decide +kernel
theorem dX3_isOpen_10 : decode cX3_isOpen 10 = .ok (.iload_n 1, 1) := by decide +kernel
theorem dX3_isOpen_11 : decode cX3_isOpen 11 = .ok (.iconst 4, 1) := by decide +kernel
theorem dX3_isOpen_12 : decode cX3_isOpen 12 = .ok (.if_icmp .ge 21, 3) := by decide +kernel
theorem dX3_isOpen_15 : decode cX3_isOpen 15 = .ok (.aload_n 0, 1) := by decide +kernel
theorem dX3_isOpen_16 : decode cX3_isOpen 16 = .ok (.getfield 18, 3) := by decide +kernel
theorem dX3_isOpen_19 : decode cX3_isOpen 19 = .ok (.iload_n 1, 1) := by decide +kernel
theorem dX3_isOpen_20 : decode cX3_isOpen 20 = .ok (.iaload, 1) := by decide +kernel
theorem dX3_isOpen_21 : decode cX3_isOpen 21 = .ok (.iconst 3, 1) := by decide +kernel
theorem dX3_isOpen_22 : decode cX3_isOpen 22 = .ok (.if_icmp .eq 5, 3) := by decide +kernel
theorem dX3_isOpen_27 : decode cX3_isOpen 27 = .ok (.iinc 1 1, 3) := by decide +kernel
theorem dX3_isOpen_30 : decode cX3_isOpen 30 = .ok (.goto (-28), 3) := by decide +kernel
theorem dX3_isOpen_25 : decode cX3_isOpen 25 = .ok (.iconst 1, 1) := by decide +kernel
theorem dX3_isOpen_26 : decode cX3_isOpen 26 = .ok (.ireturn, 1) := by decide +kernel
theorem dX3_isSevenPairs_0 : decode cX3_isSevenPairs 0 = .ok (.iconst 0, 1) := by decide +kernel
theorem dX3_isSevenPairs_1 : decode cX3_isSevenPairs 1 = .ok (.istore_n 1, 1) := by decide +kernel
theorem dX3_isSevenPairs_2 : decode cX3_isSevenPairs 2 = .ok (.iload_n 1, 1) := by decide +kernel
theorem dX3_isSevenPairs_3 : decode cX3_isSevenPairs 3 = .ok (.bipush 34, 2) := by decide +kernel
theorem dX3_isSevenPairs_5 : decode cX3_isSevenPairs 5 = .ok (.if_icmp .ge 30, 3) := by decide +kernel
theorem dX3_isSevenPairs_35 : decode cX3_isSevenPairs 35 = .ok (.aload_n 0, 1) := by decide +kernel
theorem dX3_isSevenPairs_36 : decode cX3_isSevenPairs 36 = .ok (.getfield 24, 3) := by decide +kernel
theorem dX3_isSevenPairs_56 : decode cX3_isSevenPairs 56 = .ok (.ireturn, 1) := by decide +kernel
theorem dX3_isSevenPairs_39 : decode cX3_isSevenPairs 39 = .ok (.ifCond .ne 16, 3) := by decide +kernel
theorem dX3_isSevenPairs_55 : decode cX3_isSevenPairs 55 = .ok (.iconst 0, 1) := by decide +kernel
theorem dX3_isSevenPairs_42 : decode cX3_isSevenPairs 42 = .ok (.aload_n 0, 1) := by decide +kernel
theorem dX3_isSevenPairs_43 : decode cX3_isSevenPairs 43 = .ok (.getfield 28, 3) := by decide +kernel
theorem dX3_isSevenPairs_46 : decode cX3_isSevenPairs 46 = .ok (.bipush 14, 2) := by decide +kernel
theorem dX3_isSevenPairs_48 : decode cX3_isSevenPairs 48 = .ok (.if_icmp .ne 7, 3) := by decide +kernel
theorem dX3_isSevenPairs_51 : decode cX3_isSevenPairs 51 = .ok (.iconst 1, 1) := by decide +kernel
theorem dX3_isSevenPairs_52 : decode cX3_isSevenPairs 52 = .ok (.goto 4, 3) := by decide +kernel
theorem dX3_isSevenPairs_8 : decode cX3_isSevenPairs 8 = .ok (.aload_n 0, 1) := by decide +kernel
theorem dX3_isSevenPairs_9 : decode cX3_isSevenPairs 9 = .ok (.getfield 9, 3) := by decide +kernel
theorem dX3_isSevenPairs_12 : decode cX3_isSevenPairs 12 = .ok (.iload_n 1, 1) := by decide +kernel
theorem dX3_isSevenPairs_13 : decode cX3_isSevenPairs 13 = .ok (.iaload, 1) := by decide +kernel
theorem dX3_isSevenPairs_14 : decode cX3_isSevenPairs 14 = .ok (.ifCond .eq 15, 3) := by decide +kernel
theorem dX3_isSevenPairs_29 : decode cX3_isSevenPairs 29 = .ok (.iinc 1 1, 3) := by decide +kernel
theorem dX3_isSevenPairs_32 : decode cX3_isSevenPairs 32 = .ok (.goto (-30), 3) := by decide +kernel
theorem dX3_isSevenPairs_17 : decode cX3_isSevenPairs 17 = .ok (.aload_n 0, 1) := by decide +kernel
theorem dX3_isSevenPairs_18 : decode cX3_isSevenPairs 18 = .ok (.getfield 9, 3) := by decide +kernel
theorem dX3_isSevenPairs_21 : decode cX3_isSevenPairs 21 = .ok (.iload_n 1, 1) := by decide +kernel
theorem dX3_isSevenPairs_22 : decode cX3_isSevenPairs 22 = .ok (.iaload, 1) := by decide +kernel
theorem dX3_isSevenPairs_23 : decode cX3_isSevenPairs 23 = .ok (.iconst 2, 1) := by decide +kernel
theorem dX3_isSevenPairs_24 : decode cX3_isSevenPairs 24 = .ok (.if_icmp .eq 5, 3) := by decide +kernel
theorem dX3_isSevenPairs_27 : decode cX3_isSevenPairs 27 = .ok (.iconst 0, 1) := by decide +kernel
theorem dX3_isSevenPairs_28 : decode cX3_isSevenPairs 28 = .ok (.ireturn, 1) := by decide +kernel
theorem dX3_isThirteen_0 : decode cX3_isThirteen 0 = .ok (.aload_n 0, 1) := by decide +kernel
theorem dX3_isThirteen_1 : decode cX3_isThirteen 1 = .ok (.getfield 24, 3) := by decide +kernel
theorem dX3_isThirteen_32 : decode cX3_isThirteen 32 = .ok (.ireturn, 1) := by decide +kernel
theorem dX3_isThirteen_4 : decode cX3_isThirteen 4 = .ok (.ifCond .ne 27, 3) := by decide +kernel
theorem dX3_isThirteen_31 : decode cX3_isThirteen 31 = .ok (.iconst 0, 1) := by decide +kernel
theorem dX3_isThirteen_7 : decode cX3_isThirteen 7 = .ok (.aload_n 0, 1) := by decide +kernel
theorem dX3_isThirteen_8 : decode cX3_isThirteen 8 = .ok (.getfield 28, 3) := by decide +kernel
theorem dX3_isThirteen_11 : decode cX3_isThirteen 11 = .ok (.bipush 14, 2) := by decide +kernel
theorem dX3_isThirteen_13 : decode cX3_isThirteen 13 = .ok (.if_icmp .ne 18, 3) := by decide +kernel
theorem dX3_isThirteen_16 : decode cX3_isThirteen 16 = .ok (.aload_n 0, 1) := by decide +kernel
theorem dX3_isThirteen_17 : decode cX3_isThirteen 17 = .ok (.invokevirtual 65, 3) := by decide +kernel
theorem dX3_isThirteen_20 : decode cX3_isThirteen 20 = .ok (.ldc2_w 69, 3) := by decide +kernel
theorem dX3_isThirteen_23 : decode cX3_isThirteen 23 = .ok (.lcmp, 1) := by decide +kernel
theorem dX3_isThirteen_24 : decode cX3_isThirteen 24 = .ok (.ifCond .ne 7, 3) := by decide +kernel
theorem dX3_isThirteen_27 : decode cX3_isThirteen 27 = .ok (.iconst 1, 1) := by decide +kernel
theorem dX3_isThirteen_28 : decode cX3_isThirteen 28 = .ok (.goto 4, 3) := by decide +kernel
theorem dX3_splitsBeside_0 : decode cX3_splitsBeside 0 = .ok (.iconst 0, 1) := by decide +kernel
theorem dX3_splitsBeside_1 : decode cX3_splitsBeside 1 = .ok (.istore_n 2, 1) := by decide +kernel
theorem dX3_splitsBeside_2 : decode cX3_splitsBeside 2 = .ok (.iconst 0, 1) := by decide +kernel
theorem dX3_splitsBeside_3 : decode cX3_splitsBeside 3 = .ok (.istore_n 3, 1) := by decide +kernel
theorem dX3_splitsBeside_4 : decode cX3_splitsBeside 4 = .ok (.iconst 0, 1) := by decide +kernel
theorem dX3_splitsBeside_5 : decode cX3_splitsBeside 5 = .ok (.istore 4, 2) := by decide +kernel
theorem dX3_splitsBeside_7 : decode cX3_splitsBeside 7 = .ok (.iload 4, 2) := by decide +kernel
theorem dX3_splitsBeside_9 : decode cX3_splitsBeside 9 = .ok (.bipush 34, 2) := by decide +kernel
theorem dX3_splitsBeside_11 : decode cX3_splitsBeside 11 = .ok (.if_icmp .ge 67, 3) := by decide +kernel
theorem dX3_splitsBeside_78 : decode cX3_splitsBeside 78 = .ok (.iconst 1, 1) := by decide +kernel
theorem dX3_splitsBeside_79 : decode cX3_splitsBeside 79 = .ok (.ireturn, 1) := by decide +kernel
theorem dX3_splitsBeside_14 : decode cX3_splitsBeside 14 = .ok (.aload_n 0, 1) := by decide +kernel
theorem dX3_splitsBeside_15 : decode cX3_splitsBeside 15 = .ok (.getfield 9, 3) := by decide +kernel
theorem dX3_splitsBeside_18 : decode cX3_splitsBeside 18 = .ok (.iload 4, 2) := by decide +kernel
theorem dX3_splitsBeside_20 : decode cX3_splitsBeside 20 = .ok (.iaload, 1) := by decide +kernel
theorem dX3_splitsBeside_21 : decode cX3_splitsBeside 21 = .ok (.iload 4, 2) := by decide +kernel
theorem dX3_splitsBeside_23 : decode cX3_splitsBeside 23 = .ok (.iload_n 1, 1) := by decide +kernel
theorem dX3_splitsBeside_32 : decode cX3_splitsBeside 32 = .ok (.isub, 1) := by decide +kernel
theorem dX3_splitsBeside_33 : decode cX3_splitsBeside 33 = .ok (.iload_n 2, 1) := by decide +kernel
theorem dX3_splitsBeside_34 : decode cX3_splitsBeside 34 = .ok (.isub, 1) := by decide +kernel
theorem dX3_splitsBeside_35 : decode cX3_splitsBeside 35 = .ok (.iload_n 3, 1) := by decide +kernel
theorem dX3_splitsBeside_36 : decode cX3_splitsBeside 36 = .ok (.isub, 1) := by decide +kernel
theorem dX3_splitsBeside_37 : decode cX3_splitsBeside 37 = .ok (.istore 5, 2) := by decide +kernel
theorem dX3_splitsBeside_39 : decode cX3_splitsBeside 39 = .ok (.iload 5, 2) := by decide +kernel
theorem dX3_splitsBeside_41 : decode cX3_splitsBeside 41 = .ok (.ifCond .ge 5, 3) := by decide +kernel
theorem dX3_splitsBeside_46 : decode cX3_splitsBeside 46 = .ok (.iload 5, 2) := by decide +kernel
theorem dX3_splitsBeside_48 : decode cX3_splitsBeside 48 = .ok (.iconst 3, 1) := by decide +kernel
theorem dX3_splitsBeside_49 : decode cX3_splitsBeside 49 = .ok (.irem, 1) := by decide +kernel
theorem dX3_splitsBeside_50 : decode cX3_splitsBeside 50 = .ok (.istore 6, 2) := by decide +kernel
theorem dX3_splitsBeside_52 : decode cX3_splitsBeside 52 = .ok (.iload 6, 2) := by decide +kernel
theorem dX3_splitsBeside_54 : decode cX3_splitsBeside 54 = .ok (.ifCond .le 13, 3) := by decide +kernel
theorem dX3_splitsBeside_67 : decode cX3_splitsBeside 67 = .ok (.iload_n 2, 1) := by decide +kernel
theorem dX3_splitsBeside_68 : decode cX3_splitsBeside 68 = .ok (.istore_n 3, 1) := by decide +kernel
theorem dX3_splitsBeside_69 : decode cX3_splitsBeside 69 = .ok (.iload 6, 2) := by decide +kernel
theorem dX3_splitsBeside_71 : decode cX3_splitsBeside 71 = .ok (.istore_n 2, 1) := by decide +kernel
theorem dX3_splitsBeside_72 : decode cX3_splitsBeside 72 = .ok (.iinc 4 1, 3) := by decide +kernel
theorem dX3_splitsBeside_75 : decode cX3_splitsBeside 75 = .ok (.goto (-68), 3) := by decide +kernel
theorem dX3_splitsBeside_57 : decode cX3_splitsBeside 57 = .ok (.iload 4, 2) := by decide +kernel
theorem dX3_splitsBeside_59 : decode cX3_splitsBeside 59 = .ok (.invokestatic 74, 3) := by decide +kernel
theorem dX3_splitsBeside_62 : decode cX3_splitsBeside 62 = .ok (.ifCond .ne 5, 3) := by decide +kernel
theorem dX3_splitsBeside_65 : decode cX3_splitsBeside 65 = .ok (.iconst 0, 1) := by decide +kernel
theorem dX3_splitsBeside_66 : decode cX3_splitsBeside 66 = .ok (.ireturn, 1) := by decide +kernel
theorem dX3_splitsBeside_44 : decode cX3_splitsBeside 44 = .ok (.iconst 0, 1) := by decide +kernel
theorem dX3_splitsBeside_45 : decode cX3_splitsBeside 45 = .ok (.ireturn, 1) := by decide +kernel
theorem dX3_splitsBeside_24 : decode cX3_splitsBeside 24 = .ok (.if_icmp .ne 7, 3) := by decide +kernel
theorem dX3_splitsBeside_31 : decode cX3_splitsBeside 31 = .ok (.iconst 0, 1) := by decide +kernel
theorem dX3_splitsBeside_27 : decode cX3_splitsBeside 27 = .ok (.iconst 2, 1) := by decide +kernel
theorem dX3_splitsBeside_28 : decode cX3_splitsBeside 28 = .ok (.goto 4, 3) := by decide +kernel
theorem dX3_isSetsAndPair_0 : decode cX3_isSetsAndPair 0 = .ok (.iconst 0, 1) := by decide +kernel
theorem dX3_isSetsAndPair_1 : decode cX3_isSetsAndPair 1 = .ok (.istore_n 1, 1) := by decide +kernel
theorem dX3_isSetsAndPair_2 : decode cX3_isSetsAndPair 2 = .ok (.iload_n 1, 1) := by decide +kernel
theorem dX3_isSetsAndPair_3 : decode cX3_isSetsAndPair 3 = .ok (.bipush 34, 2) := by decide +kernel
theorem dX3_isSetsAndPair_5 : decode cX3_isSetsAndPair 5 = .ok (.if_icmp .ge 29, 3) := by decide +kernel
theorem dX3_isSetsAndPair_34 : decode cX3_isSetsAndPair 34 = .ok (.iconst 0, 1) := by decide +kernel
theorem dX3_isSetsAndPair_35 : decode cX3_isSetsAndPair 35 = .ok (.ireturn, 1) := by decide +kernel
theorem dX3_isSetsAndPair_8 : decode cX3_isSetsAndPair 8 = .ok (.aload_n 0, 1) := by decide +kernel
theorem dX3_isSetsAndPair_9 : decode cX3_isSetsAndPair 9 = .ok (.getfield 9, 3) := by decide +kernel
theorem dX3_isSetsAndPair_12 : decode cX3_isSetsAndPair 12 = .ok (.iload_n 1, 1) := by decide +kernel
theorem dX3_isSetsAndPair_13 : decode cX3_isSetsAndPair 13 = .ok (.iaload, 1) := by decide +kernel
theorem dX3_isSetsAndPair_14 : decode cX3_isSetsAndPair 14 = .ok (.iconst 2, 1) := by decide +kernel
theorem dX3_isSetsAndPair_15 : decode cX3_isSetsAndPair 15 = .ok (.if_icmp .lt 13, 3) := by decide +kernel
theorem dX3_isSetsAndPair_28 : decode cX3_isSetsAndPair 28 = .ok (.iinc 1 1, 3) := by decide +kernel
theorem dX3_isSetsAndPair_31 : decode cX3_isSetsAndPair 31 = .ok (.goto (-29), 3) := by decide +kernel
theorem dX3_isSetsAndPair_18 : decode cX3_isSetsAndPair 18 = .ok (.aload_n 0, 1) := by decide +kernel
theorem dX3_isSetsAndPair_19 : decode cX3_isSetsAndPair 19 = .ok (.iload_n 1, 1) := by decide +kernel
theorem dX3_isSetsAndPair_20 : decode cX3_isSetsAndPair 20 = .ok (.invokevirtual 71, 3) := by decide +kernel
theorem dX3_isSetsAndPair_23 : decode cX3_isSetsAndPair 23 = .ok (.ifCond .eq 5, 3) := by decide +kernel
theorem dX3_isSetsAndPair_26 : decode cX3_isSetsAndPair 26 = .ok (.iconst 1, 1) := by decide +kernel
theorem dX3_isSetsAndPair_27 : decode cX3_isSetsAndPair 27 = .ok (.ireturn, 1) := by decide +kernel
theorem inN {x : Int32} {a n : Nat} (hx : x = nI a) (h : a < n) (hn : n < 2 ^ 31) : vp_in x n := by rw [hx]; exact vp_in_nI h hn
def v_t_kinds : List Cond := .code yX3_kinds cX3_kinds 4 (some .long) :: ([.fieldLink RX3 15 "TileHouse$Tiles" "all" "[I"] ++ (wsX30 ++ ([])))
theorem vg_t_kinds : ∀ w ∈ v_t_kinds, goodWord w = true := vg_c (c := .code yX3_kinds cX3_kinds 4 (some .long)) (l := [.fieldLink RX3 15 "TileHouse$Tiles" "all" "[I"]) (by decide +kernel) (vg_a vgX3 (vg_nil))
theorem i_t_kinds_X3 : ∀ w ∈ u_ws RX3 TX3 6, w ∈ v_t_kinds := fun _ h => List.mem_cons_of_mem _ (List.mem_append_right _ (List.mem_append_left _ h))
set_option maxHeartbeats 4000000 in
set_option maxRecDepth 100000 in
theorem t_kinds (l : Launch) (G : va_G) (k : Nat → ClassId) (h0 : Nat) (fr : Nat) (al : Nat) (so : Nat) (lw : Nat) (ld : Int32) (lo : Int32) (f1 : Nat → Int32) : Met l yX3_kinds v_t_kinds ({ frames := 0, cells := 0, slots := 0, locals := 0 }) (va_Pc [.ref h0] (pr G k [(h0, .inr (2, [.ref fr, .ref al, .ref so, .ref lw, .int ld, .int lo])), (al, .inl (k 0, 34, .inl f1))])) (vp_Sl (fun _ => True)) 0 0 (fun _ => False) := by
  refine Met.ofW (cc := cX3_kinds) (maxL := 4) (ret := (some .long)) (by decide) rfl ?_
  intro p e s m args below meth c s₁ B hml hv
  obtain ⟨rfl, hP, hK, hN⟩ := hv
  have hx := B.exec
  have hb := B.bytes
  have hr := B.returns
  have hts := atoms_spec (ws := v_t_kinds) B.pre
  have hown : s.vm.findClass RX3 = some m.cls := findClass_of_methodNamed B.named
  have hlocks := B.notSynchronized
  have hl := lv_entry ([.ref h0]) (n := 4) (Nat.le_of_ble_eq_true rfl)
  rw [lg_entry_eq]
  generalize (lg_sl ([.ref h0]) ++ List.replicate (4 - (lg_sl ([.ref h0])).length) Slot.unset).toArray = ls at hl ⊢
  have hl : lv_has ls 4 [(0, .ref h0)] := hl
  refine lv_lconst (v := 0) hx hb dX3_kinds_0 (by decide) ?_
  refine lv_lstore_n (lv' := [(1, .long 0), (0, .ref h0)]) hx hb dX3_kinds_1 rfl hl (by decide) rfl (fun ls hl => ?_)
  refine lv_iconst (v := 0) hx hb dX3_kinds_2 (by decide) ?_
  refine lv_istore_n (lv' := [(3, .int 0), (1, .long 0), (0, .ref h0)]) hx hb dX3_kinds_3 rfl hl (by decide) rfl (fun ls hl => ?_)
  obtain ⟨j1, kj1, ej1, hj1⟩ : ∃ j : Nat, j = 0 ∧ nI j = (0 : Int32) ∧ j ≤ 34 := ⟨0, rfl, rfl, by decide⟩
  replace hl : lv_has ls 4 [(3, .int (nI j1)), (1, .long 0), (0, .ref h0)] := by rw [ej1]; exact hl
  obtain ⟨w2, ew2⟩ : ∃ x : Int64, x = 0 := ⟨_, rfl⟩
  replace hl : lv_has ls 4 [(3, .int (nI j1)), (1, .long w2), (0, .ref h0)] := by rw [ew2]; exact hl
  clear ew2
  clear kj1 ej1
  obtain ⟨nj1, hnj1⟩ : ∃ n : Nat, 34 < j1 + n := ⟨35, by omega⟩
  induction nj1 generalizing j1 ls w2 with
  | zero => exact absurd hnj1 (by omega)
  | succ nj1 ihj1 =>
    refine lv_iload_n hx hb dX3_kinds_4 rfl (lv_at hl 0 rfl) ?_
    refine lv_bipush (v := 34) hx hb dX3_kinds_5 (by decide) ?_
    refine lv_icmp_ge (tgt := 31) hx hb dX3_kinds_7 (by decide) (fun c3 => ?_) (fun c3 => ?_)
    · skip
      have hge : 34 ≤ j1 := (nI_leI (a := 34) (b := j1) (by omega) (by omega)).mp c3
      refine lv_lload_n hx hb dX3_kinds_31 rfl (lv_at hl 1 rfl) ?_
      exact W.lret (v := w2) hx hb hr (fun t ht hW => ⟨w2, rfl, trivial, ht⟩) (fun _ h => by cases h) dX3_kinds_32
    · skip
      have hltj1 : j1 < 34 := Nat.lt_of_not_le (fun h9 => c3 (nI_le h9 (by omega)))
      refine lv_aload_n hx hb dX3_kinds_10 rfl (lv_at hl 2 rfl) ?_
      refine va_get (D := G) (ci := 2) (v := .ref al) (C := RX3) (T := TX3) (N := 6) hx hb hts i_t_kinds_X3 hown hK hP 0 rfl rfl 1 (by decide) (hts (.fieldLink RX3 15 "TileHouse$Tiles" "all" "[I") (by decide +kernel)) (fun _ h9 => h9) rfl dX3_kinds_11 ?_
      refine lv_iload_n hx hb dX3_kinds_14 rfl (lv_at hl 0 rfl) ?_
      refine va_iald hx hb hK hP 1 0 rfl rfl (inN (rfl : (nI j1) = nI (j1)) (by omega) (by decide)) dX3_kinds_15 ?_
      refine lv_topi (fun v4 ev4 => ?_)
      have J25_6 : ∀ (g5 : Int64) (ls : Array Slot), lv_has ls 4 [(3, .int (nI j1)), (1, .long g5), (0, .ref h0)] → W p l e (headSpec v_t_kinds ({ frames := 0, cells := 0, slots := 0, locals := 0 })).room s m [.ref h0].toArray below meth c s.heap [] 0 0 (MQ below (vp_Sl (fun _ => True)) [.ref h0].toArray s 0 0 (fun _ => False)) (F0 m 25 ls []) := by
        intro g5 ls hl
        obtain ⟨v7, ev7⟩ : ∃ y : Int32, y = (nI j1) + 1 := ⟨_, rfl⟩
        have nv7 : v7 = nI (j1 + 1) := by rw [ev7]; exact nI_add (j1) (1)
        refine lv_iinc (v := v7) (lv' := [(3, .int v7), (1, .long g5), (0, .ref h0)]) hx hb dX3_kinds_25 hl (k := 0) rfl (by rw [ev7]; rfl) (by decide) rfl (fun ls hl => ?_)
        refine lv_goto (tgt := 4) hx hb dX3_kinds_28 (by decide) ?_
        exact ihj1 (j1 := j1 + 1) (hj1 := by omega) (hnj1 := by omega) (ls := ls) (hl := by rw [nI_succ, ← ev7]; exact lv_sub hl [0, 1, 2] rfl) (w2 := g5)
      refine lv_if_le (tgt := 25) hx hb dX3_kinds_16 (by decide) (fun c8 => ?_) (fun c8 => ?_)
      · skip
        exact J25_6 w2 ls (lv_sub hl [0, 1, 2] rfl)
      · skip
        refine lv_lload_n hx hb dX3_kinds_19 rfl (lv_at hl 1 rfl) ?_
        refine lv_lconst (v := 1) hx hb dX3_kinds_20 (by decide) ?_
        refine lv_iload_n hx hb dX3_kinds_21 rfl (lv_at hl 0 rfl) ?_
        refine lv_lshl hx hb dX3_kinds_22 rfl ?_
        refine lv_topl (fun v9 ev9 => ?_)
        refine lv_lor hx hb dX3_kinds_23 ?_
        refine lv_topl (fun v10 ev10 => ?_)
        refine lv_lstore_n (lv' := [(1, .long v10), (3, .int (nI j1)), (0, .ref h0)]) hx hb dX3_kinds_24 rfl hl (by decide) rfl (fun ls hl => ?_)
        exact J25_6 v10 ls (lv_sub hl [1, 0, 2] rfl)
def v_t_isOpen : List Cond := .code yX3_isOpen cX3_isOpen 2 (some .boolean) :: ([.fieldLink RX3 24 "TileHouse$Tiles" "laidDown" "I", .fieldLink RX3 18 "TileHouse$Tiles" "sort" "[I"] ++ (wsX30 ++ ([])))
theorem vg_t_isOpen : ∀ w ∈ v_t_isOpen, goodWord w = true := vg_c (c := .code yX3_isOpen cX3_isOpen 2 (some .boolean)) (l := [.fieldLink RX3 24 "TileHouse$Tiles" "laidDown" "I", .fieldLink RX3 18 "TileHouse$Tiles" "sort" "[I"]) (by decide +kernel) (vg_a vgX3 (vg_nil))
theorem i_t_isOpen_X3 : ∀ w ∈ u_ws RX3 TX3 6, w ∈ v_t_isOpen := fun _ h => List.mem_cons_of_mem _ (List.mem_append_right _ (List.mem_append_left _ h))
set_option maxHeartbeats 4000000 in
set_option maxRecDepth 100000 in
theorem t_isOpen (l : Launch) (G : va_G) (k : Nat → ClassId) (h0 : Nat) (fr : Nat) (al : Nat) (so : Nat) (lw : Nat) (ld : Int32) (lo : Int32) (f2 : Nat → Int32) : Met l yX3_isOpen v_t_isOpen ({ frames := 0, cells := 0, slots := 0, locals := 0 }) (va_Pc [.ref h0] (pr G k [(h0, .inr (2, [.ref fr, .ref al, .ref so, .ref lw, .int ld, .int lo])), (so, .inl (k 0, 4, .inl f2))])) (vp_Si (fun _ => True)) 0 0 (fun _ => False) := by
  refine Met.ofW (cc := cX3_isOpen) (maxL := 2) (ret := (some .boolean)) (by decide) rfl ?_
  intro p e s m args below meth c s₁ B hml hv
  obtain ⟨rfl, hP, hK, hN⟩ := hv
  have hx := B.exec
  have hb := B.bytes
  have hr := B.returns
  have hts := atoms_spec (ws := v_t_isOpen) B.pre
  have hown : s.vm.findClass RX3 = some m.cls := findClass_of_methodNamed B.named
  have hlocks := B.notSynchronized
  have hl := lv_entry ([.ref h0]) (n := 2) (Nat.le_of_ble_eq_true rfl)
  rw [lg_entry_eq]
  generalize (lg_sl ([.ref h0]) ++ List.replicate (2 - (lg_sl ([.ref h0])).length) Slot.unset).toArray = ls at hl ⊢
  have hl : lv_has ls 2 [(0, .ref h0)] := hl
  refine lv_iconst (v := 0) hx hb dX3_isOpen_0 (by decide) ?_
  refine lv_istore_n (lv' := [(1, .int 0), (0, .ref h0)]) hx hb dX3_isOpen_1 rfl hl (by decide) rfl (fun ls hl => ?_)
  obtain ⟨j1, kj1, ej1, hj1⟩ : ∃ j : Nat, j = 0 ∧ nI j = (0 : Int32) ∧ j ≤ 4 := ⟨0, rfl, rfl, by decide⟩
  replace hl : lv_has ls 2 [(1, .int (nI j1)), (0, .ref h0)] := by rw [ej1]; exact hl
  clear kj1 ej1
  obtain ⟨nj1, hnj1⟩ : ∃ n : Nat, 4 < j1 + n := ⟨5, by omega⟩
  induction nj1 generalizing j1 ls  with
  | zero => exact absurd hnj1 (by omega)
  | succ nj1 ihj1 =>
    refine lv_iload_n hx hb dX3_isOpen_2 rfl (lv_at hl 0 rfl) ?_
    refine lv_aload_n hx hb dX3_isOpen_3 rfl (lv_at hl 1 rfl) ?_
    refine va_get (D := G) (ci := 2) (v := .int ld) (C := RX3) (T := TX3) (N := 6) hx hb hts i_t_isOpen_X3 hown hK hP 0 rfl rfl 4 (by decide) (hts (.fieldLink RX3 24 "TileHouse$Tiles" "laidDown" "I") (by decide +kernel)) (fun _ h9 => h9) rfl dX3_isOpen_4 ?_
    refine lv_icmp_ge (tgt := 33) hx hb dX3_isOpen_7 (by decide) (fun c2 => ?_) (fun c2 => ?_)
    · skip
      refine lv_iconst (v := 0) hx hb dX3_isOpen_33 (by decide) ?_
      exact W.zret (v := 0) hx hb hr rfl (fun t ht hW => ⟨0, rfl, trivial, ht⟩) (fun _ h => by cases h) dX3_isOpen_34
    · skip
      refine lv_iload_n hx hb dX3_isOpen_10 rfl (lv_at hl 0 rfl) ?_
      refine lv_iconst (v := 4) hx hb dX3_isOpen_11 (by decide) ?_
      refine lv_icmp_ge (tgt := 33) hx hb dX3_isOpen_12 (by decide) (fun c3 => ?_) (fun c3 => ?_)
      · skip
        have hge : 4 ≤ j1 := (nI_leI (a := 4) (b := j1) (by omega) (by omega)).mp c3
        refine lv_iconst (v := 0) hx hb dX3_isOpen_33 (by decide) ?_
        exact W.zret (v := 0) hx hb hr rfl (fun t ht hW => ⟨0, rfl, trivial, ht⟩) (fun _ h => by cases h) dX3_isOpen_34
      · skip
        have hltj1 : j1 < 4 := Nat.lt_of_not_le (fun h9 => c3 (nI_le h9 (by omega)))
        refine lv_aload_n hx hb dX3_isOpen_15 rfl (lv_at hl 1 rfl) ?_
        refine va_get (D := G) (ci := 2) (v := .ref so) (C := RX3) (T := TX3) (N := 6) hx hb hts i_t_isOpen_X3 hown hK hP 0 rfl rfl 2 (by decide) (hts (.fieldLink RX3 18 "TileHouse$Tiles" "sort" "[I") (by decide +kernel)) (fun _ h9 => h9) rfl dX3_isOpen_16 ?_
        refine lv_iload_n hx hb dX3_isOpen_19 rfl (lv_at hl 0 rfl) ?_
        refine va_iald hx hb hK hP 1 0 rfl rfl (inN (rfl : (nI j1) = nI (j1)) (by omega) (by decide)) dX3_isOpen_20 ?_
        refine lv_topi (fun v4 ev4 => ?_)
        refine lv_iconst (v := 3) hx hb dX3_isOpen_21 (by decide) ?_
        refine lv_icmp_eq (tgt := 27) hx hb dX3_isOpen_22 (by decide) (fun c5 => ?_) (fun c5 => ?_)
        · skip
          obtain ⟨v6, ev6⟩ : ∃ y : Int32, y = (nI j1) + 1 := ⟨_, rfl⟩
          have nv6 : v6 = nI (j1 + 1) := by rw [ev6]; exact nI_add (j1) (1)
          refine lv_iinc (v := v6) (lv' := [(1, .int v6), (0, .ref h0)]) hx hb dX3_isOpen_27 hl (k := 0) rfl (by rw [ev6]; rfl) (by decide) rfl (fun ls hl => ?_)
          refine lv_goto (tgt := 2) hx hb dX3_isOpen_30 (by decide) ?_
          exact ihj1 (j1 := j1 + 1) (hj1 := by omega) (hnj1 := by omega) (ls := ls) (hl := by rw [nI_succ, ← ev6]; exact lv_sub hl [0, 1] rfl)
        · skip
          refine lv_iconst (v := 1) hx hb dX3_isOpen_25 (by decide) ?_
          exact W.zret (v := 1) hx hb hr rfl (fun t ht hW => ⟨1, rfl, trivial, ht⟩) (fun _ h => by cases h) dX3_isOpen_26
def v_t_isSevenPairs : List Cond := .code yX3_isSevenPairs cX3_isSevenPairs 2 (some .boolean) :: ([.fieldLink RX3 24 "TileHouse$Tiles" "laidDown" "I", .fieldLink RX3 28 "TileHouse$Tiles" "loose" "I", .fieldLink RX3 9 "TileHouse$Tiles" "free" "[I"] ++ (wsX30 ++ ([])))
theorem vg_t_isSevenPairs : ∀ w ∈ v_t_isSevenPairs, goodWord w = true := vg_c (c := .code yX3_isSevenPairs cX3_isSevenPairs 2 (some .boolean)) (l := [.fieldLink RX3 24 "TileHouse$Tiles" "laidDown" "I", .fieldLink RX3 28 "TileHouse$Tiles" "loose" "I", .fieldLink RX3 9 "TileHouse$Tiles" "free" "[I"]) (by decide +kernel) (vg_a vgX3 (vg_nil))
theorem i_t_isSevenPairs_X3 : ∀ w ∈ u_ws RX3 TX3 6, w ∈ v_t_isSevenPairs := fun _ h => List.mem_cons_of_mem _ (List.mem_append_right _ (List.mem_append_left _ h))
set_option maxHeartbeats 4000000 in
set_option maxRecDepth 100000 in
theorem t_isSevenPairs (l : Launch) (G : va_G) (k : Nat → ClassId) (h0 : Nat) (fr : Nat) (al : Nat) (so : Nat) (lw : Nat) (ld : Int32) (lo : Int32) (f : Nat → Int32) : Met l yX3_isSevenPairs v_t_isSevenPairs ({ frames := 0, cells := 0, slots := 0, locals := 0 }) (va_Pc [.ref h0] (pr G k [(h0, .inr (2, [.ref fr, .ref al, .ref so, .ref lw, .int ld, .int lo])), (fr, .inl (k 0, 34, .inl f))])) (vp_Si (fun _ => True)) 0 0 (fun _ => False) := by
  refine Met.ofW (cc := cX3_isSevenPairs) (maxL := 2) (ret := (some .boolean)) (by decide) rfl ?_
  intro p e s m args below meth c s₁ B hml hv
  obtain ⟨rfl, hP, hK, hN⟩ := hv
  have hx := B.exec
  have hb := B.bytes
  have hr := B.returns
  have hts := atoms_spec (ws := v_t_isSevenPairs) B.pre
  have hown : s.vm.findClass RX3 = some m.cls := findClass_of_methodNamed B.named
  have hlocks := B.notSynchronized
  have hl := lv_entry ([.ref h0]) (n := 2) (Nat.le_of_ble_eq_true rfl)
  rw [lg_entry_eq]
  generalize (lg_sl ([.ref h0]) ++ List.replicate (2 - (lg_sl ([.ref h0])).length) Slot.unset).toArray = ls at hl ⊢
  have hl : lv_has ls 2 [(0, .ref h0)] := hl
  refine lv_iconst (v := 0) hx hb dX3_isSevenPairs_0 (by decide) ?_
  refine lv_istore_n (lv' := [(1, .int 0), (0, .ref h0)]) hx hb dX3_isSevenPairs_1 rfl hl (by decide) rfl (fun ls hl => ?_)
  obtain ⟨j1, kj1, ej1, hj1⟩ : ∃ j : Nat, j = 0 ∧ nI j = (0 : Int32) ∧ j ≤ 34 := ⟨0, rfl, rfl, by decide⟩
  replace hl : lv_has ls 2 [(1, .int (nI j1)), (0, .ref h0)] := by rw [ej1]; exact hl
  clear kj1 ej1
  obtain ⟨nj1, hnj1⟩ : ∃ n : Nat, 34 < j1 + n := ⟨35, by omega⟩
  induction nj1 generalizing j1 ls  with
  | zero => exact absurd hnj1 (by omega)
  | succ nj1 ihj1 =>
    refine lv_iload_n hx hb dX3_isSevenPairs_2 rfl (lv_at hl 0 rfl) ?_
    refine lv_bipush (v := 34) hx hb dX3_isSevenPairs_3 (by decide) ?_
    refine lv_icmp_ge (tgt := 35) hx hb dX3_isSevenPairs_5 (by decide) (fun c2 => ?_) (fun c2 => ?_)
    · skip
      have hge : 34 ≤ j1 := (nI_leI (a := 34) (b := j1) (by omega) (by omega)).mp c2
      refine lv_aload_n hx hb dX3_isSevenPairs_35 rfl (lv_at hl 1 rfl) ?_
      refine va_get (D := G) (ci := 2) (v := .int ld) (C := RX3) (T := TX3) (N := 6) hx hb hts i_t_isSevenPairs_X3 hown hK hP 0 rfl rfl 4 (by decide) (hts (.fieldLink RX3 24 "TileHouse$Tiles" "laidDown" "I") (by decide +kernel)) (fun _ h9 => h9) rfl dX3_isSevenPairs_36 ?_
      have J56_4 : ∀ (g3 : Int32) (hg3 : g3 = 0 ∨ g3 = 1) (ls : Array Slot), lv_has ls 2 [(1, .int (nI j1)), (0, .ref h0)] → W p l e (headSpec v_t_isSevenPairs ({ frames := 0, cells := 0, slots := 0, locals := 0 })).room s m [.ref h0].toArray below meth c s.heap [] 0 0 (MQ below (vp_Si (fun _ => True)) [.ref h0].toArray s 0 0 (fun _ => False)) (F0 m 56 ls [.int g3]) := by
        intro g3 hg3 ls hl
        exact W.zret (v := g3) hx hb hr (by rcases hg3 with rfl | rfl <;> rfl) (fun t ht hW => ⟨g3, rfl, trivial, ht⟩) (fun _ h => by cases h) dX3_isSevenPairs_56
      refine lv_if_ne (tgt := 55) hx hb dX3_isSevenPairs_39 (by decide) (fun c5 => ?_) (fun c5 => ?_)
      · skip
        refine lv_iconst (v := 0) hx hb dX3_isSevenPairs_55 (by decide) ?_
        exact J56_4 0 (Or.inl rfl) ls (lv_sub hl [0, 1] rfl)
      · skip
        refine lv_aload_n hx hb dX3_isSevenPairs_42 rfl (lv_at hl 1 rfl) ?_
        refine va_get (D := G) (ci := 2) (v := .int lo) (C := RX3) (T := TX3) (N := 6) hx hb hts i_t_isSevenPairs_X3 hown hK hP 0 rfl rfl 5 (by decide) (hts (.fieldLink RX3 28 "TileHouse$Tiles" "loose" "I") (by decide +kernel)) (fun _ h9 => h9) rfl dX3_isSevenPairs_43 ?_
        refine lv_bipush (v := 14) hx hb dX3_isSevenPairs_46 (by decide) ?_
        refine lv_icmp_ne (tgt := 55) hx hb dX3_isSevenPairs_48 (by decide) (fun c6 => ?_) (fun c6 => ?_)
        · skip
          refine lv_iconst (v := 0) hx hb dX3_isSevenPairs_55 (by decide) ?_
          exact J56_4 0 (Or.inl rfl) ls (lv_sub hl [0, 1] rfl)
        · skip
          refine lv_iconst (v := 1) hx hb dX3_isSevenPairs_51 (by decide) ?_
          refine lv_goto (tgt := 56) hx hb dX3_isSevenPairs_52 (by decide) ?_
          exact J56_4 1 (Or.inr (rfl)) ls (lv_sub hl [0, 1] rfl)
    · skip
      have hltj1 : j1 < 34 := Nat.lt_of_not_le (fun h9 => c2 (nI_le h9 (by omega)))
      refine lv_aload_n hx hb dX3_isSevenPairs_8 rfl (lv_at hl 1 rfl) ?_
      refine va_get (D := G) (ci := 2) (v := .ref fr) (C := RX3) (T := TX3) (N := 6) hx hb hts i_t_isSevenPairs_X3 hown hK hP 0 rfl rfl 0 (by decide) (hts (.fieldLink RX3 9 "TileHouse$Tiles" "free" "[I") (by decide +kernel)) (fun _ h9 => h9) rfl dX3_isSevenPairs_9 ?_
      refine lv_iload_n hx hb dX3_isSevenPairs_12 rfl (lv_at hl 0 rfl) ?_
      refine va_iald hx hb hK hP 1 0 rfl rfl (inN (rfl : (nI j1) = nI (j1)) (by omega) (by decide)) dX3_isSevenPairs_13 ?_
      refine lv_topi (fun v7 ev7 => ?_)
      refine lv_if_eq (tgt := 29) hx hb dX3_isSevenPairs_14 (by decide) (fun c8 => ?_) (fun c8 => ?_)
      · skip
        obtain ⟨v9, ev9⟩ : ∃ y : Int32, y = (nI j1) + 1 := ⟨_, rfl⟩
        have nv9 : v9 = nI (j1 + 1) := by rw [ev9]; exact nI_add (j1) (1)
        refine lv_iinc (v := v9) (lv' := [(1, .int v9), (0, .ref h0)]) hx hb dX3_isSevenPairs_29 hl (k := 0) rfl (by rw [ev9]; rfl) (by decide) rfl (fun ls hl => ?_)
        refine lv_goto (tgt := 2) hx hb dX3_isSevenPairs_32 (by decide) ?_
        exact ihj1 (j1 := j1 + 1) (hj1 := by omega) (hnj1 := by omega) (ls := ls) (hl := by rw [nI_succ, ← ev9]; exact lv_sub hl [0, 1] rfl)
      · skip
        refine lv_aload_n hx hb dX3_isSevenPairs_17 rfl (lv_at hl 1 rfl) ?_
        refine va_get (D := G) (ci := 2) (v := .ref fr) (C := RX3) (T := TX3) (N := 6) hx hb hts i_t_isSevenPairs_X3 hown hK hP 0 rfl rfl 0 (by decide) (hts (.fieldLink RX3 9 "TileHouse$Tiles" "free" "[I") (by decide +kernel)) (fun _ h9 => h9) rfl dX3_isSevenPairs_18 ?_
        refine lv_iload_n hx hb dX3_isSevenPairs_21 rfl (lv_at hl 0 rfl) ?_
        refine va_iald hx hb hK hP 1 0 rfl rfl (inN (rfl : (nI j1) = nI (j1)) (by omega) (by decide)) dX3_isSevenPairs_22 ?_
        refine lv_topi (fun v10 ev10 => ?_)
        refine lv_iconst (v := 2) hx hb dX3_isSevenPairs_23 (by decide) ?_
        refine lv_icmp_eq (tgt := 29) hx hb dX3_isSevenPairs_24 (by decide) (fun c11 => ?_) (fun c11 => ?_)
        · skip
          obtain ⟨v12, ev12⟩ : ∃ y : Int32, y = (nI j1) + 1 := ⟨_, rfl⟩
          have nv12 : v12 = nI (j1 + 1) := by rw [ev12]; exact nI_add (j1) (1)
          refine lv_iinc (v := v12) (lv' := [(1, .int v12), (0, .ref h0)]) hx hb dX3_isSevenPairs_29 hl (k := 0) rfl (by rw [ev12]; rfl) (by decide) rfl (fun ls hl => ?_)
          refine lv_goto (tgt := 2) hx hb dX3_isSevenPairs_32 (by decide) ?_
          exact ihj1 (j1 := j1 + 1) (hj1 := by omega) (hnj1 := by omega) (ls := ls) (hl := by rw [nI_succ, ← ev12]; exact lv_sub hl [0, 1] rfl)
        · skip
          refine lv_iconst (v := 0) hx hb dX3_isSevenPairs_27 (by decide) ?_
          exact W.zret (v := 0) hx hb hr rfl (fun t ht hW => ⟨0, rfl, trivial, ht⟩) (fun _ h => by cases h) dX3_isSevenPairs_28
def v_t_isThirteen : List Cond := .code yX3_isThirteen cX3_isThirteen 1 (some .boolean) :: ([.fieldLink RX3 24 "TileHouse$Tiles" "laidDown" "I", .fieldLink RX3 28 "TileHouse$Tiles" "loose" "I", .methodLink RX3 65 yX3_kinds, .instanceMethod yX3_kinds, .selects RX3 yX3_kinds yX3_kinds, .initialized RX3, .constantLong RX3 69 (17113154305)] ++ (wsX30 ++ (v_t_kinds ++ ([]))))
theorem vg_t_isThirteen : ∀ w ∈ v_t_isThirteen, goodWord w = true := vg_c (c := .code yX3_isThirteen cX3_isThirteen 1 (some .boolean)) (l := [.fieldLink RX3 24 "TileHouse$Tiles" "laidDown" "I", .fieldLink RX3 28 "TileHouse$Tiles" "loose" "I", .methodLink RX3 65 yX3_kinds, .instanceMethod yX3_kinds, .selects RX3 yX3_kinds yX3_kinds, .initialized RX3, .constantLong RX3 69 (17113154305)]) (by decide +kernel) (vg_a vgX3 (vg_a vg_t_kinds (vg_nil)))
theorem i_t_isThirteen_X3 : ∀ w ∈ u_ws RX3 TX3 6, w ∈ v_t_isThirteen := fun _ h => List.mem_cons_of_mem _ (List.mem_append_right _ (List.mem_append_left _ h))
theorem g_t_isThirteen_t_kinds_65 : GoodIn v_t_isThirteen (wsV RX3 65 RX3 yX3_kinds v_t_kinds) := goodIn_app (goodIn_of _ (by decide +kernel)) (fun w h => ⟨List.mem_cons_of_mem _ (List.mem_append_right _ (List.mem_append_right _ (List.mem_append_left _ h))), good_of_word (vg_t_kinds w h)⟩)
set_option maxHeartbeats 4000000 in
set_option maxRecDepth 100000 in
theorem t_isThirteen (l : Launch) (G : va_G) (k : Nat → ClassId) (h0 : Nat) (fr : Nat) (al : Nat) (so : Nat) (lw : Nat) (ld : Int32) (lo : Int32) (f1 : Nat → Int32) : Met l yX3_isThirteen v_t_isThirteen ({ frames := 1, cells := 0, slots := 0, locals := 23 }) (va_Pc [.ref h0] (pr G k [(h0, .inr (2, [.ref fr, .ref al, .ref so, .ref lw, .int ld, .int lo])), (al, .inl (k 0, 34, .inl f1))])) (vp_Si (fun _ => True)) 0 0 (fun _ => False) := by
  refine Met.ofW (cc := cX3_isThirteen) (maxL := 1) (ret := (some .boolean)) (by decide) rfl ?_
  intro p e s m args below meth c s₁ B hml hv
  obtain ⟨rfl, hP, hK, hN⟩ := hv
  have hx := B.exec
  have hb := B.bytes
  have hr := B.returns
  have hts := atoms_spec (ws := v_t_isThirteen) B.pre
  have hown : s.vm.findClass RX3 = some m.cls := findClass_of_methodNamed B.named
  have hlocks := B.notSynchronized
  have hl := lv_entry ([.ref h0]) (n := 1) (Nat.le_of_ble_eq_true rfl)
  rw [lg_entry_eq]
  generalize (lg_sl ([.ref h0]) ++ List.replicate (1 - (lg_sl ([.ref h0])).length) Slot.unset).toArray = ls at hl ⊢
  have hl : lv_has ls 1 [(0, .ref h0)] := hl
  refine lv_aload_n hx hb dX3_isThirteen_0 rfl (lv_at hl 0 rfl) ?_
  refine va_get (D := G) (ci := 2) (v := .int ld) (C := RX3) (T := TX3) (N := 6) hx hb hts i_t_isThirteen_X3 hown hK hP 0 rfl rfl 4 (by decide) (hts (.fieldLink RX3 24 "TileHouse$Tiles" "laidDown" "I") (by decide +kernel)) (fun _ h9 => h9) rfl dX3_isThirteen_1 ?_
  have J32_2 : ∀ (g1 : Int32) (hg1 : g1 = 0 ∨ g1 = 1) (ls : Array Slot), lv_has ls 1 [(0, .ref h0)] → W p l e (headSpec v_t_isThirteen ({ frames := 1, cells := 0, slots := 0, locals := 23 })).room s m [.ref h0].toArray below meth c s.heap [] 0 0 (MQ below (vp_Si (fun _ => True)) [.ref h0].toArray s 0 0 (fun _ => False)) (F0 m 32 ls [.int g1]) := by
    intro g1 hg1 ls hl
    exact W.zret (v := g1) hx hb hr (by rcases hg1 with rfl | rfl <;> rfl) (fun t ht hW => ⟨g1, rfl, trivial, ht⟩) (fun _ h => by cases h) dX3_isThirteen_32
  refine lv_if_ne (tgt := 31) hx hb dX3_isThirteen_4 (by decide) (fun c3 => ?_) (fun c3 => ?_)
  · skip
    refine lv_iconst (v := 0) hx hb dX3_isThirteen_31 (by decide) ?_
    exact J32_2 0 (Or.inl rfl) ls (lv_sub hl [0] rfl)
  · skip
    refine lv_aload_n hx hb dX3_isThirteen_7 rfl (lv_at hl 0 rfl) ?_
    refine va_get (D := G) (ci := 2) (v := .int lo) (C := RX3) (T := TX3) (N := 6) hx hb hts i_t_isThirteen_X3 hown hK hP 0 rfl rfl 5 (by decide) (hts (.fieldLink RX3 28 "TileHouse$Tiles" "loose" "I") (by decide +kernel)) (fun _ h9 => h9) rfl dX3_isThirteen_8 ?_
    refine lv_bipush (v := 14) hx hb dX3_isThirteen_11 (by decide) ?_
    refine lv_icmp_ne (tgt := 31) hx hb dX3_isThirteen_13 (by decide) (fun c4 => ?_) (fun c4 => ?_)
    · skip
      refine lv_iconst (v := 0) hx hb dX3_isThirteen_31 (by decide) ?_
      exact J32_2 0 (Or.inl rfl) ls (lv_sub hl [0] rfl)
    · skip
      refine lv_aload_n hx hb dX3_isThirteen_16 rfl (lv_at hl 0 rfl) ?_
      have hPc := hP.sub (ws' := [(h0, .inr (2, [.ref fr, .ref al, .ref so, .ref lw, .int ld, .int lo])), (al, .inl (k 0, 34, .inl f1))]) [0, 1] rfl
      refine q_calll (va_runV (As := []) (rest := []) ⟨hx, hb, hml, hown, hts⟩ (t_kinds l G k h0 fr al so lw ld lo f1) (cwV 0 hts g_t_isThirteen_t_kinds_65 rfl rfl rfl (by decide +kernel) ⟨Nat.le_of_ble_eq_true rfl, Nat.le_of_ble_eq_true rfl⟩) ⟨pr_bl, va_recv hK hPc (ci := 2) (q0 := 0) rfl rfl, pr_pre hPc hK hN⟩ rfl rfl hl.1 rfl (lv_room (Nat.le_of_ble_eq_true rfl)) dX3_isThirteen_17 ⟨Nat.le_of_ble_eq_true rfl, Nat.le_of_ble_eq_true rfl⟩) (fun r5 hr5 => ?_)
      refine lv_ldc2 (v := 17113154305) hx hb hown (hts (.constantLong RX3 69 (17113154305)) (by decide +kernel)) dX3_isThirteen_20 ?_
      refine W.lcmp hx hb dX3_isThirteen_23 ?_
      refine lv_topi (fun v6 ev6 => ?_)
      refine lv_if_ne (tgt := 31) hx hb dX3_isThirteen_24 (by decide) (fun c7 => ?_) (fun c7 => ?_)
      · skip
        refine lv_iconst (v := 0) hx hb dX3_isThirteen_31 (by decide) ?_
        exact J32_2 0 (Or.inl rfl) ls (lv_sub hl [0] rfl)
      · skip
        refine lv_iconst (v := 1) hx hb dX3_isThirteen_27 (by decide) ?_
        refine lv_goto (tgt := 32) hx hb dX3_isThirteen_28 (by decide) ?_
        exact J32_2 1 (Or.inr (rfl)) ls (lv_sub hl [0] rfl)
def v_t_splitsBeside : List Cond := .code yX3_splitsBeside cX3_splitsBeside 7 (some .boolean) :: ([.fieldLink RX3 9 "TileHouse$Tiles" "free" "[I", .initialized RX6, .static yX6_startsRun] ++ (wsX30 ++ (v_c_X6_startsRun ++ ([]))))
theorem vg_t_splitsBeside : ∀ w ∈ v_t_splitsBeside, goodWord w = true := vg_c (c := .code yX3_splitsBeside cX3_splitsBeside 7 (some .boolean)) (l := [.fieldLink RX3 9 "TileHouse$Tiles" "free" "[I", .initialized RX6, .static yX6_startsRun]) (by decide +kernel) (vg_a vgX3 (vg_a vg_c_X6_startsRun (vg_nil)))
theorem i_t_splitsBeside_X3 : ∀ w ∈ u_ws RX3 TX3 6, w ∈ v_t_splitsBeside := fun _ h => List.mem_cons_of_mem _ (List.mem_append_right _ (List.mem_append_left _ h))
theorem g_t_splitsBeside_c_X6_startsRun_74 : GoodIn v_t_splitsBeside (v_c_X6_startsRun) := fun w h => ⟨List.mem_cons_of_mem _ (List.mem_append_right _ (List.mem_append_right _ (List.mem_append_left _ h))), good_of_word (vg_c_X6_startsRun w h)⟩
set_option maxHeartbeats 4000000 in
set_option maxRecDepth 100000 in
theorem t_splitsBeside (l : Launch) (G : va_G) (k : Nat → ClassId) (h0 : Nat) (fr : Nat) (al : Nat) (so : Nat) (lw : Nat) (ld : Int32) (lo : Int32) (f : Nat → Int32) (p0 : Int32) : Met l yX3_splitsBeside v_t_splitsBeside ({ frames := 1, cells := 0, slots := 0, locals := 20 }) (va_Pc [.ref h0, .int p0] (pr G k [(h0, .inr (2, [.ref fr, .ref al, .ref so, .ref lw, .int ld, .int lo])), (fr, .inl (k 0, 34, .inl f))])) (vp_Si (fun _ => True)) 0 0 (fun _ => False) := by
  refine Met.ofW (cc := cX3_splitsBeside) (maxL := 7) (ret := (some .boolean)) (by decide) rfl ?_
  intro p e s m args below meth c s₁ B hml hv
  obtain ⟨rfl, hP, hK, hN⟩ := hv
  have hx := B.exec
  have hb := B.bytes
  have hr := B.returns
  have hts := atoms_spec (ws := v_t_splitsBeside) B.pre
  have hown : s.vm.findClass RX3 = some m.cls := findClass_of_methodNamed B.named
  have hlocks := B.notSynchronized
  have hl := lv_entry ([.ref h0, .int p0]) (n := 7) (Nat.le_of_ble_eq_true rfl)
  rw [lg_entry_eq]
  generalize (lg_sl ([.ref h0, .int p0]) ++ List.replicate (7 - (lg_sl ([.ref h0, .int p0])).length) Slot.unset).toArray = ls at hl ⊢
  have hl : lv_has ls 7 [(0, .ref h0), (1, .int p0)] := hl
  refine lv_iconst (v := 0) hx hb dX3_splitsBeside_0 (by decide) ?_
  refine lv_istore_n (lv' := [(2, .int 0), (0, .ref h0), (1, .int p0)]) hx hb dX3_splitsBeside_1 rfl hl (by decide) rfl (fun ls hl => ?_)
  refine lv_iconst (v := 0) hx hb dX3_splitsBeside_2 (by decide) ?_
  refine lv_istore_n (lv' := [(3, .int 0), (2, .int 0), (0, .ref h0), (1, .int p0)]) hx hb dX3_splitsBeside_3 rfl hl (by decide) rfl (fun ls hl => ?_)
  refine lv_iconst (v := 0) hx hb dX3_splitsBeside_4 (by decide) ?_
  refine lv_istore (lv' := [(4, .int 0), (3, .int 0), (2, .int 0), (0, .ref h0), (1, .int p0)]) hx hb dX3_splitsBeside_5 hl (by decide) rfl (fun ls hl => ?_)
  obtain ⟨j1, kj1, ej1, hj1⟩ : ∃ j : Nat, j = 0 ∧ nI j = (0 : Int32) ∧ j ≤ 34 := ⟨0, rfl, rfl, by decide⟩
  replace hl : lv_has ls 7 [(4, .int (nI j1)), (3, .int 0), (2, .int 0), (0, .ref h0), (1, .int p0)] := by rw [ej1]; exact hl
  obtain ⟨w2, ew2⟩ : ∃ x : Int32, x = 0 := ⟨_, rfl⟩
  replace hl : lv_has ls 7 [(4, .int (nI j1)), (3, .int 0), (2, .int w2), (0, .ref h0), (1, .int p0)] := by rw [ew2]; exact hl
  clear ew2
  obtain ⟨w3, ew3⟩ : ∃ x : Int32, x = 0 := ⟨_, rfl⟩
  replace hl : lv_has ls 7 [(4, .int (nI j1)), (3, .int w3), (2, .int w2), (0, .ref h0), (1, .int p0)] := by rw [ew3]; exact hl
  clear ew3
  clear kj1 ej1
  obtain ⟨nj1, hnj1⟩ : ∃ n : Nat, 34 < j1 + n := ⟨35, by omega⟩
  induction nj1 generalizing j1 ls w2 w3 with
  | zero => exact absurd hnj1 (by omega)
  | succ nj1 ihj1 =>
    refine lv_iload hx hb dX3_splitsBeside_7 (lv_at hl 0 rfl) ?_
    refine lv_bipush (v := 34) hx hb dX3_splitsBeside_9 (by decide) ?_
    refine lv_icmp_ge (tgt := 78) hx hb dX3_splitsBeside_11 (by decide) (fun c4 => ?_) (fun c4 => ?_)
    · skip
      have hge : 34 ≤ j1 := (nI_leI (a := 34) (b := j1) (by omega) (by omega)).mp c4
      refine lv_iconst (v := 1) hx hb dX3_splitsBeside_78 (by decide) ?_
      exact W.zret (v := 1) hx hb hr rfl (fun t ht hW => ⟨1, rfl, trivial, ht⟩) (fun _ h => by cases h) dX3_splitsBeside_79
    · skip
      have hltj1 : j1 < 34 := Nat.lt_of_not_le (fun h9 => c4 (nI_le h9 (by omega)))
      refine lv_aload_n hx hb dX3_splitsBeside_14 rfl (lv_at hl 3 rfl) ?_
      refine va_get (D := G) (ci := 2) (v := .ref fr) (C := RX3) (T := TX3) (N := 6) hx hb hts i_t_splitsBeside_X3 hown hK hP 0 rfl rfl 0 (by decide) (hts (.fieldLink RX3 9 "TileHouse$Tiles" "free" "[I") (by decide +kernel)) (fun _ h9 => h9) rfl dX3_splitsBeside_15 ?_
      refine lv_iload hx hb dX3_splitsBeside_18 (lv_at hl 0 rfl) ?_
      refine va_iald hx hb hK hP 1 0 rfl rfl (inN (rfl : (nI j1) = nI (j1)) (by omega) (by decide)) dX3_splitsBeside_20 ?_
      refine lv_topi (fun v5 ev5 => ?_)
      refine lv_iload hx hb dX3_splitsBeside_21 (lv_at hl 0 rfl) ?_
      refine lv_iload_n hx hb dX3_splitsBeside_23 rfl (lv_at hl 4 rfl) ?_
      have J32_7 : ∀ (g6 : Int32) (hg6 : g6 = 0 ∨ g6 = 2) (ls : Array Slot), lv_has ls 7 [(4, .int (nI j1)), (3, .int w3), (2, .int w2), (0, .ref h0), (1, .int p0)] → W p l e (headSpec v_t_splitsBeside ({ frames := 1, cells := 0, slots := 0, locals := 20 })).room s m [.ref h0, .int p0].toArray below meth c s.heap [] 0 0 (MQ below (vp_Si (fun _ => True)) [.ref h0, .int p0].toArray s 0 0 (fun _ => False)) (F0 m 32 ls [.int g6, .int v5]) := by
        intro g6 hg6 ls hl
        refine lv_isub hx hb dX3_splitsBeside_32 ?_
        refine lv_topi (fun v8 ev8 => ?_)
        refine lv_iload_n hx hb dX3_splitsBeside_33 rfl (lv_at hl 2 rfl) ?_
        refine lv_isub hx hb dX3_splitsBeside_34 ?_
        refine lv_topi (fun v9 ev9 => ?_)
        refine lv_iload_n hx hb dX3_splitsBeside_35 rfl (lv_at hl 1 rfl) ?_
        refine lv_isub hx hb dX3_splitsBeside_36 ?_
        refine lv_topi (fun v10 ev10 => ?_)
        refine lv_istore (lv' := [(5, .int v10), (4, .int (nI j1)), (3, .int w3), (2, .int w2), (0, .ref h0), (1, .int p0)]) hx hb dX3_splitsBeside_37 hl (by decide) rfl (fun ls hl => ?_)
        refine lv_iload hx hb dX3_splitsBeside_39 (lv_at hl 0 rfl) ?_
        refine lv_if_ge (tgt := 46) hx hb dX3_splitsBeside_41 (by decide) (fun c11 => ?_) (fun c11 => ?_)
        · skip
          refine lv_iload hx hb dX3_splitsBeside_46 (lv_at hl 0 rfl) ?_
          refine lv_iconst (v := 3) hx hb dX3_splitsBeside_48 (by decide) ?_
          refine lv_irem hx hb dX3_splitsBeside_49 (by decide) ?_
          refine lv_topi (fun v12 ev12 => ?_)
          refine lv_istore (lv' := [(6, .int v12), (5, .int v10), (4, .int (nI j1)), (3, .int w3), (2, .int w2), (0, .ref h0), (1, .int p0)]) hx hb dX3_splitsBeside_50 hl (by decide) rfl (fun ls hl => ?_)
          refine lv_iload hx hb dX3_splitsBeside_52 (lv_at hl 0 rfl) ?_
          refine lv_if_le (tgt := 67) hx hb dX3_splitsBeside_54 (by decide) (fun c13 => ?_) (fun c13 => ?_)
          · skip
            refine lv_iload_n hx hb dX3_splitsBeside_67 rfl (lv_at hl 4 rfl) ?_
            refine lv_istore_n (lv' := [(3, .int w2), (6, .int v12), (5, .int v10), (4, .int (nI j1)), (2, .int w2), (0, .ref h0), (1, .int p0)]) hx hb dX3_splitsBeside_68 rfl hl (by decide) rfl (fun ls hl => ?_)
            refine lv_iload hx hb dX3_splitsBeside_69 (lv_at hl 1 rfl) ?_
            refine lv_istore_n (lv' := [(2, .int v12), (3, .int w2), (6, .int v12), (5, .int v10), (4, .int (nI j1)), (0, .ref h0), (1, .int p0)]) hx hb dX3_splitsBeside_71 rfl hl (by decide) rfl (fun ls hl => ?_)
            obtain ⟨v14, ev14⟩ : ∃ y : Int32, y = (nI j1) + 1 := ⟨_, rfl⟩
            have nv14 : v14 = nI (j1 + 1) := by rw [ev14]; exact nI_add (j1) (1)
            refine lv_iinc (v := v14) (lv' := [(4, .int v14), (2, .int v12), (3, .int w2), (6, .int v12), (5, .int v10), (0, .ref h0), (1, .int p0)]) hx hb dX3_splitsBeside_72 hl (k := 4) rfl (by rw [ev14]; rfl) (by decide) rfl (fun ls hl => ?_)
            refine lv_goto (tgt := 7) hx hb dX3_splitsBeside_75 (by decide) ?_
            exact ihj1 (j1 := j1 + 1) (hj1 := by omega) (hnj1 := by omega) (ls := ls) (hl := by rw [nI_succ, ← ev14]; exact lv_sub hl [0, 2, 1, 5, 6] rfl) (w2 := v12) (w3 := w2)
          · skip
            refine lv_iload hx hb dX3_splitsBeside_57 (lv_at hl 2 rfl) ?_
            have hPc := hP.sub (ws' := []) [] rfl
            refine q_calli (va_runSN (As := [.int (nI j1)]) (rest := []) ⟨hx, hb, hml, hown, hts⟩ (c_X6_startsRun l G k (nI j1)) ⟨va_cnB 1 hts g_t_splitsBeside_c_X6_startsRun_74 rfl rfl rfl (nw_X3_74 hN) (hts (.initialized RX6) (by decide +kernel)) (by decide +kernel) ⟨Nat.le_of_ble_eq_true rfl, Nat.le_of_ble_eq_true rfl⟩, (hts (.static yX6_startsRun) (by decide +kernel)), trivial⟩ ⟨pr_bl, pr_pre hPc hK hN⟩ rfl rfl hl.1 rfl (lv_room (Nat.le_of_ble_eq_true rfl)) dX3_splitsBeside_59 ⟨Nat.le_of_ble_eq_true rfl, Nat.le_of_ble_eq_true rfl⟩) (fun r15 hr15 => ?_)
            refine lv_if_ne (tgt := 67) hx hb dX3_splitsBeside_62 (by decide) (fun c16 => ?_) (fun c16 => ?_)
            · skip
              refine lv_iload_n hx hb dX3_splitsBeside_67 rfl (lv_at hl 4 rfl) ?_
              refine lv_istore_n (lv' := [(3, .int w2), (6, .int v12), (5, .int v10), (4, .int (nI j1)), (2, .int w2), (0, .ref h0), (1, .int p0)]) hx hb dX3_splitsBeside_68 rfl hl (by decide) rfl (fun ls hl => ?_)
              refine lv_iload hx hb dX3_splitsBeside_69 (lv_at hl 1 rfl) ?_
              refine lv_istore_n (lv' := [(2, .int v12), (3, .int w2), (6, .int v12), (5, .int v10), (4, .int (nI j1)), (0, .ref h0), (1, .int p0)]) hx hb dX3_splitsBeside_71 rfl hl (by decide) rfl (fun ls hl => ?_)
              obtain ⟨v17, ev17⟩ : ∃ y : Int32, y = (nI j1) + 1 := ⟨_, rfl⟩
              have nv17 : v17 = nI (j1 + 1) := by rw [ev17]; exact nI_add (j1) (1)
              refine lv_iinc (v := v17) (lv' := [(4, .int v17), (2, .int v12), (3, .int w2), (6, .int v12), (5, .int v10), (0, .ref h0), (1, .int p0)]) hx hb dX3_splitsBeside_72 hl (k := 4) rfl (by rw [ev17]; rfl) (by decide) rfl (fun ls hl => ?_)
              refine lv_goto (tgt := 7) hx hb dX3_splitsBeside_75 (by decide) ?_
              exact ihj1 (j1 := j1 + 1) (hj1 := by omega) (hnj1 := by omega) (ls := ls) (hl := by rw [nI_succ, ← ev17]; exact lv_sub hl [0, 2, 1, 5, 6] rfl) (w2 := v12) (w3 := w2)
            · skip
              refine lv_iconst (v := 0) hx hb dX3_splitsBeside_65 (by decide) ?_
              exact W.zret (v := 0) hx hb hr rfl (fun t ht hW => ⟨0, rfl, trivial, ht⟩) (fun _ h => by cases h) dX3_splitsBeside_66
        · skip
          refine lv_iconst (v := 0) hx hb dX3_splitsBeside_44 (by decide) ?_
          exact W.zret (v := 0) hx hb hr rfl (fun t ht hW => ⟨0, rfl, trivial, ht⟩) (fun _ h => by cases h) dX3_splitsBeside_45
      refine lv_icmp_ne (tgt := 31) hx hb dX3_splitsBeside_24 (by decide) (fun c18 => ?_) (fun c18 => ?_)
      · skip
        refine lv_iconst (v := 0) hx hb dX3_splitsBeside_31 (by decide) ?_
        exact J32_7 0 (Or.inl rfl) ls (lv_sub hl [0, 1, 2, 3, 4] rfl)
      · skip
        refine lv_iconst (v := 2) hx hb dX3_splitsBeside_27 (by decide) ?_
        refine lv_goto (tgt := 32) hx hb dX3_splitsBeside_28 (by decide) ?_
        exact J32_7 2 (Or.inr (rfl)) ls (lv_sub hl [0, 1, 2, 3, 4] rfl)
def v_t_isSetsAndPair : List Cond := .code yX3_isSetsAndPair cX3_isSetsAndPair 2 (some .boolean) :: ([.fieldLink RX3 9 "TileHouse$Tiles" "free" "[I", .methodLink RX3 71 yX3_splitsBeside, .instanceMethod yX3_splitsBeside, .selects RX3 yX3_splitsBeside yX3_splitsBeside, .initialized RX3] ++ (wsX30 ++ (v_t_splitsBeside ++ ([]))))
theorem vg_t_isSetsAndPair : ∀ w ∈ v_t_isSetsAndPair, goodWord w = true := vg_c (c := .code yX3_isSetsAndPair cX3_isSetsAndPair 2 (some .boolean)) (l := [.fieldLink RX3 9 "TileHouse$Tiles" "free" "[I", .methodLink RX3 71 yX3_splitsBeside, .instanceMethod yX3_splitsBeside, .selects RX3 yX3_splitsBeside yX3_splitsBeside, .initialized RX3]) (by decide +kernel) (vg_a vgX3 (vg_a vg_t_splitsBeside (vg_nil)))
theorem i_t_isSetsAndPair_X3 : ∀ w ∈ u_ws RX3 TX3 6, w ∈ v_t_isSetsAndPair := fun _ h => List.mem_cons_of_mem _ (List.mem_append_right _ (List.mem_append_left _ h))
theorem g_t_isSetsAndPair_t_splitsBeside_71 : GoodIn v_t_isSetsAndPair (wsV RX3 71 RX3 yX3_splitsBeside v_t_splitsBeside) := goodIn_app (goodIn_of _ (by decide +kernel)) (fun w h => ⟨List.mem_cons_of_mem _ (List.mem_append_right _ (List.mem_append_right _ (List.mem_append_left _ h))), good_of_word (vg_t_splitsBeside w h)⟩)
set_option maxHeartbeats 4000000 in
set_option maxRecDepth 100000 in
theorem t_isSetsAndPair (l : Launch) (G : va_G) (k : Nat → ClassId) (h0 : Nat) (fr : Nat) (al : Nat) (so : Nat) (lw : Nat) (ld : Int32) (lo : Int32) (f : Nat → Int32) : Met l yX3_isSetsAndPair v_t_isSetsAndPair ({ frames := 2, cells := 0, slots := 0, locals := 46 }) (va_Pc [.ref h0] (pr G k [(h0, .inr (2, [.ref fr, .ref al, .ref so, .ref lw, .int ld, .int lo])), (fr, .inl (k 0, 34, .inl f))])) (vp_Si (fun _ => True)) 0 0 (fun _ => False) := by
  refine Met.ofW (cc := cX3_isSetsAndPair) (maxL := 2) (ret := (some .boolean)) (by decide) rfl ?_
  intro p e s m args below meth c s₁ B hml hv
  obtain ⟨rfl, hP, hK, hN⟩ := hv
  have hx := B.exec
  have hb := B.bytes
  have hr := B.returns
  have hts := atoms_spec (ws := v_t_isSetsAndPair) B.pre
  have hown : s.vm.findClass RX3 = some m.cls := findClass_of_methodNamed B.named
  have hlocks := B.notSynchronized
  have hl := lv_entry ([.ref h0]) (n := 2) (Nat.le_of_ble_eq_true rfl)
  rw [lg_entry_eq]
  generalize (lg_sl ([.ref h0]) ++ List.replicate (2 - (lg_sl ([.ref h0])).length) Slot.unset).toArray = ls at hl ⊢
  have hl : lv_has ls 2 [(0, .ref h0)] := hl
  refine lv_iconst (v := 0) hx hb dX3_isSetsAndPair_0 (by decide) ?_
  refine lv_istore_n (lv' := [(1, .int 0), (0, .ref h0)]) hx hb dX3_isSetsAndPair_1 rfl hl (by decide) rfl (fun ls hl => ?_)
  obtain ⟨j1, kj1, ej1, hj1⟩ : ∃ j : Nat, j = 0 ∧ nI j = (0 : Int32) ∧ j ≤ 34 := ⟨0, rfl, rfl, by decide⟩
  replace hl : lv_has ls 2 [(1, .int (nI j1)), (0, .ref h0)] := by rw [ej1]; exact hl
  clear kj1 ej1
  obtain ⟨nj1, hnj1⟩ : ∃ n : Nat, 34 < j1 + n := ⟨35, by omega⟩
  induction nj1 generalizing j1 ls  with
  | zero => exact absurd hnj1 (by omega)
  | succ nj1 ihj1 =>
    refine lv_iload_n hx hb dX3_isSetsAndPair_2 rfl (lv_at hl 0 rfl) ?_
    refine lv_bipush (v := 34) hx hb dX3_isSetsAndPair_3 (by decide) ?_
    refine lv_icmp_ge (tgt := 34) hx hb dX3_isSetsAndPair_5 (by decide) (fun c2 => ?_) (fun c2 => ?_)
    · skip
      have hge : 34 ≤ j1 := (nI_leI (a := 34) (b := j1) (by omega) (by omega)).mp c2
      refine lv_iconst (v := 0) hx hb dX3_isSetsAndPair_34 (by decide) ?_
      exact W.zret (v := 0) hx hb hr rfl (fun t ht hW => ⟨0, rfl, trivial, ht⟩) (fun _ h => by cases h) dX3_isSetsAndPair_35
    · skip
      have hltj1 : j1 < 34 := Nat.lt_of_not_le (fun h9 => c2 (nI_le h9 (by omega)))
      refine lv_aload_n hx hb dX3_isSetsAndPair_8 rfl (lv_at hl 1 rfl) ?_
      refine va_get (D := G) (ci := 2) (v := .ref fr) (C := RX3) (T := TX3) (N := 6) hx hb hts i_t_isSetsAndPair_X3 hown hK hP 0 rfl rfl 0 (by decide) (hts (.fieldLink RX3 9 "TileHouse$Tiles" "free" "[I") (by decide +kernel)) (fun _ h9 => h9) rfl dX3_isSetsAndPair_9 ?_
      refine lv_iload_n hx hb dX3_isSetsAndPair_12 rfl (lv_at hl 0 rfl) ?_
      refine va_iald hx hb hK hP 1 0 rfl rfl (inN (rfl : (nI j1) = nI (j1)) (by omega) (by decide)) dX3_isSetsAndPair_13 ?_
      refine lv_topi (fun v3 ev3 => ?_)
      refine lv_iconst (v := 2) hx hb dX3_isSetsAndPair_14 (by decide) ?_
      refine lv_icmp_lt (tgt := 28) hx hb dX3_isSetsAndPair_15 (by decide) (fun c4 => ?_) (fun c4 => ?_)
      · skip
        obtain ⟨v5, ev5⟩ : ∃ y : Int32, y = (nI j1) + 1 := ⟨_, rfl⟩
        have nv5 : v5 = nI (j1 + 1) := by rw [ev5]; exact nI_add (j1) (1)
        refine lv_iinc (v := v5) (lv' := [(1, .int v5), (0, .ref h0)]) hx hb dX3_isSetsAndPair_28 hl (k := 0) rfl (by rw [ev5]; rfl) (by decide) rfl (fun ls hl => ?_)
        refine lv_goto (tgt := 2) hx hb dX3_isSetsAndPair_31 (by decide) ?_
        exact ihj1 (j1 := j1 + 1) (hj1 := by omega) (hnj1 := by omega) (ls := ls) (hl := by rw [nI_succ, ← ev5]; exact lv_sub hl [0, 1] rfl)
      · skip
        refine lv_aload_n hx hb dX3_isSetsAndPair_18 rfl (lv_at hl 1 rfl) ?_
        refine lv_iload_n hx hb dX3_isSetsAndPair_19 rfl (lv_at hl 0 rfl) ?_
        have hPc := hP.sub (ws' := [(h0, .inr (2, [.ref fr, .ref al, .ref so, .ref lw, .int ld, .int lo])), (fr, .inl (k 0, 34, .inl f))]) [0, 1] rfl
        refine q_calli (va_runV (As := [.int (nI j1)]) (rest := []) ⟨hx, hb, hml, hown, hts⟩ (t_splitsBeside l G k h0 fr al so lw ld lo f (nI j1)) (cwV 1 hts g_t_isSetsAndPair_t_splitsBeside_71 rfl rfl rfl (by decide +kernel) ⟨Nat.le_of_ble_eq_true rfl, Nat.le_of_ble_eq_true rfl⟩) ⟨pr_bl, va_recv hK hPc (ci := 2) (q0 := 0) rfl rfl, pr_pre hPc hK hN⟩ rfl rfl hl.1 rfl (lv_room (Nat.le_of_ble_eq_true rfl)) dX3_isSetsAndPair_20 ⟨Nat.le_of_ble_eq_true rfl, Nat.le_of_ble_eq_true rfl⟩) (fun r6 hr6 => ?_)
        refine lv_if_eq (tgt := 28) hx hb dX3_isSetsAndPair_23 (by decide) (fun c7 => ?_) (fun c7 => ?_)
        · skip
          obtain ⟨v8, ev8⟩ : ∃ y : Int32, y = (nI j1) + 1 := ⟨_, rfl⟩
          have nv8 : v8 = nI (j1 + 1) := by rw [ev8]; exact nI_add (j1) (1)
          refine lv_iinc (v := v8) (lv' := [(1, .int v8), (0, .ref h0)]) hx hb dX3_isSetsAndPair_28 hl (k := 0) rfl (by rw [ev8]; rfl) (by decide) rfl (fun ls hl => ?_)
          refine lv_goto (tgt := 2) hx hb dX3_isSetsAndPair_31 (by decide) ?_
          exact ihj1 (j1 := j1 + 1) (hj1 := by omega) (hnj1 := by omega) (ls := ls) (hl := by rw [nI_succ, ← ev8]; exact lv_sub hl [0, 1] rfl)
        · skip
          refine lv_iconst (v := 1) hx hb dX3_isSetsAndPair_26 (by decide) ?_
          exact W.zret (v := 1) hx hb hr rfl (fun t ht hW => ⟨1, rfl, trivial, ht⟩) (fun _ h => by cases h) dX3_isSetsAndPair_27

theorem dX3_put_0 : decode cX3_put 0 = .ok (.iload_n 1, 1) := by decide +kernel
theorem dX3_put_1 : decode cX3_put 1 = .ok (.invokestatic 31, 3) := by decide +kernel
theorem dX3_put_4 : decode cX3_put 4 = .ok (.ifCond .eq 33, 3) := by decide +kernel
theorem dX3_put_7 : decode cX3_put 7 = .ok (.aload_n 0, 1) := by decide +kernel
theorem dX3_put_8 : decode cX3_put 8 = .ok (.getfield 9, 3) := by decide +kernel
theorem dX3_put_11 : decode cX3_put 11 = .ok (.iload_n 1, 1) := by decide +kernel
theorem dX3_put_12 : decode cX3_put 12 = .ok (.dup2, 1) := by decide +kernel
theorem dX3_put_13 : decode cX3_put 13 = .ok (.iaload, 1) := by decide +kernel
theorem dX3_put_14 : decode cX3_put 14 = .ok (.iload_n 2, 1) := by decide +kernel
theorem dX3_put_15 : decode cX3_put 15 = .ok (.iadd, 1) := by decide +kernel
theorem dX3_put_16 : decode cX3_put 16 = .ok (.iastore, 1) := by decide +kernel
theorem dX3_put_17 : decode cX3_put 17 = .ok (.aload_n 0, 1) := by decide +kernel
theorem dX3_put_18 : decode cX3_put 18 = .ok (.getfield 15, 3) := by decide +kernel
theorem dX3_put_21 : decode cX3_put 21 = .ok (.iload_n 1, 1) := by decide +kernel
theorem dX3_put_22 : decode cX3_put 22 = .ok (.dup2, 1) := by decide +kernel
theorem dX3_put_23 : decode cX3_put 23 = .ok (.iaload, 1) := by decide +kernel
theorem dX3_put_24 : decode cX3_put 24 = .ok (.iload_n 2, 1) := by decide +kernel
theorem dX3_put_25 : decode cX3_put 25 = .ok (.iadd, 1) := by decide +kernel
theorem dX3_put_26 : decode cX3_put 26 = .ok (.iastore, 1) := by decide +kernel
theorem dX3_put_27 : decode cX3_put 27 = .ok (.aload_n 0, 1) := by decide +kernel
theorem dX3_put_28 : decode cX3_put 28 = .ok (.dup, 1) := by decide +kernel
theorem dX3_put_29 : decode cX3_put 29 = .ok (.getfield 28, 3) := by decide +kernel
theorem dX3_put_32 : decode cX3_put 32 = .ok (.iload_n 2, 1) := by decide +kernel
theorem dX3_put_33 : decode cX3_put 33 = .ok (.iadd, 1) := by decide +kernel
theorem dX3_put_34 : decode cX3_put 34 = .ok (.putfield 28, 3) := by decide +kernel
theorem dX3_put_37 : decode cX3_put 37 = .ok (.return_, 1) := by decide +kernel
theorem dX3_empty_0 : decode cX3_empty 0 = .ok (.iconst 0, 1) := by decide +kernel
theorem dX3_empty_1 : decode cX3_empty 1 = .ok (.istore_n 1, 1) := by decide +kernel
theorem dX3_empty_2 : decode cX3_empty 2 = .ok (.iload_n 1, 1) := by decide +kernel
theorem dX3_empty_3 : decode cX3_empty 3 = .ok (.bipush 34, 2) := by decide +kernel
theorem dX3_empty_5 : decode cX3_empty 5 = .ok (.if_icmp .ge 23, 3) := by decide +kernel
theorem dX3_empty_28 : decode cX3_empty 28 = .ok (.aload_n 0, 1) := by decide +kernel
theorem dX3_empty_29 : decode cX3_empty 29 = .ok (.iconst 0, 1) := by decide +kernel
theorem dX3_empty_30 : decode cX3_empty 30 = .ok (.putfield 24, 3) := by decide +kernel
theorem dX3_empty_33 : decode cX3_empty 33 = .ok (.aload_n 0, 1) := by decide +kernel
theorem dX3_empty_34 : decode cX3_empty 34 = .ok (.iconst 0, 1) := by decide +kernel
theorem dX3_empty_35 : decode cX3_empty 35 = .ok (.putfield 28, 3) := by decide +kernel
theorem dX3_empty_38 : decode cX3_empty 38 = .ok (.return_, 1) := by decide +kernel
theorem dX3_empty_8 : decode cX3_empty 8 = .ok (.aload_n 0, 1) := by decide +kernel
theorem dX3_empty_9 : decode cX3_empty 9 = .ok (.getfield 9, 3) := by decide +kernel
theorem dX3_empty_12 : decode cX3_empty 12 = .ok (.iload_n 1, 1) := by decide +kernel
theorem dX3_empty_13 : decode cX3_empty 13 = .ok (.iconst 0, 1) := by decide +kernel
theorem dX3_empty_14 : decode cX3_empty 14 = .ok (.iastore, 1) := by decide +kernel
theorem dX3_empty_15 : decode cX3_empty 15 = .ok (.aload_n 0, 1) := by decide +kernel
theorem dX3_empty_16 : decode cX3_empty 16 = .ok (.getfield 15, 3) := by decide +kernel
theorem dX3_empty_19 : decode cX3_empty 19 = .ok (.iload_n 1, 1) := by decide +kernel
theorem dX3_empty_20 : decode cX3_empty 20 = .ok (.iconst 0, 1) := by decide +kernel
theorem dX3_empty_21 : decode cX3_empty 21 = .ok (.iastore, 1) := by decide +kernel
theorem dX3_empty_22 : decode cX3_empty 22 = .ok (.iinc 1 1, 3) := by decide +kernel
theorem dX3_empty_25 : decode cX3_empty 25 = .ok (.goto (-23), 3) := by decide +kernel
theorem dX6_clear_0 : decode cX6_clear 0 = .ok (.aload_n 0, 1) := by decide +kernel
theorem dX6_clear_1 : decode cX6_clear 1 = .ok (.getfield 38, 3) := by decide +kernel
theorem dX6_clear_4 : decode cX6_clear 4 = .ok (.invokevirtual 289, 3) := by decide +kernel
theorem dX6_clear_7 : decode cX6_clear 7 = .ok (.return_, 1) := by decide +kernel
theorem dX6_lay_0 : decode cX6_lay 0 = .ok (.iload_n 1, 1) := by decide +kernel
theorem dX6_lay_1 : decode cX6_lay 1 = .ok (.invokestatic 292, 3) := by decide +kernel
theorem dX6_lay_4 : decode cX6_lay 4 = .ok (.ifCond .eq 13, 3) := by decide +kernel
theorem dX6_lay_7 : decode cX6_lay 7 = .ok (.iload_n 2, 1) := by decide +kernel
theorem dX6_lay_8 : decode cX6_lay 8 = .ok (.iconst 1, 1) := by decide +kernel
theorem dX6_lay_9 : decode cX6_lay 9 = .ok (.if_icmp .lt 8, 3) := by decide +kernel
theorem dX6_lay_17 : decode cX6_lay 17 = .ok (.iconst 0, 1) := by decide +kernel
theorem dX6_lay_18 : decode cX6_lay 18 = .ok (.ireturn, 1) := by decide +kernel
theorem dX6_lay_12 : decode cX6_lay 12 = .ok (.iload_n 2, 1) := by decide +kernel
theorem dX6_lay_13 : decode cX6_lay 13 = .ok (.iconst 4, 1) := by decide +kernel
theorem dX6_lay_14 : decode cX6_lay 14 = .ok (.if_icmp .le 5, 3) := by decide +kernel
theorem dX6_lay_19 : decode cX6_lay 19 = .ok (.aload_n 0, 1) := by decide +kernel
theorem dX6_lay_20 : decode cX6_lay 20 = .ok (.getfield 38, 3) := by decide +kernel
theorem dX6_lay_23 : decode cX6_lay 23 = .ok (.iload_n 1, 1) := by decide +kernel
theorem dX6_lay_24 : decode cX6_lay 24 = .ok (.invokevirtual 295, 3) := by decide +kernel
theorem dX6_lay_27 : decode cX6_lay 27 = .ok (.iload_n 2, 1) := by decide +kernel
theorem dX6_lay_28 : decode cX6_lay 28 = .ok (.iadd, 1) := by decide +kernel
theorem dX6_lay_29 : decode cX6_lay 29 = .ok (.iconst 4, 1) := by decide +kernel
theorem dX6_lay_30 : decode cX6_lay 30 = .ok (.if_icmp .gt 17, 3) := by decide +kernel
theorem dX6_lay_33 : decode cX6_lay 33 = .ok (.aload_n 0, 1) := by decide +kernel
theorem dX6_lay_34 : decode cX6_lay 34 = .ok (.getfield 38, 3) := by decide +kernel
theorem dX6_lay_37 : decode cX6_lay 37 = .ok (.invokevirtual 298, 3) := by decide +kernel
theorem dX6_lay_40 : decode cX6_lay 40 = .ok (.iload_n 2, 1) := by decide +kernel
theorem dX6_lay_41 : decode cX6_lay 41 = .ok (.iadd, 1) := by decide +kernel
theorem dX6_lay_42 : decode cX6_lay 42 = .ok (.bipush 14, 2) := by decide +kernel
theorem dX6_lay_44 : decode cX6_lay 44 = .ok (.if_icmp .le 5, 3) := by decide +kernel
theorem dX6_lay_49 : decode cX6_lay 49 = .ok (.aload_n 0, 1) := by decide +kernel
theorem dX6_lay_50 : decode cX6_lay 50 = .ok (.getfield 38, 3) := by decide +kernel
theorem dX6_lay_53 : decode cX6_lay 53 = .ok (.iload_n 1, 1) := by decide +kernel
theorem dX6_lay_54 : decode cX6_lay 54 = .ok (.iload_n 2, 1) := by decide +kernel
theorem dX6_lay_55 : decode cX6_lay 55 = .ok (.invokevirtual 79, 3) := by decide +kernel
theorem dX6_lay_58 : decode cX6_lay 58 = .ok (.iconst 1, 1) := by decide +kernel
theorem dX6_lay_59 : decode cX6_lay 59 = .ok (.ireturn, 1) := by decide +kernel
theorem dX1_judge_0 : decode cX1_judge 0 = .ok (.aload_n 0, 1) := by decide +kernel
theorem dX1_judge_1 : decode cX1_judge 1 = .ok (.iconst 0, 1) := by decide +kernel
theorem dX1_judge_2 : decode cX1_judge 2 = .ok (.putfield 21, 3) := by decide +kernel
theorem dX1_judge_5 : decode cX1_judge 5 = .ok (.aload_n 0, 1) := by decide +kernel
theorem dX1_judge_6 : decode cX1_judge 6 = .ok (.iconst 0, 1) := by decide +kernel
theorem dX1_judge_7 : decode cX1_judge 7 = .ok (.putfield 25, 3) := by decide +kernel
theorem dX1_judge_10 : decode cX1_judge 10 = .ok (.aload_n 0, 1) := by decide +kernel
theorem dX1_judge_11 : decode cX1_judge 11 = .ok (.iconst 0, 1) := by decide +kernel
theorem dX1_judge_12 : decode cX1_judge 12 = .ok (.putfield 28, 3) := by decide +kernel
theorem dX1_judge_15 : decode cX1_judge 15 = .ok (.aload_n 0, 1) := by decide +kernel
theorem dX1_judge_16 : decode cX1_judge 16 = .ok (.lconst 0, 1) := by decide +kernel
theorem dX1_judge_17 : decode cX1_judge 17 = .ok (.putfield 31, 3) := by decide +kernel
theorem dX1_judge_20 : decode cX1_judge 20 = .ok (.aload_n 0, 1) := by decide +kernel
theorem dX1_judge_21 : decode cX1_judge 21 = .ok (.iconst 0, 1) := by decide +kernel
theorem dX1_judge_22 : decode cX1_judge 22 = .ok (.putfield 35, 3) := by decide +kernel
theorem dX1_judge_25 : decode cX1_judge 25 = .ok (.aload_n 1, 1) := by decide +kernel
theorem dX1_judge_26 : decode cX1_judge 26 = .ok (.ifnull 20, 3) := by decide +kernel
theorem dX1_judge_29 : decode cX1_judge 29 = .ok (.aload_n 1, 1) := by decide +kernel
theorem dX1_judge_30 : decode cX1_judge 30 = .ok (.invokevirtual 38, 3) := by decide +kernel
theorem dX1_judge_33 : decode cX1_judge 33 = .ok (.bipush 14, 2) := by decide +kernel
theorem dX1_judge_35 : decode cX1_judge 35 = .ok (.if_icmp .ne 11, 3) := by decide +kernel
theorem dX1_judge_46 : decode cX1_judge 46 = .ok (.return_, 1) := by decide +kernel
theorem dX6_worth_0 : decode cX6_worth 0 = .ok (.aload_n 0, 1) := by decide +kernel
theorem dX6_worth_1 : decode cX6_worth 1 = .ok (.getfield 42, 3) := by decide +kernel
theorem dX6_worth_4 : decode cX6_worth 4 = .ok (.aload_n 0, 1) := by decide +kernel
theorem dX6_worth_5 : decode cX6_worth 5 = .ok (.getfield 38, 3) := by decide +kernel
theorem dX6_worth_8 : decode cX6_worth 8 = .ok (.iload_n 1, 1) := by decide +kernel
theorem dX6_worth_9 : decode cX6_worth 9 = .ok (.iload_n 2, 1) := by decide +kernel
theorem dX6_worth_10 : decode cX6_worth 10 = .ok (.lload_n 3, 1) := by decide +kernel
theorem dX6_worth_11 : decode cX6_worth 11 = .ok (.iload 5, 2) := by decide +kernel
theorem dX6_worth_13 : decode cX6_worth 13 = .ok (.iload 6, 2) := by decide +kernel
theorem dX6_worth_15 : decode cX6_worth 15 = .ok (.bipush 63, 2) := by decide +kernel
theorem dX6_worth_17 : decode cX6_worth 17 = .ok (.iand, 1) := by decide +kernel
theorem dX6_worth_18 : decode cX6_worth 18 = .ok (.invokevirtual 304, 3) := by decide +kernel
theorem dX6_worth_21 : decode cX6_worth 21 = .ok (.aload_n 0, 1) := by decide +kernel
theorem dX6_worth_22 : decode cX6_worth 22 = .ok (.getfield 42, 3) := by decide +kernel
theorem dX6_worth_25 : decode cX6_worth 25 = .ok (.getfield 194, 3) := by decide +kernel
theorem dX6_worth_28 : decode cX6_worth 28 = .ok (.ireturn, 1) := by decide +kernel
theorem inN {x : Int32} {a n : Nat} (hx : x = nI a) (h : a < n) (hn : n < 2 ^ 31) : vp_in x n := by rw [hx]; exact vp_in_nI h hn
theorem n_gt {x y : Int32} {a b : Nat} (hx : x = nI a) (hy : y = nI b) (h : b < a) (ha : a < 2 ^ 31) : y < x := by rw [hx, hy]; exact nI_lt h ha
theorem n_ngt {x y : Int32} {a b : Nat} (hx : x = nI a) (hy : y = nI b) (h : a ≤ b) (hb : b < 2 ^ 31) : ¬ y < x := by rw [hx, hy]; exact nI_nlt h hb
theorem n_ge {x y : Int32} {a b : Nat} (hx : x = nI a) (hy : y = nI b) (h : b ≤ a) (ha : a < 2 ^ 31) : y ≤ x := by rw [hx, hy]; exact nI_le h ha
theorem n_nge {x y : Int32} {a b : Nat} (hx : x = nI a) (hy : y = nI b) (h : a < b) (hb : b < 2 ^ 31) : ¬ y ≤ x := by rw [hx, hy]; exact nI_ge h hb
theorem sr27 {j : Nat} (hj : j < 34) (h : sr (nI j)) : j < 27 := Nat.lt_of_not_le (fun h9 => h.2.1 (nI_le (a := 27) (b := j) h9 (by omega)))
def v_c_X3_put : List Cond := .code yX3_put cX3_put 3 none :: ([.initialized RX6, .static yX6_isKind, .fieldLink RX3 9 "TileHouse$Tiles" "free" "[I", .fieldLink RX3 15 "TileHouse$Tiles" "all" "[I", .fieldLink RX3 28 "TileHouse$Tiles" "loose" "I"] ++ (v_c_X6_isKind ++ (wsX30 ++ ([]))))
theorem vg_c_X3_put : ∀ w ∈ v_c_X3_put, goodWord w = true := vg_c (c := .code yX3_put cX3_put 3 none) (l := [.initialized RX6, .static yX6_isKind, .fieldLink RX3 9 "TileHouse$Tiles" "free" "[I", .fieldLink RX3 15 "TileHouse$Tiles" "all" "[I", .fieldLink RX3 28 "TileHouse$Tiles" "loose" "I"]) (by decide +kernel) (vg_a vg_c_X6_isKind (vg_a vgX3 (vg_nil)))
theorem i_c_X3_put_X3 : ∀ w ∈ u_ws RX3 TX3 6, w ∈ v_c_X3_put := fun _ h => List.mem_cons_of_mem _ (List.mem_append_right _ (List.mem_append_right _ (List.mem_append_left _ h)))
theorem g_c_X3_put_c_X6_isKind_31 : GoodIn v_c_X3_put (v_c_X6_isKind) := fun w h => ⟨List.mem_cons_of_mem _ (List.mem_append_right _ (List.mem_append_left _ h)), good_of_word (vg_c_X6_isKind w h)⟩
set_option maxHeartbeats 4000000 in
set_option maxRecDepth 100000 in
theorem c_X3_put (l : Launch) (G : va_G) (k : Nat → ClassId) (sz : Nat) (h0 : Nat) (fr : Nat) (al : Nat) (f : Nat → Int32) (g : Nat → Int32) (lo : Int32) (p0 : Int32) (p1 : Int32) (x2 : Value) (x3 : Value) (x4 : Value) : Met l yX3_put v_c_X3_put ({ frames := 1, cells := 0, slots := 0, locals := 20 }) (va_Pc [.ref h0, .int p0, .int p1] (pq G k [(h0, .inr (2, [.ref fr, .ref al, x2, x3, x4, .int lo])), (fr, .inl (k 0, 34, .inl f)), (al, .inl (k 0, 34, .inl g))] sz)) (va_Qv (fun _ : (Nat → Int32) × (Nat → Int32) × Int32 => True) (fun u => pt G (va_A [(h0, .inr (2, [.ref fr, .ref al, x2, x3, x4, .int lo])), (fr, .inl (k 0, 34, .inl f)), (al, .inl (k 0, 34, .inl g))] sz) [(h0, .inr (2, [.ref fr, .ref al, x2, x3, x4, .int u.2.2])), (fr, .inl (k 0, 34, .inl (u.1))), (al, .inl (k 0, 34, .inl (u.2.1)))]) (va_A [(h0, .inr (2, [.ref fr, .ref al, x2, x3, x4, .int lo])), (fr, .inl (k 0, 34, .inl f)), (al, .inl (k 0, 34, .inl g))] sz)) 0 0 (va_A [(h0, .inr (2, [.ref fr, .ref al, x2, x3, x4, .int lo])), (fr, .inl (k 0, 34, .inl f)), (al, .inl (k 0, 34, .inl g))] sz) := by
  refine Met.ofW (cc := cX3_put) (maxL := 3) (ret := none) (by decide) rfl ?_
  intro p e s m args below meth c s₁ B hml hv
  obtain ⟨rfl, hsz, ⟨hP, hK, hN⟩, hD0⟩ := hv
  have hx := B.exec
  have hb := B.bytes
  have hr := B.returns
  have hts := atoms_spec (ws := v_c_X3_put) B.pre
  have hown : s.vm.findClass RX3 = some m.cls := findClass_of_methodNamed B.named
  have hlocks := B.notSynchronized
  subst hsz
  have hD := hD0.self (sz := s.heap.size)
  generalize hAe : va_A [(h0, .inr (2, [.ref fr, .ref al, x2, x3, x4, .int lo])), (fr, .inl (k 0, 34, .inl f)), (al, .inl (k 0, 34, .inl g))] s.heap.size = A at hD ⊢
  have hA : ∀ q : Nat, s.heap.size ≤ q → A q := fun q h => by rw [← hAe]; exact Or.inr h
  have hS : va_S A s.heap s.heap [] := va_S.rf
  have hP : va_P G vwCl [(h0, .inr (2, [.ref fr, .ref al, x2, x3, x4, .int lo])), (fr, .inl (k 0, 34, .inl f)), (al, .inl (k 0, 34, .inl g))] s.heap := hP
  refine hvar hP hS (fun H locs hP hS => ?_)
  have hl := lv_entry ([.ref h0, .int p0, .int p1]) (n := 3) (Nat.le_of_ble_eq_true rfl)
  rw [lg_entry_eq]
  generalize (lg_sl ([.ref h0, .int p0, .int p1]) ++ List.replicate (3 - (lg_sl ([.ref h0, .int p0, .int p1])).length) Slot.unset).toArray = ls at hl ⊢
  have hl : lv_has ls 3 [(0, .ref h0), (1, .int p0), (2, .int p1)] := hl
  refine lv_iload_n hx hb dX3_put_0 rfl (lv_at hl 1 rfl) ?_
  have hPc := hP.sub (ws' := []) [] rfl
  refine q_calli (va_runSN (As := [.int p0]) (rest := []) ⟨hx, hb, hml, hown, hts⟩ (c_X6_isKind l G k p0) ⟨va_cnB 1 hts g_c_X3_put_c_X6_isKind_31 rfl rfl rfl (nw_X3_31 hN) (hts (.initialized RX6) (by decide +kernel)) (by decide +kernel) ⟨Nat.le_of_ble_eq_true rfl, Nat.le_of_ble_eq_true rfl⟩, (hts (.static yX6_isKind) (by decide +kernel)), trivial⟩ ⟨pr_bl, pr_pre hPc hK hN⟩ rfl rfl hl.1 rfl (lv_room (Nat.le_of_ble_eq_true rfl)) dX3_put_1 ⟨Nat.le_of_ble_eq_true rfl, Nat.le_of_ble_eq_true rfl⟩) (fun r1 hr1 => ?_)
  rcases hr1 with ⟨rfl, h2⟩ | ⟨rfl, h2⟩
  · skip
    refine lv_if_eq (tgt := 37) hx hb dX3_put_4 (by decide) (fun c9 => absurd c9 (by decide)) (fun _ => ?_)
    refine lv_aload_n hx hb dX3_put_7 rfl (lv_at hl 0 rfl) ?_
    refine va_get (D := G) (ci := 2) (v := .ref fr) (C := RX3) (T := TX3) (N := 6) hx hb hts i_c_X3_put_X3 hown hK hP 0 rfl rfl 0 (by decide) (hts (.fieldLink RX3 9 "TileHouse$Tiles" "free" "[I") (by decide +kernel)) (fun _ h9 => h9) rfl dX3_put_8 ?_
    refine lv_iload_n hx hb dX3_put_11 rfl (lv_at hl 1 rfl) ?_
    refine lv_dup2_11 hx hb dX3_put_12 rfl rfl ?_
    refine va_iald hx hb hK hP 1 0 rfl rfl h2 dX3_put_13 ?_
    refine lv_topi (fun v3 ev3 => ?_)
    refine lv_iload_n hx hb dX3_put_14 rfl (lv_at hl 2 rfl) ?_
    refine lv_iadd hx hb dX3_put_15 ?_
    refine lv_topi (fun v4 ev4 => ?_)
    refine va_iast hx hb hK hP hD hS 1 0 rfl rfl h2 dX3_put_16 (fun H locs hP hD hS => ?_)
    replace hP : va_P G vwCl [(h0, .inr (2, [.ref fr, .ref al, x2, x3, x4, .int lo])), (fr, .inl (k 0, 34, .inl (upd f p0.toNatClampNeg v4))), (al, .inl (k 0, 34, .inl g))] H := hP
    replace hD : va_D A [(h0, .inr (2, [.ref fr, .ref al, x2, x3, x4, .int lo])), (fr, .inl (k 0, 34, .inl (upd f p0.toNatClampNeg v4))), (al, .inl (k 0, 34, .inl g))] := hD
    refine lv_aload_n hx hb dX3_put_17 rfl (lv_at hl 0 rfl) ?_
    refine va_get (D := G) (ci := 2) (v := .ref al) (C := RX3) (T := TX3) (N := 6) hx hb hts i_c_X3_put_X3 hown hK hP 0 rfl rfl 1 (by decide) (hts (.fieldLink RX3 15 "TileHouse$Tiles" "all" "[I") (by decide +kernel)) (fun _ h9 => h9) rfl dX3_put_18 ?_
    refine lv_iload_n hx hb dX3_put_21 rfl (lv_at hl 1 rfl) ?_
    refine lv_dup2_11 hx hb dX3_put_22 rfl rfl ?_
    refine va_iald hx hb hK hP 2 0 rfl rfl h2 dX3_put_23 ?_
    refine lv_topi (fun v5 ev5 => ?_)
    refine lv_iload_n hx hb dX3_put_24 rfl (lv_at hl 2 rfl) ?_
    refine lv_iadd hx hb dX3_put_25 ?_
    refine lv_topi (fun v6 ev6 => ?_)
    refine va_iast hx hb hK hP hD hS 2 0 rfl rfl h2 dX3_put_26 (fun H locs hP hD hS => ?_)
    replace hP : va_P G vwCl [(h0, .inr (2, [.ref fr, .ref al, x2, x3, x4, .int lo])), (fr, .inl (k 0, 34, .inl (upd f p0.toNatClampNeg v4))), (al, .inl (k 0, 34, .inl (upd g p0.toNatClampNeg v6)))] H := hP
    replace hD : va_D A [(h0, .inr (2, [.ref fr, .ref al, x2, x3, x4, .int lo])), (fr, .inl (k 0, 34, .inl (upd f p0.toNatClampNeg v4))), (al, .inl (k 0, 34, .inl (upd g p0.toNatClampNeg v6)))] := hD
    refine lv_aload_n hx hb dX3_put_27 rfl (lv_at hl 0 rfl) ?_
    refine lv_dup hx hb dX3_put_28 rfl ?_
    refine va_get (D := G) (ci := 2) (v := .int lo) (C := RX3) (T := TX3) (N := 6) hx hb hts i_c_X3_put_X3 hown hK hP 0 rfl rfl 5 (by decide) (hts (.fieldLink RX3 28 "TileHouse$Tiles" "loose" "I") (by decide +kernel)) (fun _ h9 => h9) rfl dX3_put_29 ?_
    refine lv_iload_n hx hb dX3_put_32 rfl (lv_at hl 2 rfl) ?_
    refine lv_iadd hx hb dX3_put_33 ?_
    refine lv_topi (fun v7 ev7 => ?_)
    refine va_put (D := G) (ci := 2) (v := .int v7) (ty := .int) (C := RX3) (T := TX3) (N := 6) hx hb hts i_c_X3_put_X3 tyX3 tyX3_ok nmX3 hown hK hP hD hS 0 rfl rfl 5 (by decide) (hts (.fieldLink RX3 28 "TileHouse$Tiles" "loose" "I") (by decide +kernel)) (fun _ h9 => h9) rfl (by decide +kernel) rfl rfl (Nat.le_of_ble_eq_true rfl) dX3_put_34 (fun H locs hP hD hS => ?_)
    replace hP : va_P G vwCl [(h0, .inr (2, [.ref fr, .ref al, x2, x3, x4, .int v7])), (fr, .inl (k 0, 34, .inl (upd f p0.toNatClampNeg v4))), (al, .inl (k 0, 34, .inl (upd g p0.toNatClampNeg v6)))] H := hP
    replace hD : va_D A [(h0, .inr (2, [.ref fr, .ref al, x2, x3, x4, .int v7])), (fr, .inl (k 0, 34, .inl (upd f p0.toNatClampNeg v4))), (al, .inl (k 0, 34, .inl (upd g p0.toNatClampNeg v6)))] := hD
    refine W.widen (k := 0) (n := 0) (Nat.le_of_ble_eq_true rfl) (Nat.le_of_ble_eq_true rfl) ?_
    exact W.vret hx hb hr (fun t ht hW => ⟨⟨(upd f p0.toNatClampNeg v4, upd g p0.toNatClampNeg v6, v7), rfl, trivial, ⟨by rw [ht]; exact hP.sub [0, 1, 2] rfl, hD.sub [0, 1, 2] (by decide) rfl⟩⟩, hS.F ht⟩) hS.2.2 dX3_put_37
  · skip
    refine lv_if_eq (tgt := 37) hx hb dX3_put_4 (by decide) (fun _ => ?_) (fun c9 => absurd (by decide) c9)
    refine W.widen (k := 0) (n := 0) (Nat.le_of_ble_eq_true rfl) (Nat.le_of_ble_eq_true rfl) ?_
    exact W.vret hx hb hr (fun t ht hW => ⟨⟨(f, g, lo), rfl, trivial, ⟨by rw [ht]; exact hP.sub [0, 1, 2] rfl, hD.sub [0, 1, 2] (by decide) rfl⟩⟩, hS.F ht⟩) hS.2.2 dX3_put_37
def v_c_X3_empty : List Cond := .code yX3_empty cX3_empty 2 none :: ([.fieldLink RX3 24 "TileHouse$Tiles" "laidDown" "I", .fieldLink RX3 28 "TileHouse$Tiles" "loose" "I", .fieldLink RX3 9 "TileHouse$Tiles" "free" "[I", .fieldLink RX3 15 "TileHouse$Tiles" "all" "[I"] ++ (wsX30 ++ ([])))
theorem vg_c_X3_empty : ∀ w ∈ v_c_X3_empty, goodWord w = true := vg_c (c := .code yX3_empty cX3_empty 2 none) (l := [.fieldLink RX3 24 "TileHouse$Tiles" "laidDown" "I", .fieldLink RX3 28 "TileHouse$Tiles" "loose" "I", .fieldLink RX3 9 "TileHouse$Tiles" "free" "[I", .fieldLink RX3 15 "TileHouse$Tiles" "all" "[I"]) (by decide +kernel) (vg_a vgX3 (vg_nil))
theorem i_c_X3_empty_X3 : ∀ w ∈ u_ws RX3 TX3 6, w ∈ v_c_X3_empty := fun _ h => List.mem_cons_of_mem _ (List.mem_append_right _ (List.mem_append_left _ h))
set_option maxHeartbeats 4000000 in
set_option maxRecDepth 100000 in
theorem c_X3_empty (l : Launch) (G : va_G) (k : Nat → ClassId) (sz : Nat) (h0 : Nat) (fr : Nat) (al : Nat) (f : Nat → Int32) (g : Nat → Int32) (x2 : Value) (x3 : Value) (x4 : Value) (x5 : Value) : Met l yX3_empty v_c_X3_empty ({ frames := 0, cells := 0, slots := 0, locals := 0 }) (va_Pc [.ref h0] (pq G k [(h0, .inr (2, [.ref fr, .ref al, x2, x3, x4, x5])), (fr, .inl (k 0, 34, .inl f)), (al, .inl (k 0, 34, .inl g))] sz)) (va_Qv (fun _ : (Nat → Int32) × (Nat → Int32) => True) (fun u => pt G (va_A [(h0, .inr (2, [.ref fr, .ref al, x2, x3, x4, x5])), (fr, .inl (k 0, 34, .inl f)), (al, .inl (k 0, 34, .inl g))] sz) [(h0, .inr (2, [.ref fr, .ref al, x2, x3, .int 0, .int 0])), (fr, .inl (k 0, 34, .inl (u.1))), (al, .inl (k 0, 34, .inl (u.2)))]) (va_A [(h0, .inr (2, [.ref fr, .ref al, x2, x3, x4, x5])), (fr, .inl (k 0, 34, .inl f)), (al, .inl (k 0, 34, .inl g))] sz)) 0 0 (va_A [(h0, .inr (2, [.ref fr, .ref al, x2, x3, x4, x5])), (fr, .inl (k 0, 34, .inl f)), (al, .inl (k 0, 34, .inl g))] sz) := by
  refine Met.ofW (cc := cX3_empty) (maxL := 2) (ret := none) (by decide) rfl ?_
  intro p e s m args below meth c s₁ B hml hv
  obtain ⟨rfl, hsz, ⟨hP, hK, hN⟩, hD0⟩ := hv
  have hx := B.exec
  have hb := B.bytes
  have hr := B.returns
  have hts := atoms_spec (ws := v_c_X3_empty) B.pre
  have hown : s.vm.findClass RX3 = some m.cls := findClass_of_methodNamed B.named
  have hlocks := B.notSynchronized
  subst hsz
  have hD := hD0.self (sz := s.heap.size)
  generalize hAe : va_A [(h0, .inr (2, [.ref fr, .ref al, x2, x3, x4, x5])), (fr, .inl (k 0, 34, .inl f)), (al, .inl (k 0, 34, .inl g))] s.heap.size = A at hD ⊢
  have hA : ∀ q : Nat, s.heap.size ≤ q → A q := fun q h => by rw [← hAe]; exact Or.inr h
  have hS : va_S A s.heap s.heap [] := va_S.rf
  have hP : va_P G vwCl [(h0, .inr (2, [.ref fr, .ref al, x2, x3, x4, x5])), (fr, .inl (k 0, 34, .inl f)), (al, .inl (k 0, 34, .inl g))] s.heap := hP
  refine hvar hP hS (fun H locs hP hS => ?_)
  have hl := lv_entry ([.ref h0]) (n := 2) (Nat.le_of_ble_eq_true rfl)
  rw [lg_entry_eq]
  generalize (lg_sl ([.ref h0]) ++ List.replicate (2 - (lg_sl ([.ref h0])).length) Slot.unset).toArray = ls at hl ⊢
  have hl : lv_has ls 2 [(0, .ref h0)] := hl
  refine lv_iconst (v := 0) hx hb dX3_empty_0 (by decide) ?_
  refine lv_istore_n (lv' := [(1, .int 0), (0, .ref h0)]) hx hb dX3_empty_1 rfl hl (by decide) rfl (fun ls hl => ?_)
  obtain ⟨j1, kj1, ej1, hj1⟩ : ∃ j : Nat, j = 0 ∧ nI j = (0 : Int32) ∧ j ≤ 34 := ⟨0, rfl, rfl, by decide⟩
  replace hl : lv_has ls 2 [(1, .int (nI j1)), (0, .ref h0)] := by rw [ej1]; exact hl
  obtain ⟨f2, ef2⟩ : ∃ x : Nat → Int32, x = (f) := ⟨_, rfl⟩
  replace hP : va_P G vwCl [(h0, .inr (2, [.ref fr, .ref al, x2, x3, x4, x5])), (fr, .inl (k 0, 34, .inl f2)), (al, .inl (k 0, 34, .inl g))] H := by rw [ef2]; exact hP
  replace hD : va_D A [(h0, .inr (2, [.ref fr, .ref al, x2, x3, x4, x5])), (fr, .inl (k 0, 34, .inl f2)), (al, .inl (k 0, 34, .inl g))] := by rw [ef2]; exact hD
  clear ef2
  obtain ⟨f3, ef3⟩ : ∃ x : Nat → Int32, x = (g) := ⟨_, rfl⟩
  replace hP : va_P G vwCl [(h0, .inr (2, [.ref fr, .ref al, x2, x3, x4, x5])), (fr, .inl (k 0, 34, .inl f2)), (al, .inl (k 0, 34, .inl f3))] H := by rw [ef3]; exact hP
  replace hD : va_D A [(h0, .inr (2, [.ref fr, .ref al, x2, x3, x4, x5])), (fr, .inl (k 0, 34, .inl f2)), (al, .inl (k 0, 34, .inl f3))] := by rw [ef3]; exact hD
  clear ef3
  clear kj1 ej1
  obtain ⟨nj1, hnj1⟩ : ∃ n : Nat, 34 < j1 + n := ⟨35, by omega⟩
  induction nj1 generalizing j1 ls H locs f2 f3 with
  | zero => exact absurd hnj1 (by omega)
  | succ nj1 ihj1 =>
    refine lv_iload_n hx hb dX3_empty_2 rfl (lv_at hl 0 rfl) ?_
    refine lv_bipush (v := 34) hx hb dX3_empty_3 (by decide) ?_
    refine lv_icmp_ge (tgt := 28) hx hb dX3_empty_5 (by decide) (fun c4 => ?_) (fun c4 => ?_)
    · skip
      have hge : 34 ≤ j1 := (nI_leI (a := 34) (b := j1) (by omega) (by omega)).mp c4
      refine lv_aload_n hx hb dX3_empty_28 rfl (lv_at hl 1 rfl) ?_
      refine lv_iconst (v := 0) hx hb dX3_empty_29 (by decide) ?_
      refine va_put (D := G) (ci := 2) (v := .int 0) (ty := .int) (C := RX3) (T := TX3) (N := 6) hx hb hts i_c_X3_empty_X3 tyX3 tyX3_ok nmX3 hown hK hP hD hS 0 rfl rfl 4 (by decide) (hts (.fieldLink RX3 24 "TileHouse$Tiles" "laidDown" "I") (by decide +kernel)) (fun _ h9 => h9) rfl (by decide +kernel) rfl rfl (Nat.le_of_ble_eq_true rfl) dX3_empty_30 (fun H locs hP hD hS => ?_)
      replace hP : va_P G vwCl [(h0, .inr (2, [.ref fr, .ref al, x2, x3, .int 0, x5])), (fr, .inl (k 0, 34, .inl f2)), (al, .inl (k 0, 34, .inl f3))] H := hP
      replace hD : va_D A [(h0, .inr (2, [.ref fr, .ref al, x2, x3, .int 0, x5])), (fr, .inl (k 0, 34, .inl f2)), (al, .inl (k 0, 34, .inl f3))] := hD
      refine lv_aload_n hx hb dX3_empty_33 rfl (lv_at hl 1 rfl) ?_
      refine lv_iconst (v := 0) hx hb dX3_empty_34 (by decide) ?_
      refine va_put (D := G) (ci := 2) (v := .int 0) (ty := .int) (C := RX3) (T := TX3) (N := 6) hx hb hts i_c_X3_empty_X3 tyX3 tyX3_ok nmX3 hown hK hP hD hS 0 rfl rfl 5 (by decide) (hts (.fieldLink RX3 28 "TileHouse$Tiles" "loose" "I") (by decide +kernel)) (fun _ h9 => h9) rfl (by decide +kernel) rfl rfl (Nat.le_of_ble_eq_true rfl) dX3_empty_35 (fun H locs hP hD hS => ?_)
      replace hP : va_P G vwCl [(h0, .inr (2, [.ref fr, .ref al, x2, x3, .int 0, .int 0])), (fr, .inl (k 0, 34, .inl f2)), (al, .inl (k 0, 34, .inl f3))] H := hP
      replace hD : va_D A [(h0, .inr (2, [.ref fr, .ref al, x2, x3, .int 0, .int 0])), (fr, .inl (k 0, 34, .inl f2)), (al, .inl (k 0, 34, .inl f3))] := hD
      refine W.widen (k := 0) (n := 0) (Nat.le_of_ble_eq_true rfl) (Nat.le_of_ble_eq_true rfl) ?_
      exact W.vret hx hb hr (fun t ht hW => ⟨⟨(f2, f3), rfl, trivial, ⟨by rw [ht]; exact hP.sub [0, 1, 2] rfl, hD.sub [0, 1, 2] (by decide) rfl⟩⟩, hS.F ht⟩) hS.2.2 dX3_empty_38
    · skip
      have hltj1 : j1 < 34 := Nat.lt_of_not_le (fun h9 => c4 (nI_le h9 (by omega)))
      refine lv_aload_n hx hb dX3_empty_8 rfl (lv_at hl 1 rfl) ?_
      refine va_get (D := G) (ci := 2) (v := .ref fr) (C := RX3) (T := TX3) (N := 6) hx hb hts i_c_X3_empty_X3 hown hK hP 0 rfl rfl 0 (by decide) (hts (.fieldLink RX3 9 "TileHouse$Tiles" "free" "[I") (by decide +kernel)) (fun _ h9 => h9) rfl dX3_empty_9 ?_
      refine lv_iload_n hx hb dX3_empty_12 rfl (lv_at hl 0 rfl) ?_
      refine lv_iconst (v := 0) hx hb dX3_empty_13 (by decide) ?_
      refine va_iast hx hb hK hP hD hS 1 0 rfl rfl (vp_in_nI hltj1 (by decide)) dX3_empty_14 (fun H locs hP hD hS => ?_)
      replace hP : va_P G vwCl [(h0, .inr (2, [.ref fr, .ref al, x2, x3, x4, x5])), (fr, .inl (k 0, 34, .inl (upd f2 (nI j1).toNatClampNeg 0))), (al, .inl (k 0, 34, .inl f3))] H := hP
      replace hD : va_D A [(h0, .inr (2, [.ref fr, .ref al, x2, x3, x4, x5])), (fr, .inl (k 0, 34, .inl (upd f2 (nI j1).toNatClampNeg 0))), (al, .inl (k 0, 34, .inl f3))] := hD
      refine lv_aload_n hx hb dX3_empty_15 rfl (lv_at hl 1 rfl) ?_
      refine va_get (D := G) (ci := 2) (v := .ref al) (C := RX3) (T := TX3) (N := 6) hx hb hts i_c_X3_empty_X3 hown hK hP 0 rfl rfl 1 (by decide) (hts (.fieldLink RX3 15 "TileHouse$Tiles" "all" "[I") (by decide +kernel)) (fun _ h9 => h9) rfl dX3_empty_16 ?_
      refine lv_iload_n hx hb dX3_empty_19 rfl (lv_at hl 0 rfl) ?_
      refine lv_iconst (v := 0) hx hb dX3_empty_20 (by decide) ?_
      refine va_iast hx hb hK hP hD hS 2 0 rfl rfl (vp_in_nI hltj1 (by decide)) dX3_empty_21 (fun H locs hP hD hS => ?_)
      replace hP : va_P G vwCl [(h0, .inr (2, [.ref fr, .ref al, x2, x3, x4, x5])), (fr, .inl (k 0, 34, .inl (upd f2 (nI j1).toNatClampNeg 0))), (al, .inl (k 0, 34, .inl (upd f3 (nI j1).toNatClampNeg 0)))] H := hP
      replace hD : va_D A [(h0, .inr (2, [.ref fr, .ref al, x2, x3, x4, x5])), (fr, .inl (k 0, 34, .inl (upd f2 (nI j1).toNatClampNeg 0))), (al, .inl (k 0, 34, .inl (upd f3 (nI j1).toNatClampNeg 0)))] := hD
      obtain ⟨v5, ev5⟩ : ∃ y : Int32, y = (nI j1) + 1 := ⟨_, rfl⟩
      have nv5 : v5 = nI (j1 + 1) := by rw [ev5]; exact nI_add (j1) (1)
      refine lv_iinc (v := v5) (lv' := [(1, .int v5), (0, .ref h0)]) hx hb dX3_empty_22 hl (k := 0) rfl (by rw [ev5]; rfl) (by decide) rfl (fun ls hl => ?_)
      refine lv_goto (tgt := 2) hx hb dX3_empty_25 (by decide) ?_
      exact ihj1 (j1 := j1 + 1) (hj1 := by omega) (hnj1 := by omega) (ls := ls) (hl := by rw [nI_succ, ← ev5]; exact lv_sub hl [0, 1] rfl) (H := H) (locs := locs) (hP := hP.sub [0, 1, 2] rfl) (hS := hS) (hD := hD.sub [0, 1, 2] (by decide) rfl) (f2 := upd f2 (nI j1).toNatClampNeg 0) (f3 := upd f3 (nI j1).toNatClampNeg 0)
def v_c_X6_clear0 : List Cond := .code yX6_clear cX6_clear 1 none :: ([.fieldLink RX6 38 "TileHouse" "deskTiles" "LTileHouse$Tiles;", .methodLink RX6 289 yX3_empty, .instanceMethod yX3_empty, .selects RX3 yX3_empty yX3_empty, .initialized RX3] ++ (wsX60 ++ (v_c_X3_empty ++ ([]))))
theorem vg_c_X6_clear0 : ∀ w ∈ v_c_X6_clear0, goodWord w = true := vg_c (c := .code yX6_clear cX6_clear 1 none) (l := [.fieldLink RX6 38 "TileHouse" "deskTiles" "LTileHouse$Tiles;", .methodLink RX6 289 yX3_empty, .instanceMethod yX3_empty, .selects RX3 yX3_empty yX3_empty, .initialized RX3]) (by decide +kernel) (vg_a vgX6 (vg_a vg_c_X3_empty (vg_nil)))
theorem i_c_X6_clear0_X6 : ∀ w ∈ u_ws RX6 TX6 19, w ∈ v_c_X6_clear0 := fun _ h => List.mem_cons_of_mem _ (List.mem_append_right _ (List.mem_append_left _ h))
theorem g_c_X6_clear0_c_X3_empty_289 : GoodIn v_c_X6_clear0 (wsV RX6 289 RX3 yX3_empty v_c_X3_empty) := goodIn_app (goodIn_of _ (by decide +kernel)) (fun w h => ⟨List.mem_cons_of_mem _ (List.mem_append_right _ (List.mem_append_right _ (List.mem_append_left _ h))), good_of_word (vg_c_X3_empty w h)⟩)
set_option maxHeartbeats 4000000 in
set_option maxRecDepth 100000 in
theorem c_X6_clear0 (l : Launch) (G : va_G) (k : Nat → ClassId) (sz : Nat) (h0 : Nat) (t0 : Nat) (fr : Nat) (al : Nat) (so : Nat) (lw : Nat) (x0 : Value) (x1 : Value) (x2 : Value) (x3 : Value) (x5 : Value) (x6 : Value) (x7 : Value) (x8 : Value) (x9 : Value) (x10 : Value) (x11 : Value) (x12 : Value) (x13 : Value) (x14 : Value) (x15 : Value) (x16 : Value) (x17 : Value) (x18 : Value) : Met l yX6_clear v_c_X6_clear0 ({ frames := 1, cells := 0, slots := 0, locals := 21 }) (va_Pc [.ref h0] (pq G k [(h0, .inr (5, [x0, x1, x2, x3, .ref t0, x5, x6, x7, x8, x9, x10, x11, x12, x13, x14, x15, x16, x17, x18])), (t0, .inr (2, [.ref fr, .ref al, .ref so, .ref lw, .int 0, .int 0])), (fr, .inl (k 0, 34, .inl (fun _ => 0))), (al, .inl (k 0, 34, .inl (fun _ => 0)))] sz)) (va_Qv (fun _ : Unit => True) (fun (_ : Unit) _ => True) (va_A [(h0, .inr (5, [x0, x1, x2, x3, .ref t0, x5, x6, x7, x8, x9, x10, x11, x12, x13, x14, x15, x16, x17, x18])), (t0, .inr (2, [.ref fr, .ref al, .ref so, .ref lw, .int 0, .int 0])), (fr, .inl (k 0, 34, .inl (fun _ => 0))), (al, .inl (k 0, 34, .inl (fun _ => 0)))] sz)) 0 0 (va_A [(h0, .inr (5, [x0, x1, x2, x3, .ref t0, x5, x6, x7, x8, x9, x10, x11, x12, x13, x14, x15, x16, x17, x18])), (t0, .inr (2, [.ref fr, .ref al, .ref so, .ref lw, .int 0, .int 0])), (fr, .inl (k 0, 34, .inl (fun _ => 0))), (al, .inl (k 0, 34, .inl (fun _ => 0)))] sz) := by
  refine Met.ofW (cc := cX6_clear) (maxL := 1) (ret := none) (by decide) rfl ?_
  intro p e s m args below meth c s₁ B hml hv
  obtain ⟨rfl, hsz, ⟨hP, hK, hN⟩, hD0⟩ := hv
  have hx := B.exec
  have hb := B.bytes
  have hr := B.returns
  have hts := atoms_spec (ws := v_c_X6_clear0) B.pre
  have hown : s.vm.findClass RX6 = some m.cls := findClass_of_methodNamed B.named
  have hlocks := B.notSynchronized
  subst hsz
  have hD := hD0.self (sz := s.heap.size)
  generalize hAe : va_A [(h0, .inr (5, [x0, x1, x2, x3, .ref t0, x5, x6, x7, x8, x9, x10, x11, x12, x13, x14, x15, x16, x17, x18])), (t0, .inr (2, [.ref fr, .ref al, .ref so, .ref lw, .int 0, .int 0])), (fr, .inl (k 0, 34, .inl (fun _ => 0))), (al, .inl (k 0, 34, .inl (fun _ => 0)))] s.heap.size = A at hD ⊢
  have hA : ∀ q : Nat, s.heap.size ≤ q → A q := fun q h => by rw [← hAe]; exact Or.inr h
  have hS : va_S A s.heap s.heap [] := va_S.rf
  have hP : va_P G vwCl [(h0, .inr (5, [x0, x1, x2, x3, .ref t0, x5, x6, x7, x8, x9, x10, x11, x12, x13, x14, x15, x16, x17, x18])), (t0, .inr (2, [.ref fr, .ref al, .ref so, .ref lw, .int 0, .int 0])), (fr, .inl (k 0, 34, .inl (fun _ => 0))), (al, .inl (k 0, 34, .inl (fun _ => 0)))] s.heap := hP
  refine hvar hP hS (fun H locs hP hS => ?_)
  have hl := lv_entry ([.ref h0]) (n := 1) (Nat.le_of_ble_eq_true rfl)
  rw [lg_entry_eq]
  generalize (lg_sl ([.ref h0]) ++ List.replicate (1 - (lg_sl ([.ref h0])).length) Slot.unset).toArray = ls at hl ⊢
  have hl : lv_has ls 1 [(0, .ref h0)] := hl
  refine lv_aload_n hx hb dX6_clear_0 rfl (lv_at hl 0 rfl) ?_
  refine va_get (D := G) (ci := 5) (v := .ref t0) (C := RX6) (T := TX6) (N := 19) hx hb hts i_c_X6_clear0_X6 hown hK hP 0 rfl rfl 4 (by decide) (hts (.fieldLink RX6 38 "TileHouse" "deskTiles" "LTileHouse$Tiles;") (by decide +kernel)) (fun _ h9 => h9) rfl dX6_clear_1 ?_
  have hPc := hP.sub (ws' := [(t0, .inr (2, [.ref fr, .ref al, .ref so, .ref lw, .int 0, .int 0])), (fr, .inl (k 0, 34, .inl (fun _ => 0))), (al, .inl (k 0, 34, .inl (fun _ => 0)))]) [1, 2, 3] rfl
  have hDc := hD.sub (ws' := [(t0, .inr (2, [.ref fr, .ref al, .ref so, .ref lw, .int 0, .int 0])), (fr, .inl (k 0, 34, .inl (fun _ => 0))), (al, .inl (k 0, 34, .inl (fun _ => 0)))]) [1, 2, 3] (by decide) rfl
  have hFc := va_free (wc := [(t0, .inr (2, [.ref fr, .ref al, .ref so, .ref lw, .int 0, .int 0])), (fr, .inl (k 0, 34, .inl (fun _ => 0))), (al, .inl (k 0, 34, .inl (fun _ => 0)))]) hD hS hA [1, 2, 3] rfl
  refine va_callv (va_runV (As := []) (rest := []) ⟨hx, hb, hml, hown, hts⟩ (c_X3_empty l G k H.size t0 fr al (fun _ => 0) (fun _ => 0) (.ref so) (.ref lw) (.int 0) (.int 0)) (cwV 0 hts g_c_X6_clear0_c_X3_empty_289 rfl rfl rfl (by decide +kernel) ⟨Nat.le_of_ble_eq_true rfl, Nat.le_of_ble_eq_true rfl⟩) ⟨pq_bl, va_recv hK hPc (ci := 2) (q0 := 0) rfl rfl, pq_pre hPc hDc hK hN⟩ rfl rfl hl.1 rfl (lv_room (Nat.le_of_ble_eq_true rfl)) dX6_clear_4 ⟨Nat.le_of_ble_eq_true rfl, Nat.le_of_ble_eq_true rfl⟩) hS (fun q _ h => hFc q h) hFc (fun ur1 t H1 locs ht hvm hr1 hB hz1 hk1 hS => ?_)
  obtain ⟨f2, g3⟩ := ur1
  obtain ⟨hP1, hD1⟩ := hB
  rw [ht] at hP1
  obtain ⟨hP, hD⟩ := va_join (wr := [(h0, .inr (5, [x0, x1, x2, x3, .ref t0, x5, x6, x7, x8, x9, x10, x11, x12, x13, x14, x15, x16, x17, x18]))]) (w1 := [(t0, .inr (2, [.ref fr, .ref al, .ref so, .ref lw, .int 0, .int 0])), (fr, .inl (k 0, 34, .inl f2)), (al, .inl (k 0, 34, .inl g3))]) hP hD [1, 2, 3] [0] rfl rfl (by decide) (by decide) hk1 hFc hP1 hD1
  clear hP1 hD1
  generalize H1 = H at hP hS ⊢
  replace hP : va_P G vwCl [(h0, .inr (5, [x0, x1, x2, x3, .ref t0, x5, x6, x7, x8, x9, x10, x11, x12, x13, x14, x15, x16, x17, x18])), (t0, .inr (2, [.ref fr, .ref al, .ref so, .ref lw, .int 0, .int 0])), (fr, .inl (k 0, 34, .inl f2)), (al, .inl (k 0, 34, .inl g3))] H := hP
  replace hD : va_D A [(h0, .inr (5, [x0, x1, x2, x3, .ref t0, x5, x6, x7, x8, x9, x10, x11, x12, x13, x14, x15, x16, x17, x18])), (t0, .inr (2, [.ref fr, .ref al, .ref so, .ref lw, .int 0, .int 0])), (fr, .inl (k 0, 34, .inl f2)), (al, .inl (k 0, 34, .inl g3))] := hD
  refine W.widen (k := 0) (n := 0) (Nat.le_of_ble_eq_true rfl) (Nat.le_of_ble_eq_true rfl) ?_
  exact W.vret hx hb hr (fun t ht hW => ⟨⟨(), rfl, trivial, trivial⟩, hS.F ht⟩) hS.2.2 dX6_clear_7
def v_c_X6_lay0 : List Cond := .code yX6_lay cX6_lay 3 (some .boolean) :: ([.methodLink RX6 292 yX6_isKind, .static yX6_isKind, .initialized RX6, .fieldLink RX6 38 "TileHouse" "deskTiles" "LTileHouse$Tiles;", .methodLink RX6 295 yX3_all, .instanceMethod yX3_all, .selects RX3 yX3_all yX3_all, .initialized RX3, .methodLink RX6 298 yX3_size, .instanceMethod yX3_size, .selects RX3 yX3_size yX3_size, .methodLink RX6 79 yX3_put, .instanceMethod yX3_put, .selects RX3 yX3_put yX3_put] ++ (v_c_X6_isKind ++ (wsX60 ++ (v_c_X3_all ++ (v_c_X3_size ++ (v_c_X3_put ++ ([])))))))
theorem vg_c_X6_lay0 : ∀ w ∈ v_c_X6_lay0, goodWord w = true := vg_c (c := .code yX6_lay cX6_lay 3 (some .boolean)) (l := [.methodLink RX6 292 yX6_isKind, .static yX6_isKind, .initialized RX6, .fieldLink RX6 38 "TileHouse" "deskTiles" "LTileHouse$Tiles;", .methodLink RX6 295 yX3_all, .instanceMethod yX3_all, .selects RX3 yX3_all yX3_all, .initialized RX3, .methodLink RX6 298 yX3_size, .instanceMethod yX3_size, .selects RX3 yX3_size yX3_size, .methodLink RX6 79 yX3_put, .instanceMethod yX3_put, .selects RX3 yX3_put yX3_put]) (by decide +kernel) (vg_a vg_c_X6_isKind (vg_a vgX6 (vg_a vg_c_X3_all (vg_a vg_c_X3_size (vg_a vg_c_X3_put (vg_nil))))))
theorem i_c_X6_lay0_X6 : ∀ w ∈ u_ws RX6 TX6 19, w ∈ v_c_X6_lay0 := fun _ h => List.mem_cons_of_mem _ (List.mem_append_right _ (List.mem_append_right _ (List.mem_append_left _ h)))
theorem g_c_X6_lay0_c_X6_isKind_292 : GoodIn v_c_X6_lay0 (wsS RX6 292 yX6_isKind v_c_X6_isKind) := goodIn_app (goodIn_of _ (by decide +kernel)) (fun w h => ⟨List.mem_cons_of_mem _ (List.mem_append_right _ (List.mem_append_left _ h)), good_of_word (vg_c_X6_isKind w h)⟩)
theorem g_c_X6_lay0_c_X3_all_295 : GoodIn v_c_X6_lay0 (wsV RX6 295 RX3 yX3_all v_c_X3_all) := goodIn_app (goodIn_of _ (by decide +kernel)) (fun w h => ⟨List.mem_cons_of_mem _ (List.mem_append_right _ (List.mem_append_right _ (List.mem_append_right _ (List.mem_append_left _ h)))), good_of_word (vg_c_X3_all w h)⟩)
theorem g_c_X6_lay0_c_X3_size_298 : GoodIn v_c_X6_lay0 (wsV RX6 298 RX3 yX3_size v_c_X3_size) := goodIn_app (goodIn_of _ (by decide +kernel)) (fun w h => ⟨List.mem_cons_of_mem _ (List.mem_append_right _ (List.mem_append_right _ (List.mem_append_right _ (List.mem_append_right _ (List.mem_append_left _ h))))), good_of_word (vg_c_X3_size w h)⟩)
theorem g_c_X6_lay0_c_X3_put_79 : GoodIn v_c_X6_lay0 (wsV RX6 79 RX3 yX3_put v_c_X3_put) := goodIn_app (goodIn_of _ (by decide +kernel)) (fun w h => ⟨List.mem_cons_of_mem _ (List.mem_append_right _ (List.mem_append_right _ (List.mem_append_right _ (List.mem_append_right _ (List.mem_append_right _ (List.mem_append_left _ h)))))), good_of_word (vg_c_X3_put w h)⟩)
set_option maxHeartbeats 4000000 in
set_option maxRecDepth 100000 in
theorem c_X6_lay0 (l : Launch) (G : va_G) (k : Nat → ClassId) (sz : Nat) (h0 : Nat) (t0 : Nat) (fr : Nat) (al : Nat) (so : Nat) (lw : Nat) (p0 : Int32) (p1 : Int32) (x0 : Value) (x1 : Value) (x2 : Value) (x3 : Value) (x5 : Value) (x6 : Value) (x7 : Value) (x8 : Value) (x9 : Value) (x10 : Value) (x11 : Value) (x12 : Value) (x13 : Value) (x14 : Value) (x15 : Value) (x16 : Value) (x17 : Value) (x18 : Value) : Met l yX6_lay v_c_X6_lay0 ({ frames := 2, cells := 0, slots := 0, locals := 42 }) (va_Pc [.ref h0, .int p0, .int p1] (pq G k [(h0, .inr (5, [x0, x1, x2, x3, .ref t0, x5, x6, x7, x8, x9, x10, x11, x12, x13, x14, x15, x16, x17, x18])), (t0, .inr (2, [.ref fr, .ref al, .ref so, .ref lw, .int 0, .int 0])), (fr, .inl (k 0, 34, .inl (fun _ => 0))), (al, .inl (k 0, 34, .inl (fun _ => 0)))] sz)) (va_Qi (fun r (_ : Unit) => (r = 1 ∧ LOK p0 p1) ∨ (r = 0 ∧ ¬ LOK p0 p1)) (fun (_ : Unit) _ => True) (va_A [(h0, .inr (5, [x0, x1, x2, x3, .ref t0, x5, x6, x7, x8, x9, x10, x11, x12, x13, x14, x15, x16, x17, x18])), (t0, .inr (2, [.ref fr, .ref al, .ref so, .ref lw, .int 0, .int 0])), (fr, .inl (k 0, 34, .inl (fun _ => 0))), (al, .inl (k 0, 34, .inl (fun _ => 0)))] sz)) 0 0 (va_A [(h0, .inr (5, [x0, x1, x2, x3, .ref t0, x5, x6, x7, x8, x9, x10, x11, x12, x13, x14, x15, x16, x17, x18])), (t0, .inr (2, [.ref fr, .ref al, .ref so, .ref lw, .int 0, .int 0])), (fr, .inl (k 0, 34, .inl (fun _ => 0))), (al, .inl (k 0, 34, .inl (fun _ => 0)))] sz) := by
  refine Met.ofW (cc := cX6_lay) (maxL := 3) (ret := (some .boolean)) (by decide) rfl ?_
  intro p e s m args below meth c s₁ B hml hv
  obtain ⟨rfl, hsz, ⟨hP, hK, hN⟩, hD0⟩ := hv
  have hx := B.exec
  have hb := B.bytes
  have hr := B.returns
  have hts := atoms_spec (ws := v_c_X6_lay0) B.pre
  have hown : s.vm.findClass RX6 = some m.cls := findClass_of_methodNamed B.named
  have hlocks := B.notSynchronized
  subst hsz
  have hD := hD0.self (sz := s.heap.size)
  generalize hAe : va_A [(h0, .inr (5, [x0, x1, x2, x3, .ref t0, x5, x6, x7, x8, x9, x10, x11, x12, x13, x14, x15, x16, x17, x18])), (t0, .inr (2, [.ref fr, .ref al, .ref so, .ref lw, .int 0, .int 0])), (fr, .inl (k 0, 34, .inl (fun _ => 0))), (al, .inl (k 0, 34, .inl (fun _ => 0)))] s.heap.size = A at hD ⊢
  have hA : ∀ q : Nat, s.heap.size ≤ q → A q := fun q h => by rw [← hAe]; exact Or.inr h
  have hS : va_S A s.heap s.heap [] := va_S.rf
  have hP : va_P G vwCl [(h0, .inr (5, [x0, x1, x2, x3, .ref t0, x5, x6, x7, x8, x9, x10, x11, x12, x13, x14, x15, x16, x17, x18])), (t0, .inr (2, [.ref fr, .ref al, .ref so, .ref lw, .int 0, .int 0])), (fr, .inl (k 0, 34, .inl (fun _ => 0))), (al, .inl (k 0, 34, .inl (fun _ => 0)))] s.heap := hP
  refine hvar hP hS (fun H locs hP hS => ?_)
  have hl := lv_entry ([.ref h0, .int p0, .int p1]) (n := 3) (Nat.le_of_ble_eq_true rfl)
  rw [lg_entry_eq]
  generalize (lg_sl ([.ref h0, .int p0, .int p1]) ++ List.replicate (3 - (lg_sl ([.ref h0, .int p0, .int p1])).length) Slot.unset).toArray = ls at hl ⊢
  have hl : lv_has ls 3 [(0, .ref h0), (1, .int p0), (2, .int p1)] := hl
  refine lv_iload_n hx hb dX6_lay_0 rfl (lv_at hl 1 rfl) ?_
  have hPc := hP.sub (ws' := []) [] rfl
  refine q_calli (va_runS (As := [.int p0]) (rest := []) ⟨hx, hb, hml, hown, hts⟩ (c_X6_isKind l G k p0) (cwS 1 hts g_c_X6_lay0_c_X6_isKind_292 rfl rfl rfl (by decide +kernel) ⟨Nat.le_of_ble_eq_true rfl, Nat.le_of_ble_eq_true rfl⟩) ⟨pr_bl, pr_pre hPc hK hN⟩ rfl rfl hl.1 rfl (lv_room (Nat.le_of_ble_eq_true rfl)) dX6_lay_1 ⟨Nat.le_of_ble_eq_true rfl, Nat.le_of_ble_eq_true rfl⟩) (fun r1 hr1 => ?_)
  rcases hr1 with ⟨rfl, h2⟩ | ⟨rfl, h2⟩
  · skip
    refine lv_if_eq (tgt := 17) hx hb dX6_lay_4 (by decide) (fun c9 => absurd c9 (by decide)) (fun _ => ?_)
    refine lv_iload_n hx hb dX6_lay_7 rfl (lv_at hl 2 rfl) ?_
    refine lv_iconst (v := 1) hx hb dX6_lay_8 (by decide) ?_
    refine lv_icmp_lt (tgt := 17) hx hb dX6_lay_9 (by decide) (fun c3 => ?_) (fun c3 => ?_)
    · skip
      refine lv_iconst (v := 0) hx hb dX6_lay_17 (by decide) ?_
      refine W.widen (k := 0) (n := 0) (Nat.le_of_ble_eq_true rfl) (Nat.le_of_ble_eq_true rfl) ?_
      exact W.zret (v := 0) hx hb hr rfl (fun t ht hW => ⟨⟨0, (), rfl, Or.inr ⟨rfl, fun h9 => by first | exact absurd h9.1 (by assumption) | exact h9.2.1 (by assumption) | exact absurd h9.2.2 (by assumption)⟩, trivial⟩, hS.F ht⟩) hS.2.2 dX6_lay_18
    · skip
      refine lv_iload_n hx hb dX6_lay_12 rfl (lv_at hl 2 rfl) ?_
      refine lv_iconst (v := 4) hx hb dX6_lay_13 (by decide) ?_
      refine lv_icmp_le (tgt := 19) hx hb dX6_lay_14 (by decide) (fun c4 => ?_) (fun c4 => ?_)
      · skip
        refine lv_aload_n hx hb dX6_lay_19 rfl (lv_at hl 0 rfl) ?_
        refine va_get (D := G) (ci := 5) (v := .ref t0) (C := RX6) (T := TX6) (N := 19) hx hb hts i_c_X6_lay0_X6 hown hK hP 0 rfl rfl 4 (by decide) (hts (.fieldLink RX6 38 "TileHouse" "deskTiles" "LTileHouse$Tiles;") (by decide +kernel)) (fun _ h9 => h9) rfl dX6_lay_20 ?_
        refine lv_iload_n hx hb dX6_lay_23 rfl (lv_at hl 1 rfl) ?_
        have hPc := hP.sub (ws' := [(t0, .inr (2, [.ref fr, .ref al, .ref so, .ref lw, .int 0, .int 0])), (al, .inl (k 0, 34, .inl (fun _ => 0)))]) [1, 3] rfl
        refine q_calli (va_runV (As := [.int p0]) (rest := []) ⟨hx, hb, hml, hown, hts⟩ (c_X3_all l G k t0 al (fun _ => 0) p0 (.ref fr) (.ref so) (.ref lw) (.int 0) (.int 0)) (cwV 1 hts g_c_X6_lay0_c_X3_all_295 rfl rfl rfl (by decide +kernel) ⟨Nat.le_of_ble_eq_true rfl, Nat.le_of_ble_eq_true rfl⟩) ⟨pr_bl, va_recv hK hPc (ci := 2) (q0 := 0) rfl rfl, pr_pre hPc hK hN⟩ rfl rfl hl.1 rfl (lv_room (Nat.le_of_ble_eq_true rfl)) dX6_lay_24 ⟨Nat.le_of_ble_eq_true rfl, Nat.le_of_ble_eq_true rfl⟩) (fun r5 hr5 => ?_)
        obtain rfl : r5 = 0 := hr5.elim (fun q => q.2) (fun q => q.2)
        refine lv_iload_n hx hb dX6_lay_27 rfl (lv_at hl 2 rfl) ?_
        refine lv_iadd hx hb dX6_lay_28 ?_
        refine lv_topi (fun v6 ev6 => ?_)
        refine lv_iconst (v := 4) hx hb dX6_lay_29 (by decide) ?_
        refine lv_icmp_gt (tgt := 47) hx hb dX6_lay_30 (by decide) (fun c9 => absurd c9 (lay_le4 (by assumption) ev6)) (fun _ => ?_)
        refine lv_aload_n hx hb dX6_lay_33 rfl (lv_at hl 0 rfl) ?_
        refine va_get (D := G) (ci := 5) (v := .ref t0) (C := RX6) (T := TX6) (N := 19) hx hb hts i_c_X6_lay0_X6 hown hK hP 0 rfl rfl 4 (by decide) (hts (.fieldLink RX6 38 "TileHouse" "deskTiles" "LTileHouse$Tiles;") (by decide +kernel)) (fun _ h9 => h9) rfl dX6_lay_34 ?_
        have hPc := hP.sub (ws' := [(t0, .inr (2, [.ref fr, .ref al, .ref so, .ref lw, .int 0, .int 0]))]) [1] rfl
        refine q_calli (va_runV (As := []) (rest := []) ⟨hx, hb, hml, hown, hts⟩ (c_X3_size l G k t0 0 0 (.ref fr) (.ref al) (.ref so) (.ref lw)) (cwV 0 hts g_c_X6_lay0_c_X3_size_298 rfl rfl rfl (by decide +kernel) ⟨Nat.le_of_ble_eq_true rfl, Nat.le_of_ble_eq_true rfl⟩) ⟨pr_bl, va_recv hK hPc (ci := 2) (q0 := 0) rfl rfl, pr_pre hPc hK hN⟩ rfl rfl hl.1 rfl (lv_room (Nat.le_of_ble_eq_true rfl)) dX6_lay_37 ⟨Nat.le_of_ble_eq_true rfl, Nat.le_of_ble_eq_true rfl⟩) (fun r7 hr7 => ?_)
        obtain rfl : r7 = 0 := hr7.trans (by decide)
        refine lv_iload_n hx hb dX6_lay_40 rfl (lv_at hl 2 rfl) ?_
        refine lv_iadd hx hb dX6_lay_41 ?_
        refine lv_topi (fun v8 ev8 => ?_)
        refine lv_bipush (v := 14) hx hb dX6_lay_42 (by decide) ?_
        refine lv_icmp_le (tgt := 49) hx hb dX6_lay_44 (by decide) (fun _ => ?_) (fun c9 => absurd (lay_le14 (by assumption) ev8) c9)
        refine lv_aload_n hx hb dX6_lay_49 rfl (lv_at hl 0 rfl) ?_
        refine va_get (D := G) (ci := 5) (v := .ref t0) (C := RX6) (T := TX6) (N := 19) hx hb hts i_c_X6_lay0_X6 hown hK hP 0 rfl rfl 4 (by decide) (hts (.fieldLink RX6 38 "TileHouse" "deskTiles" "LTileHouse$Tiles;") (by decide +kernel)) (fun _ h9 => h9) rfl dX6_lay_50 ?_
        refine lv_iload_n hx hb dX6_lay_53 rfl (lv_at hl 1 rfl) ?_
        refine lv_iload_n hx hb dX6_lay_54 rfl (lv_at hl 2 rfl) ?_
        have hPc := hP.sub (ws' := [(t0, .inr (2, [.ref fr, .ref al, .ref so, .ref lw, .int 0, .int 0])), (fr, .inl (k 0, 34, .inl (fun _ => 0))), (al, .inl (k 0, 34, .inl (fun _ => 0)))]) [1, 2, 3] rfl
        have hDc := hD.sub (ws' := [(t0, .inr (2, [.ref fr, .ref al, .ref so, .ref lw, .int 0, .int 0])), (fr, .inl (k 0, 34, .inl (fun _ => 0))), (al, .inl (k 0, 34, .inl (fun _ => 0)))]) [1, 2, 3] (by decide) rfl
        have hFc := va_free (wc := [(t0, .inr (2, [.ref fr, .ref al, .ref so, .ref lw, .int 0, .int 0])), (fr, .inl (k 0, 34, .inl (fun _ => 0))), (al, .inl (k 0, 34, .inl (fun _ => 0)))]) hD hS hA [1, 2, 3] rfl
        refine va_callv (va_runV (As := [.int p0, .int p1]) (rest := []) ⟨hx, hb, hml, hown, hts⟩ (c_X3_put l G k H.size t0 fr al (fun _ => 0) (fun _ => 0) 0 p0 p1 (.ref so) (.ref lw) (.int 0)) (cwV 2 hts g_c_X6_lay0_c_X3_put_79 rfl rfl rfl (by decide +kernel) ⟨Nat.le_of_ble_eq_true rfl, Nat.le_of_ble_eq_true rfl⟩) ⟨pq_bl, va_recv hK hPc (ci := 2) (q0 := 0) rfl rfl, pq_pre hPc hDc hK hN⟩ rfl rfl hl.1 rfl (lv_room (Nat.le_of_ble_eq_true rfl)) dX6_lay_55 ⟨Nat.le_of_ble_eq_true rfl, Nat.le_of_ble_eq_true rfl⟩) hS (fun q _ h => hFc q h) hFc (fun ur9 t H1 locs ht hvm hr9 hB hz1 hk1 hS => ?_)
        obtain ⟨f10, g11, w12⟩ := ur9
        obtain ⟨hP1, hD1⟩ := hB
        rw [ht] at hP1
        obtain ⟨hP, hD⟩ := va_join (wr := [(h0, .inr (5, [x0, x1, x2, x3, .ref t0, x5, x6, x7, x8, x9, x10, x11, x12, x13, x14, x15, x16, x17, x18]))]) (w1 := [(t0, .inr (2, [.ref fr, .ref al, .ref so, .ref lw, .int 0, .int w12])), (fr, .inl (k 0, 34, .inl f10)), (al, .inl (k 0, 34, .inl g11))]) hP hD [1, 2, 3] [0] rfl rfl (by decide) (by decide) hk1 hFc hP1 hD1
        clear hP1 hD1
        generalize H1 = H at hP hS ⊢
        replace hP : va_P G vwCl [(h0, .inr (5, [x0, x1, x2, x3, .ref t0, x5, x6, x7, x8, x9, x10, x11, x12, x13, x14, x15, x16, x17, x18])), (t0, .inr (2, [.ref fr, .ref al, .ref so, .ref lw, .int 0, .int w12])), (fr, .inl (k 0, 34, .inl f10)), (al, .inl (k 0, 34, .inl g11))] H := hP
        replace hD : va_D A [(h0, .inr (5, [x0, x1, x2, x3, .ref t0, x5, x6, x7, x8, x9, x10, x11, x12, x13, x14, x15, x16, x17, x18])), (t0, .inr (2, [.ref fr, .ref al, .ref so, .ref lw, .int 0, .int w12])), (fr, .inl (k 0, 34, .inl f10)), (al, .inl (k 0, 34, .inl g11))] := hD
        refine lv_iconst (v := 1) hx hb dX6_lay_58 (by decide) ?_
        refine W.widen (k := 0) (n := 0) (Nat.le_of_ble_eq_true rfl) (Nat.le_of_ble_eq_true rfl) ?_
        exact W.zret (v := 1) hx hb hr rfl (fun t ht hW => ⟨⟨1, (), rfl, Or.inl ⟨rfl, h2, by assumption, by assumption⟩, trivial⟩, hS.F ht⟩) hS.2.2 dX6_lay_59
      · skip
        refine lv_iconst (v := 0) hx hb dX6_lay_17 (by decide) ?_
        refine W.widen (k := 0) (n := 0) (Nat.le_of_ble_eq_true rfl) (Nat.le_of_ble_eq_true rfl) ?_
        exact W.zret (v := 0) hx hb hr rfl (fun t ht hW => ⟨⟨0, (), rfl, Or.inr ⟨rfl, fun h9 => by first | exact absurd h9.1 (by assumption) | exact h9.2.1 (by assumption) | exact absurd h9.2.2 (by assumption)⟩, trivial⟩, hS.F ht⟩) hS.2.2 dX6_lay_18
  · skip
    refine lv_if_eq (tgt := 17) hx hb dX6_lay_4 (by decide) (fun _ => ?_) (fun c9 => absurd (by decide) c9)
    refine lv_iconst (v := 0) hx hb dX6_lay_17 (by decide) ?_
    refine W.widen (k := 0) (n := 0) (Nat.le_of_ble_eq_true rfl) (Nat.le_of_ble_eq_true rfl) ?_
    exact W.zret (v := 0) hx hb hr rfl (fun t ht hW => ⟨⟨0, (), rfl, Or.inr ⟨rfl, fun h9 => by first | exact absurd h9.1 (by assumption) | exact h9.2.1 (by assumption) | exact absurd h9.2.2 (by assumption)⟩, trivial⟩, hS.F ht⟩) hS.2.2 dX6_lay_18
def v_c_X1_judge0 : List Cond := .code yX1_judge cX1_judge 11 none :: ([.fieldLink RX1 21 "TileHouse$Judge" "base" "I", .fieldLink RX1 25 "TileHouse$Judge" "han" "I", .fieldLink RX1 28 "TileHouse$Judge" "fu" "I", .fieldLink RX1 31 "TileHouse$Judge" "best" "J", .fieldLink RX1 35 "TileHouse$Judge" "ways" "I", .methodLink RX1 38 yX3_size, .instanceMethod yX3_size, .selects RX3 yX3_size yX3_size, .initialized RX3] ++ (wsX10 ++ (v_c_X3_size ++ ([]))))
theorem vg_c_X1_judge0 : ∀ w ∈ v_c_X1_judge0, goodWord w = true := vg_c (c := .code yX1_judge cX1_judge 11 none) (l := [.fieldLink RX1 21 "TileHouse$Judge" "base" "I", .fieldLink RX1 25 "TileHouse$Judge" "han" "I", .fieldLink RX1 28 "TileHouse$Judge" "fu" "I", .fieldLink RX1 31 "TileHouse$Judge" "best" "J", .fieldLink RX1 35 "TileHouse$Judge" "ways" "I", .methodLink RX1 38 yX3_size, .instanceMethod yX3_size, .selects RX3 yX3_size yX3_size, .initialized RX3]) (by decide +kernel) (vg_a vgX1 (vg_a vg_c_X3_size (vg_nil)))
theorem i_c_X1_judge0_X1 : ∀ w ∈ u_ws RX1 TX1 19, w ∈ v_c_X1_judge0 := fun _ h => List.mem_cons_of_mem _ (List.mem_append_right _ (List.mem_append_left _ h))
theorem g_c_X1_judge0_c_X3_size_38 : GoodIn v_c_X1_judge0 (wsV RX1 38 RX3 yX3_size v_c_X3_size) := goodIn_app (goodIn_of _ (by decide +kernel)) (fun w h => ⟨List.mem_cons_of_mem _ (List.mem_append_right _ (List.mem_append_right _ (List.mem_append_left _ h))), good_of_word (vg_c_X3_size w h)⟩)
set_option maxHeartbeats 4000000 in
set_option maxRecDepth 100000 in
theorem c_X1_judge0 (l : Launch) (G : va_G) (k : Nat → ClassId) (sz : Nat) (h0 : Nat) (t0 : Nat) (p0 : Int32) (p1 : Int32) (p2 : Int64) (p3 : Int32) (p4 : Int32) (x5 : Value) (x6 : Value) (x7 : Value) (x8 : Value) (x9 : Value) (x10 : Value) (x11 : Value) (x12 : Value) (x13 : Value) (x14 : Value) (x15 : Value) (x16 : Value) (x17 : Value) (x18 : Value) (oz0 : Value) (oz1 : Value) (oz2 : Value) (oz3 : Value) : Met l yX1_judge v_c_X1_judge0 ({ frames := 1, cells := 0, slots := 0, locals := 20 }) (va_Pc [.ref h0, .ref t0, .int p0, .int p1, .long p2, .int p3, .int p4] (pq G k [(h0, .inr (0, [.int 0, .int 0, .int 0, .long 0, .int 0, x5, x6, x7, x8, x9, x10, x11, x12, x13, x14, x15, x16, x17, x18])), (t0, .inr (2, [oz0, oz1, oz2, oz3, .int 0, .int 0]))] sz)) (va_Qv (fun _ : Unit => True) (fun (_ : Unit) => pt G (va_A [(h0, .inr (0, [.int 0, .int 0, .int 0, .long 0, .int 0, x5, x6, x7, x8, x9, x10, x11, x12, x13, x14, x15, x16, x17, x18])), (t0, .inr (2, [oz0, oz1, oz2, oz3, .int 0, .int 0]))] sz) [(h0, .inr (0, [.int 0, .int 0, .int 0, .long 0, .int 0, x5, x6, x7, x8, x9, x10, x11, x12, x13, x14, x15, x16, x17, x18])), (t0, .inr (2, [oz0, oz1, oz2, oz3, .int 0, .int 0]))]) (va_A [(h0, .inr (0, [.int 0, .int 0, .int 0, .long 0, .int 0, x5, x6, x7, x8, x9, x10, x11, x12, x13, x14, x15, x16, x17, x18])), (t0, .inr (2, [oz0, oz1, oz2, oz3, .int 0, .int 0]))] sz)) 0 0 (va_A [(h0, .inr (0, [.int 0, .int 0, .int 0, .long 0, .int 0, x5, x6, x7, x8, x9, x10, x11, x12, x13, x14, x15, x16, x17, x18])), (t0, .inr (2, [oz0, oz1, oz2, oz3, .int 0, .int 0]))] sz) := by
  refine Met.ofW (cc := cX1_judge) (maxL := 11) (ret := none) (by decide) rfl ?_
  intro p e s m args below meth c s₁ B hml hv
  obtain ⟨rfl, hsz, ⟨hP, hK, hN⟩, hD0⟩ := hv
  have hx := B.exec
  have hb := B.bytes
  have hr := B.returns
  have hts := atoms_spec (ws := v_c_X1_judge0) B.pre
  have hown : s.vm.findClass RX1 = some m.cls := findClass_of_methodNamed B.named
  have hlocks := B.notSynchronized
  subst hsz
  have hD := hD0.self (sz := s.heap.size)
  generalize hAe : va_A [(h0, .inr (0, [.int 0, .int 0, .int 0, .long 0, .int 0, x5, x6, x7, x8, x9, x10, x11, x12, x13, x14, x15, x16, x17, x18])), (t0, .inr (2, [oz0, oz1, oz2, oz3, .int 0, .int 0]))] s.heap.size = A at hD ⊢
  have hA : ∀ q : Nat, s.heap.size ≤ q → A q := fun q h => by rw [← hAe]; exact Or.inr h
  have hS : va_S A s.heap s.heap [] := va_S.rf
  have hP : va_P G vwCl [(h0, .inr (0, [.int 0, .int 0, .int 0, .long 0, .int 0, x5, x6, x7, x8, x9, x10, x11, x12, x13, x14, x15, x16, x17, x18])), (t0, .inr (2, [oz0, oz1, oz2, oz3, .int 0, .int 0]))] s.heap := hP
  refine hvar hP hS (fun H locs hP hS => ?_)
  have hl := lv_entry ([.ref h0, .ref t0, .int p0, .int p1, .long p2, .int p3, .int p4]) (n := 11) (Nat.le_of_ble_eq_true rfl)
  rw [lg_entry_eq]
  generalize (lg_sl ([.ref h0, .ref t0, .int p0, .int p1, .long p2, .int p3, .int p4]) ++ List.replicate (11 - (lg_sl ([.ref h0, .ref t0, .int p0, .int p1, .long p2, .int p3, .int p4])).length) Slot.unset).toArray = ls at hl ⊢
  have hl : lv_has ls 11 [(0, .ref h0), (1, .ref t0), (2, .int p0), (3, .int p1), (4, .long p2), (6, .int p3), (7, .int p4)] := hl
  refine lv_aload_n hx hb dX1_judge_0 rfl (lv_at hl 0 rfl) ?_
  refine lv_iconst (v := 0) hx hb dX1_judge_1 (by decide) ?_
  refine va_put (D := G) (ci := 0) (v := .int 0) (ty := .int) (C := RX1) (T := TX1) (N := 19) hx hb hts i_c_X1_judge0_X1 tyX1 tyX1_ok nmX1 hown hK hP hD hS 0 rfl rfl 0 (by decide) (hts (.fieldLink RX1 21 "TileHouse$Judge" "base" "I") (by decide +kernel)) (fun _ h9 => h9) rfl (by decide +kernel) rfl rfl (Nat.le_of_ble_eq_true rfl) dX1_judge_2 (fun H locs hP hD hS => ?_)
  replace hP : va_P G vwCl [(h0, .inr (0, [.int 0, .int 0, .int 0, .long 0, .int 0, x5, x6, x7, x8, x9, x10, x11, x12, x13, x14, x15, x16, x17, x18])), (t0, .inr (2, [oz0, oz1, oz2, oz3, .int 0, .int 0]))] H := hP
  replace hD : va_D A [(h0, .inr (0, [.int 0, .int 0, .int 0, .long 0, .int 0, x5, x6, x7, x8, x9, x10, x11, x12, x13, x14, x15, x16, x17, x18])), (t0, .inr (2, [oz0, oz1, oz2, oz3, .int 0, .int 0]))] := hD
  refine lv_aload_n hx hb dX1_judge_5 rfl (lv_at hl 0 rfl) ?_
  refine lv_iconst (v := 0) hx hb dX1_judge_6 (by decide) ?_
  refine va_put (D := G) (ci := 0) (v := .int 0) (ty := .int) (C := RX1) (T := TX1) (N := 19) hx hb hts i_c_X1_judge0_X1 tyX1 tyX1_ok nmX1 hown hK hP hD hS 0 rfl rfl 1 (by decide) (hts (.fieldLink RX1 25 "TileHouse$Judge" "han" "I") (by decide +kernel)) (fun _ h9 => h9) rfl (by decide +kernel) rfl rfl (Nat.le_of_ble_eq_true rfl) dX1_judge_7 (fun H locs hP hD hS => ?_)
  replace hP : va_P G vwCl [(h0, .inr (0, [.int 0, .int 0, .int 0, .long 0, .int 0, x5, x6, x7, x8, x9, x10, x11, x12, x13, x14, x15, x16, x17, x18])), (t0, .inr (2, [oz0, oz1, oz2, oz3, .int 0, .int 0]))] H := hP
  replace hD : va_D A [(h0, .inr (0, [.int 0, .int 0, .int 0, .long 0, .int 0, x5, x6, x7, x8, x9, x10, x11, x12, x13, x14, x15, x16, x17, x18])), (t0, .inr (2, [oz0, oz1, oz2, oz3, .int 0, .int 0]))] := hD
  refine lv_aload_n hx hb dX1_judge_10 rfl (lv_at hl 0 rfl) ?_
  refine lv_iconst (v := 0) hx hb dX1_judge_11 (by decide) ?_
  refine va_put (D := G) (ci := 0) (v := .int 0) (ty := .int) (C := RX1) (T := TX1) (N := 19) hx hb hts i_c_X1_judge0_X1 tyX1 tyX1_ok nmX1 hown hK hP hD hS 0 rfl rfl 2 (by decide) (hts (.fieldLink RX1 28 "TileHouse$Judge" "fu" "I") (by decide +kernel)) (fun _ h9 => h9) rfl (by decide +kernel) rfl rfl (Nat.le_of_ble_eq_true rfl) dX1_judge_12 (fun H locs hP hD hS => ?_)
  replace hP : va_P G vwCl [(h0, .inr (0, [.int 0, .int 0, .int 0, .long 0, .int 0, x5, x6, x7, x8, x9, x10, x11, x12, x13, x14, x15, x16, x17, x18])), (t0, .inr (2, [oz0, oz1, oz2, oz3, .int 0, .int 0]))] H := hP
  replace hD : va_D A [(h0, .inr (0, [.int 0, .int 0, .int 0, .long 0, .int 0, x5, x6, x7, x8, x9, x10, x11, x12, x13, x14, x15, x16, x17, x18])), (t0, .inr (2, [oz0, oz1, oz2, oz3, .int 0, .int 0]))] := hD
  refine lv_aload_n hx hb dX1_judge_15 rfl (lv_at hl 0 rfl) ?_
  refine lv_lconst (v := 0) hx hb dX1_judge_16 (by decide) ?_
  refine va_put (D := G) (ci := 0) (v := .long 0) (ty := .long) (C := RX1) (T := TX1) (N := 19) hx hb hts i_c_X1_judge0_X1 tyX1 tyX1_ok nmX1 hown hK hP hD hS 0 rfl rfl 3 (by decide) (hts (.fieldLink RX1 31 "TileHouse$Judge" "best" "J") (by decide +kernel)) (fun _ h9 => h9) rfl (by decide +kernel) rfl rfl (Nat.le_of_ble_eq_true rfl) dX1_judge_17 (fun H locs hP hD hS => ?_)
  replace hP : va_P G vwCl [(h0, .inr (0, [.int 0, .int 0, .int 0, .long 0, .int 0, x5, x6, x7, x8, x9, x10, x11, x12, x13, x14, x15, x16, x17, x18])), (t0, .inr (2, [oz0, oz1, oz2, oz3, .int 0, .int 0]))] H := hP
  replace hD : va_D A [(h0, .inr (0, [.int 0, .int 0, .int 0, .long 0, .int 0, x5, x6, x7, x8, x9, x10, x11, x12, x13, x14, x15, x16, x17, x18])), (t0, .inr (2, [oz0, oz1, oz2, oz3, .int 0, .int 0]))] := hD
  refine lv_aload_n hx hb dX1_judge_20 rfl (lv_at hl 0 rfl) ?_
  refine lv_iconst (v := 0) hx hb dX1_judge_21 (by decide) ?_
  refine va_put (D := G) (ci := 0) (v := .int 0) (ty := .int) (C := RX1) (T := TX1) (N := 19) hx hb hts i_c_X1_judge0_X1 tyX1 tyX1_ok nmX1 hown hK hP hD hS 0 rfl rfl 4 (by decide) (hts (.fieldLink RX1 35 "TileHouse$Judge" "ways" "I") (by decide +kernel)) (fun _ h9 => h9) rfl (by decide +kernel) rfl rfl (Nat.le_of_ble_eq_true rfl) dX1_judge_22 (fun H locs hP hD hS => ?_)
  replace hP : va_P G vwCl [(h0, .inr (0, [.int 0, .int 0, .int 0, .long 0, .int 0, x5, x6, x7, x8, x9, x10, x11, x12, x13, x14, x15, x16, x17, x18])), (t0, .inr (2, [oz0, oz1, oz2, oz3, .int 0, .int 0]))] H := hP
  replace hD : va_D A [(h0, .inr (0, [.int 0, .int 0, .int 0, .long 0, .int 0, x5, x6, x7, x8, x9, x10, x11, x12, x13, x14, x15, x16, x17, x18])), (t0, .inr (2, [oz0, oz1, oz2, oz3, .int 0, .int 0]))] := hD
  refine lv_aload_n hx hb dX1_judge_25 rfl (lv_at hl 1 rfl) ?_
  refine lv_ifnull hx hb dX1_judge_26 ?_
  refine lv_aload_n hx hb dX1_judge_29 rfl (lv_at hl 1 rfl) ?_
  have hPc := hP.sub (ws' := [(t0, .inr (2, [oz0, oz1, oz2, oz3, .int 0, .int 0]))]) [1] rfl
  refine q_calli (va_runV (As := []) (rest := []) ⟨hx, hb, hml, hown, hts⟩ (c_X3_size l G k t0 0 0 (oz0) (oz1) (oz2) (oz3)) (cwV 0 hts g_c_X1_judge0_c_X3_size_38 rfl rfl rfl (by decide +kernel) ⟨Nat.le_of_ble_eq_true rfl, Nat.le_of_ble_eq_true rfl⟩) ⟨pr_bl, va_recv hK hPc (ci := 2) (q0 := 0) rfl rfl, pr_pre hPc hK hN⟩ rfl rfl hl.1 rfl (lv_room (Nat.le_of_ble_eq_true rfl)) dX1_judge_30 ⟨Nat.le_of_ble_eq_true rfl, Nat.le_of_ble_eq_true rfl⟩) (fun r1 hr1 => ?_)
  obtain rfl : r1 = 0 := hr1.trans (by decide)
  refine lv_bipush (v := 14) hx hb dX1_judge_33 (by decide) ?_
  refine lv_icmp_ne (tgt := 46) hx hb dX1_judge_35 (by decide) (fun _ => ?_) (fun c9 => absurd c9 (by decide))
  refine W.widen (k := 0) (n := 0) (Nat.le_of_ble_eq_true rfl) (Nat.le_of_ble_eq_true rfl) ?_
  exact W.vret hx hb hr (fun t ht hW => ⟨⟨(), rfl, trivial, ⟨by rw [ht]; exact hP.sub [0, 1] rfl, hD.sub [0, 1] (by decide) rfl⟩⟩, hS.F ht⟩) hS.2.2 dX1_judge_46
def v_c_X6_worth0 : List Cond := .code yX6_worth cX6_worth 7 (some .int) :: ([.fieldLink RX6 42 "TileHouse" "deskJudge" "LTileHouse$Judge;", .fieldLink RX6 38 "TileHouse" "deskTiles" "LTileHouse$Tiles;", .methodLink RX6 304 yX1_judge, .instanceMethod yX1_judge, .selects RX1 yX1_judge yX1_judge, .initialized RX1, .fieldLink RX6 194 "TileHouse$Judge" "base" "I"] ++ (wsX60 ++ (v_c_X1_judge0 ++ (wsX10 ++ ([])))))
theorem vg_c_X6_worth0 : ∀ w ∈ v_c_X6_worth0, goodWord w = true := vg_c (c := .code yX6_worth cX6_worth 7 (some .int)) (l := [.fieldLink RX6 42 "TileHouse" "deskJudge" "LTileHouse$Judge;", .fieldLink RX6 38 "TileHouse" "deskTiles" "LTileHouse$Tiles;", .methodLink RX6 304 yX1_judge, .instanceMethod yX1_judge, .selects RX1 yX1_judge yX1_judge, .initialized RX1, .fieldLink RX6 194 "TileHouse$Judge" "base" "I"]) (by decide +kernel) (vg_a vgX6 (vg_a vg_c_X1_judge0 (vg_a vgX1 (vg_nil))))
theorem i_c_X6_worth0_X6 : ∀ w ∈ u_ws RX6 TX6 19, w ∈ v_c_X6_worth0 := fun _ h => List.mem_cons_of_mem _ (List.mem_append_right _ (List.mem_append_left _ h))
theorem i_c_X6_worth0_X1 : ∀ w ∈ u_ws RX1 TX1 19, w ∈ v_c_X6_worth0 := fun _ h => List.mem_cons_of_mem _ (List.mem_append_right _ (List.mem_append_right _ (List.mem_append_right _ (List.mem_append_left _ h))))
theorem g_c_X6_worth0_c_X1_judge0_304 : GoodIn v_c_X6_worth0 (wsV RX6 304 RX1 yX1_judge v_c_X1_judge0) := goodIn_app (goodIn_of _ (by decide +kernel)) (fun w h => ⟨List.mem_cons_of_mem _ (List.mem_append_right _ (List.mem_append_right _ (List.mem_append_left _ h))), good_of_word (vg_c_X1_judge0 w h)⟩)
set_option maxHeartbeats 4000000 in
set_option maxRecDepth 100000 in
theorem c_X6_worth0 (l : Launch) (G : va_G) (k : Nat → ClassId) (sz : Nat) (h0 : Nat) (t0 : Nat) (dj : Nat) (p0 : Int32) (p1 : Int32) (p2 : Int64) (p3 : Int32) (p4 : Int32) (x0 : Value) (x1 : Value) (x2 : Value) (x3 : Value) (x6 : Value) (x7 : Value) (x8 : Value) (x9 : Value) (x10 : Value) (x11 : Value) (x12 : Value) (x13 : Value) (x14 : Value) (x15 : Value) (x16 : Value) (x17 : Value) (x18 : Value) (oy5 : Value) (oy6 : Value) (oy7 : Value) (oy8 : Value) (oy9 : Value) (oy10 : Value) (oy11 : Value) (oy12 : Value) (oy13 : Value) (oy14 : Value) (oy15 : Value) (oy16 : Value) (oy17 : Value) (oy18 : Value) (oz0 : Value) (oz1 : Value) (oz2 : Value) (oz3 : Value) : Met l yX6_worth v_c_X6_worth0 ({ frames := 2, cells := 0, slots := 0, locals := 50 }) (va_Pc [.ref h0, .int p0, .int p1, .long p2, .int p3, .int p4] (pq G k [(h0, .inr (5, [x0, x1, x2, x3, .ref t0, .ref dj, x6, x7, x8, x9, x10, x11, x12, x13, x14, x15, x16, x17, x18])), (dj, .inr (0, [.int 0, .int 0, .int 0, .long 0, .int 0, oy5, oy6, oy7, oy8, oy9, oy10, oy11, oy12, oy13, oy14, oy15, oy16, oy17, oy18])), (t0, .inr (2, [oz0, oz1, oz2, oz3, .int 0, .int 0]))] sz)) (va_Qi (fun r (_ : Unit) => r = 0) (fun (_ : Unit) _ => True) (va_A [(h0, .inr (5, [x0, x1, x2, x3, .ref t0, .ref dj, x6, x7, x8, x9, x10, x11, x12, x13, x14, x15, x16, x17, x18])), (dj, .inr (0, [.int 0, .int 0, .int 0, .long 0, .int 0, oy5, oy6, oy7, oy8, oy9, oy10, oy11, oy12, oy13, oy14, oy15, oy16, oy17, oy18])), (t0, .inr (2, [oz0, oz1, oz2, oz3, .int 0, .int 0]))] sz)) 0 0 (va_A [(h0, .inr (5, [x0, x1, x2, x3, .ref t0, .ref dj, x6, x7, x8, x9, x10, x11, x12, x13, x14, x15, x16, x17, x18])), (dj, .inr (0, [.int 0, .int 0, .int 0, .long 0, .int 0, oy5, oy6, oy7, oy8, oy9, oy10, oy11, oy12, oy13, oy14, oy15, oy16, oy17, oy18])), (t0, .inr (2, [oz0, oz1, oz2, oz3, .int 0, .int 0]))] sz) := by
  refine Met.ofW (cc := cX6_worth) (maxL := 7) (ret := (some .int)) (by decide) rfl ?_
  intro p e s m args below meth c s₁ B hml hv
  obtain ⟨rfl, hsz, ⟨hP, hK, hN⟩, hD0⟩ := hv
  have hx := B.exec
  have hb := B.bytes
  have hr := B.returns
  have hts := atoms_spec (ws := v_c_X6_worth0) B.pre
  have hown : s.vm.findClass RX6 = some m.cls := findClass_of_methodNamed B.named
  have hlocks := B.notSynchronized
  subst hsz
  have hD := hD0.self (sz := s.heap.size)
  generalize hAe : va_A [(h0, .inr (5, [x0, x1, x2, x3, .ref t0, .ref dj, x6, x7, x8, x9, x10, x11, x12, x13, x14, x15, x16, x17, x18])), (dj, .inr (0, [.int 0, .int 0, .int 0, .long 0, .int 0, oy5, oy6, oy7, oy8, oy9, oy10, oy11, oy12, oy13, oy14, oy15, oy16, oy17, oy18])), (t0, .inr (2, [oz0, oz1, oz2, oz3, .int 0, .int 0]))] s.heap.size = A at hD ⊢
  have hA : ∀ q : Nat, s.heap.size ≤ q → A q := fun q h => by rw [← hAe]; exact Or.inr h
  have hS : va_S A s.heap s.heap [] := va_S.rf
  have hP : va_P G vwCl [(h0, .inr (5, [x0, x1, x2, x3, .ref t0, .ref dj, x6, x7, x8, x9, x10, x11, x12, x13, x14, x15, x16, x17, x18])), (dj, .inr (0, [.int 0, .int 0, .int 0, .long 0, .int 0, oy5, oy6, oy7, oy8, oy9, oy10, oy11, oy12, oy13, oy14, oy15, oy16, oy17, oy18])), (t0, .inr (2, [oz0, oz1, oz2, oz3, .int 0, .int 0]))] s.heap := hP
  refine hvar hP hS (fun H locs hP hS => ?_)
  have hl := lv_entry ([.ref h0, .int p0, .int p1, .long p2, .int p3, .int p4]) (n := 7) (Nat.le_of_ble_eq_true rfl)
  rw [lg_entry_eq]
  generalize (lg_sl ([.ref h0, .int p0, .int p1, .long p2, .int p3, .int p4]) ++ List.replicate (7 - (lg_sl ([.ref h0, .int p0, .int p1, .long p2, .int p3, .int p4])).length) Slot.unset).toArray = ls at hl ⊢
  have hl : lv_has ls 7 [(0, .ref h0), (1, .int p0), (2, .int p1), (3, .long p2), (5, .int p3), (6, .int p4)] := hl
  refine lv_aload_n hx hb dX6_worth_0 rfl (lv_at hl 0 rfl) ?_
  refine va_get (D := G) (ci := 5) (v := .ref dj) (C := RX6) (T := TX6) (N := 19) hx hb hts i_c_X6_worth0_X6 hown hK hP 0 rfl rfl 5 (by decide) (hts (.fieldLink RX6 42 "TileHouse" "deskJudge" "LTileHouse$Judge;") (by decide +kernel)) (fun _ h9 => h9) rfl dX6_worth_1 ?_
  refine lv_aload_n hx hb dX6_worth_4 rfl (lv_at hl 0 rfl) ?_
  refine va_get (D := G) (ci := 5) (v := .ref t0) (C := RX6) (T := TX6) (N := 19) hx hb hts i_c_X6_worth0_X6 hown hK hP 0 rfl rfl 4 (by decide) (hts (.fieldLink RX6 38 "TileHouse" "deskTiles" "LTileHouse$Tiles;") (by decide +kernel)) (fun _ h9 => h9) rfl dX6_worth_5 ?_
  refine lv_iload_n hx hb dX6_worth_8 rfl (lv_at hl 1 rfl) ?_
  refine lv_iload_n hx hb dX6_worth_9 rfl (lv_at hl 2 rfl) ?_
  refine lv_lload_n hx hb dX6_worth_10 rfl (lv_at hl 3 rfl) ?_
  refine lv_iload hx hb dX6_worth_11 (lv_at hl 4 rfl) ?_
  refine lv_iload hx hb dX6_worth_13 (lv_at hl 5 rfl) ?_
  refine lv_bipush (v := 63) hx hb dX6_worth_15 (by decide) ?_
  refine lv_iand hx hb dX6_worth_17 ?_
  refine lv_topi (fun v1 ev1 => ?_)
  have hPc := hP.sub (ws' := [(dj, .inr (0, [.int 0, .int 0, .int 0, .long 0, .int 0, oy5, oy6, oy7, oy8, oy9, oy10, oy11, oy12, oy13, oy14, oy15, oy16, oy17, oy18])), (t0, .inr (2, [oz0, oz1, oz2, oz3, .int 0, .int 0]))]) [1, 2] rfl
  have hDc := hD.sub (ws' := [(dj, .inr (0, [.int 0, .int 0, .int 0, .long 0, .int 0, oy5, oy6, oy7, oy8, oy9, oy10, oy11, oy12, oy13, oy14, oy15, oy16, oy17, oy18])), (t0, .inr (2, [oz0, oz1, oz2, oz3, .int 0, .int 0]))]) [1, 2] (by decide) rfl
  have hFc := va_free (wc := [(dj, .inr (0, [.int 0, .int 0, .int 0, .long 0, .int 0, oy5, oy6, oy7, oy8, oy9, oy10, oy11, oy12, oy13, oy14, oy15, oy16, oy17, oy18])), (t0, .inr (2, [oz0, oz1, oz2, oz3, .int 0, .int 0]))]) hD hS hA [1, 2] rfl
  refine va_callv (va_runV (As := [.ref t0, .int p0, .int p1, .long p2, .int p3, .int v1]) (rest := []) ⟨hx, hb, hml, hown, hts⟩ (c_X1_judge0 l G k H.size dj t0 p0 p1 p2 p3 v1 (oy5) (oy6) (oy7) (oy8) (oy9) (oy10) (oy11) (oy12) (oy13) (oy14) (oy15) (oy16) (oy17) (oy18) (oz0) (oz1) (oz2) (oz3)) (cwV 6 hts g_c_X6_worth0_c_X1_judge0_304 rfl rfl rfl (by decide +kernel) ⟨Nat.le_of_ble_eq_true rfl, Nat.le_of_ble_eq_true rfl⟩) ⟨pq_bl, va_recv hK hPc (ci := 0) (q0 := 0) rfl rfl, pq_pre hPc hDc hK hN⟩ rfl rfl hl.1 rfl (lv_room (Nat.le_of_ble_eq_true rfl)) dX6_worth_18 ⟨Nat.le_of_ble_eq_true rfl, Nat.le_of_ble_eq_true rfl⟩) hS (fun q _ h => hFc q h) hFc (fun ur2 t H1 locs ht hvm hr2 hB hz1 hk1 hS => ?_)
  obtain ⟨hP1, hD1⟩ := hB
  rw [ht] at hP1
  obtain ⟨hP, hD⟩ := va_join (wr := [(h0, .inr (5, [x0, x1, x2, x3, .ref t0, .ref dj, x6, x7, x8, x9, x10, x11, x12, x13, x14, x15, x16, x17, x18]))]) (w1 := [(dj, .inr (0, [.int 0, .int 0, .int 0, .long 0, .int 0, oy5, oy6, oy7, oy8, oy9, oy10, oy11, oy12, oy13, oy14, oy15, oy16, oy17, oy18])), (t0, .inr (2, [oz0, oz1, oz2, oz3, .int 0, .int 0]))]) hP hD [1, 2] [0] rfl rfl (by decide) (by decide) hk1 hFc hP1 hD1
  clear hP1 hD1
  generalize H1 = H at hP hS ⊢
  replace hP : va_P G vwCl [(h0, .inr (5, [x0, x1, x2, x3, .ref t0, .ref dj, x6, x7, x8, x9, x10, x11, x12, x13, x14, x15, x16, x17, x18])), (dj, .inr (0, [.int 0, .int 0, .int 0, .long 0, .int 0, oy5, oy6, oy7, oy8, oy9, oy10, oy11, oy12, oy13, oy14, oy15, oy16, oy17, oy18])), (t0, .inr (2, [oz0, oz1, oz2, oz3, .int 0, .int 0]))] H := hP
  replace hD : va_D A [(h0, .inr (5, [x0, x1, x2, x3, .ref t0, .ref dj, x6, x7, x8, x9, x10, x11, x12, x13, x14, x15, x16, x17, x18])), (dj, .inr (0, [.int 0, .int 0, .int 0, .long 0, .int 0, oy5, oy6, oy7, oy8, oy9, oy10, oy11, oy12, oy13, oy14, oy15, oy16, oy17, oy18])), (t0, .inr (2, [oz0, oz1, oz2, oz3, .int 0, .int 0]))] := hD
  refine lv_aload_n hx hb dX6_worth_21 rfl (lv_at hl 0 rfl) ?_
  refine va_get (D := G) (ci := 5) (v := .ref dj) (C := RX6) (T := TX6) (N := 19) hx hb hts i_c_X6_worth0_X6 hown hK hP 0 rfl rfl 5 (by decide) (hts (.fieldLink RX6 42 "TileHouse" "deskJudge" "LTileHouse$Judge;") (by decide +kernel)) (fun _ h9 => h9) rfl dX6_worth_22 ?_
  refine va_get (D := G) (ci := 0) (v := .int 0) (C := RX1) (T := TX1) (N := 19) hx hb hts i_c_X6_worth0_X1 hown hK hP 1 rfl rfl 0 (by decide) (hts (.fieldLink RX6 194 "TileHouse$Judge" "base" "I") (by decide +kernel)) (fun _ h9 => h9) rfl dX6_worth_25 ?_
  refine W.widen (k := 0) (n := 0) (Nat.le_of_ble_eq_true rfl) (Nat.le_of_ble_eq_true rfl) ?_
  exact W.iret (v := 0) hx hb hr (fun t ht hW => ⟨⟨0, (), rfl, rfl, trivial⟩, hS.F ht⟩) hS.2.2 dX6_worth_28

/-! river and wall: the throw, and the law that catches it -/
noncomputable def a_Ze : List (Nat × Nat × List Nat) := []
noncomputable def bk_X6_at : aQ := (24, [(2, (0, 0), [0], (0, 0)), ai], [], [], (2, (0, 0), [18, 26, 34, 42], (0, 0)))
noncomputable def bc_X6_at : List aC := []
set_option maxRecDepth 1000000 in
theorem bg_X6_at : a_good (a_Ks.take 139) (a_Ze, a_Zs) bk_X6_at bc_X6_at 2000 4 6 = true := by decide +kernel
theorem bs_X6_at {d : Nat} (hd : 700 ≤ d) : a_sound d bk_X6_at := a_sound_up (a_good_ok aK_all bg_X6_at) hd
noncomputable def bk_X6_isSeat : aQ := (30, [ai], [], [], (0, (0, 1), [], (0, 0)))
noncomputable def bc_X6_isSeat : List aC := []
set_option maxRecDepth 1000000 in
theorem bg_X6_isSeat : a_good (a_Ks.take 139) (a_Ze, a_Zs) bk_X6_isSeat bc_X6_isSeat 2000 4 6 = true := by decide +kernel
theorem bs_X6_isSeat {d : Nat} (hd : 700 ≤ d) : a_sound d bk_X6_isSeat := a_sound_up (a_good_ok aK_all bg_X6_isSeat) hd
noncomputable def bk_X4_kindAt : aQ := (20, [(2, (0, 0), [2], (0, 0)), ai], [], [], ai)
noncomputable def bc_X4_kindAt : List aC := []
set_option maxRecDepth 1000000 in
theorem bg_X4_kindAt : a_good (a_Ks.take 139) (a_Ze, a_Zs) bk_X4_kindAt bc_X4_kindAt 2000 4 6 = true := by decide +kernel
theorem bs_X4_kindAt {d : Nat} (hd : 700 ≤ d) : a_sound d bk_X4_kindAt := a_sound_up (a_good_ok aK_all bg_X4_kindAt) hd
noncomputable def bk_X2_thrown : aQ := (12, [(2, (0, 0), [18, 26, 34, 42], (0, 0)), ai], [], [], ai)
noncomputable def bc_X2_thrown : List aC := []
set_option maxRecDepth 1000000 in
theorem bg_X2_thrown : a_good (a_Ks.take 139) (a_Ze, a_Zs) bk_X2_thrown bc_X2_thrown 2000 4 6 = true := by decide +kernel
theorem bs_X2_thrown {d : Nat} (hd : 700 ≤ d) : a_sound d bk_X2_thrown := a_sound_up (a_good_ok aK_all bg_X2_thrown) hd
noncomputable def cx_B : List Cond := [.declares (Bundle.initS "java/lang/RuntimeException"), .declares (Bundle.initS "java/lang/Exception"), .declares (Bundle.initS Bundle.tN), .castable cx_E cx_E]
theorem cx_ng : ∀ w ∈ cx_at.filter (fun w => !goodWord w), w ∈ cx_B := by decide +kernel
theorem cx_good : ∀ w ∈ Cond.classLink "TileHouse" 253 cx_E :: Cond.initialized cx_E :: cx_at, vx_ot w = true := by decide +kernel
theorem warmK {a b : String} {s U : State} (hW : s.WarmedH U.vm) (hZ : va_Nw (.castable a b) s) : va_Nw (.castable a b) U := va_tabs rfl (rfl : (s.setVm U.vm).vm = U.vm) (by rw [Cond.castable_setVm hW.alike]; exact hZ)
/-- what a throw asks of the start: three names declared, Throwable's two statics, the two texts -/
noncomputable def XW (A : Nat → Prop) (U : State) (H : Heap) : Prop := (va_Nw (.declares (Bundle.initS "java/lang/RuntimeException")) U ∧ va_Nw (.declares (Bundle.initS "java/lang/Exception")) U ∧ va_Nw (.declares (Bundle.initS Bundle.tN)) U ∧ va_Nw (.castable cx_E cx_E) U) ∧ (vx_Zq Bundle.tN "UNASSIGNED_STACK" Bundle.steD A U H ∧ vx_Zq Bundle.tN "SUPPRESSED_SENTINEL" Bundle.listD A U H) ∧ (∃ sa : Nat, vk_R "TileHouse" 255 "no such discard" sa U) ∧ (∃ sa : Nat, vk_R "TileHouse" 287 "no such place" sa U)
theorem XW.warm {A : Nat → Prop} {s U : State} {H : Heap} (h : XW A s H) (hW : s.WarmedH U.vm) : XW A U H := by
  obtain ⟨⟨d1, d2, d3, d4⟩, ⟨z1, z2⟩, ⟨sa, r1⟩, sb, r2⟩ := h
  exact ⟨⟨d1.warmD hW, d2.warmD hW, d3.warmD hW, warmK hW d4⟩, ⟨vx_Zq.moved hW.alike z1, vx_Zq.moved hW.alike z2⟩, ⟨sa, vk_R.warm hW r1⟩, sb, vk_R.warm hW r2⟩
theorem XW.same {A : Nat → Prop} {s U : State} {H : Heap} (h : XW A s H) (hv : s.vm = U.vm) : XW A U H := by
  obtain ⟨⟨d1, d2, d3, d4⟩, ⟨z1, z2⟩, ⟨sa, r1⟩, sb, r2⟩ := h
  have ha : s.vm.Alike U.vm := by rw [hv]; exact Vm.Alike.refl _
  exact ⟨⟨d1.same rfl hv, d2.same rfl hv, d3.same rfl hv, d4.same rfl hv⟩, ⟨vx_Zq.moved ha z1, vx_Zq.moved ha z2⟩, ⟨sa, vk_R.same hv.symm r1⟩, sb, vk_R.same hv.symm r2⟩
theorem XW.kept {A : Nat → Prop} {U : State} {H H1 : Heap} (h : XW A U H) (hq : ∀ a : Nat, a < H.size → ¬ A a → H1[a]? = H[a]?) : XW A U H1 := ⟨h.1, ⟨h.2.1.1.kept hq, h.2.1.2.kept hq⟩, h.2.2⟩
theorem XW.narrow {A B : Nat → Prop} {U : State} {H : Heap} (h : XW A U H) (hAB : ∀ q, B q → A q) : XW B U H := ⟨h.1, ⟨h.2.1.1.narrow hAB, h.2.1.2.narrow hAB⟩, h.2.2⟩
theorem tl_cx : ∀ w ∈ cx_at.filter goodWord, w ∈ TT := fun w h => List.mem_filter.mpr ⟨(by decide +kernel : ∀ w ∈ cx_at.filter goodWord, w ∈ lw_tbl) w h, (List.mem_filter.mp h).2⟩
noncomputable def pz (G : va_G) (k : Nat → ClassId) (a : Nat → Nat) (μ : zM) (sz : Nat) (U : State) : Prop := z_pq G k a 79 μ sz U ∧ XW (va_A (z_W a k 79 μ) sz) U U.heap
theorem pz_bl {av : List Value} {G : va_G} {k : Nat → ClassId} {a : Nat → Nat} {μ : zM} {sz : Nat} : FrameBlind (va_Pc av (pz G k a μ sz)) := fun v U g mk q => ⟨q.1, (z_pq_bl (av := av) v U g mk ⟨q.1, q.2.1⟩).2, q.2.2.same rfl⟩
theorem pz_pre {μ : zM} {av : List Value} {xs : Nat × (Nat → Int32)} {G : va_G} {k : Nat → ClassId} {a : Nat → Nat} {A : Nat → Prop} {s : State} {H : Heap} {locs : List Loc} (hP : va_P G vwCl (z_W a k 79 μ) H) (hD : ∀ μ, va_D A (z_W a k 79 μ)) (hK : va_K G vwCl (tyF k) s) (hN : NW s) (hRO : z_RO a xs A s s.heap) (hS : va_S A s.heap H locs) (hA : ∀ q, s.heap.size ≤ q → A q) (hX : XW A s s.heap) : ∀ U : State, U.heap = H → s.WarmedH U.vm → va_Pc av (pz G k a μ H.size) av.toArray U := fun U hU hW => ⟨rfl, (z_pq_pre (av := av) hP hD hK hN hRO hS hA U hU hW).2, by
  rw [hU]
  exact ((hX.kept hS.2.1).narrow (wZ_F (hD μ) hS hA)).warm hW⟩
theorem va_P_grow {D : va_G} {cl : List vw_C} {ws : va_W} {H H1 : Heap} (h : va_P D cl ws H) (hl : ∀ (k : Nat) (q : Nat × va_E), ws[k]? = some q → q.1 < H.size) (h2 : ∀ q : Nat, q < H.size → H1[q]? = H[q]?) : va_P D cl ws H1 := h.kept (fun k q hk => h2 q.1 (hl k q hk))
/-- a call by the object, from a method that the tables do not have -/
noncomputable def zv_V (oc idx j' na ci : Nat) : Prop := ((z_y j').cls ≠ "java/lang/invoke/MethodHandle" ∧ (z_y j').cls ≠ "java/lang/invoke/VarHandle") ∧ Cond.methodLink (z_own oc) idx (z_y j') ∈ TT ∧ Cond.instanceMethod (z_y j') ∈ TT ∧ Cond.selects (z_y j').cls (z_y j') (z_y j') ∈ TT ∧ Cond.initialized (z_y j').cls ∈ TT ∧ (∃ T N, vwCl[ci]? = some ((z_y j').cls, T, N)) ∧ (z_par (z_y j')).map (fun n => n + 1) = some na
section ZV
variable {p : Program} {l : Launch} {e : Env} {R : Room} {s : State} {m : MethodId} {args : Array Value} {below : List Frame} {meth : Method} {c : Code} {H : Heap} {locs : List Loc} {cells slots : Nat} {QW : State → Prop}
variable {pc : Nat} {ls : Array Slot} {a : Nat → Nat} {k : Nat → ClassId} {G : va_G} {A : Nat → Prop} {cc : ByteArray} {nL oc : Nat} {xs : Nat × (Nat → Int32)}
set_option maxHeartbeats 1000000 in
theorem zv_callV {d j' r idx ci : Nat} {As2 rest : List Value} {μ : zM} {Qk : zQ} (hx : p.tables.exec = Jvm.exec) (hb : c.code = cc) (hml : c.maxLocals = nL) (hts : ∀ w ∈ TT, w.before args s = true) (hown : s.vm.findClass (z_own oc) = some m.cls) (hK : va_K G vwCl (tyF k) s) (hN : NW s) (hD : ∀ μ, va_D A (z_W a k 79 μ)) (hRO : z_RO a xs A s s.heap) (hA : ∀ q, s.heap.size ≤ q → A q)
    (hRf : d + 2 ≤ R.frames) (hRl : 64 * (d + 2) ≤ R.locals) (hRc : cells + z_al j' ≤ R.cells) (hRs : slots + 16 * z_al j' ≤ R.slots) (hw : zv_V oc idx j' (As2.length + 1) ci) (hj : j' < 189) (hM : z_Met l d j' (.ref r :: As2) μ Qk) (q2 : r < 79) (q3 : (z_sh r).1 = 0) (q4 : (z_sh r).2.1 = ci) (q5 : z_cat rest ≤ 8) (hP : va_P G vwCl (z_W a k 79 μ) H) (hS : va_S A s.heap H locs) (hl : ls.size = nL) (hd : decode cc pc = .ok (.invokevirtual idx, 3))
    (kk : ∀ (r : Option Value) (μ' : zM) (H1 : Heap) (locs1 : List Loc), Qk r μ' → va_P G vwCl (z_W a k 79 μ') H1 → va_S A s.heap H1 locs1 → W p l e R s m args below meth c H1 locs1 (cells + z_al j') (slots + 16 * z_al j') QW (F0 m (pc + 3) ls ((r.toList ++ rest).map (z_tr a)))) : W p l e R s m args below meth c H locs cells slots QW (F0 m pc ls ((As2.map (z_tr a)).reverse ++ .ref (a r) :: rest.map (z_tr a))) := by
  have hF := wZ_F (hD μ) hS hA
  have hRR : (z_rom d (z_al j')).frames + 1 ≤ R.frames ∧ 8 + (z_ml j' + 11) + (z_rom d (z_al j')).locals ≤ R.locals := by
    have := z_ml_le j'
    show d + 1 + 1 ≤ R.frames ∧ 8 + (z_ml j' + 11) + 64 * (d + 1) ≤ R.locals
    omega
  obtain ⟨⟨y1, y2⟩, w1, w2, w3, w4, ⟨T, N, w5⟩, w6⟩ := hw
  have hM := hM G k a 79 H.size (Or.inl rfl)
  have hnp : (parseMethodDescriptor (z_y j').desc).map (fun d => d.parameters.length) = some (As2.map (z_tr a)).length := by
    rw [List.length_map]
    obtain ⟨n0, e1, e2⟩ := Option.map_eq_some_iff.mp w6
    have e1 : (parseMethodDescriptor (z_y j').desc).map (fun d => d.parameters.length) = some n0 := e1
    rw [e1]
    congr 1
    omega
  refine z_callW (rest := rest.map (z_tr a)) (va_runV (Ts := TT) (own := z_own oc) (C := (z_y j').cls) (index := idx) (bytes := z_cc j') (maxL := z_ml j') (ret := z_rt j') (As := As2.map (z_tr a)) (b := a r) ⟨hx, hb, hml, hown, hts⟩ hM
    (cwV _ hts (goodIn_app (a := [.methodLink (z_own oc) idx (z_y j'), .instanceMethod (z_y j'), .selects (z_y j').cls (z_y j') (z_y j'), .initialized (z_y j').cls]) (z_goodI (z_mem4 w1 w2 w3 w4)) (z_goodT hj)) rfl rfl rfl ⟨rfl, y1, y2, hnp⟩ hRR)
    ⟨z_pq_bl, va_recv hK hP (ci := ci) (q0 := r) (fs := (List.range (z_sh r).2.2).map (fun j => z_tr a (z_gv μ ci r j))) w5 (by rw [z_W_at q2, z_E0 (N := 0) (ci := 0) q3, q4]), z_pq_pre (av := (Value.ref r :: As2).map (z_tr a)) hP hD hK hN hRO hS hA⟩ rfl rfl hl rfl (lv_room (by rw [z_cat_tr]; exact q5)) hd ⟨hRc, hRs⟩) hS (fun q _ h => hF q h) hF (fun r μ' H1 locs1 h1 h2 h3 => ?_)
  rw [z_tol]
  exact kk r μ' H1 locs1 h1 h2 h3
set_option maxHeartbeats 1000000 in
theorem zv_callS {d j' idx ci : Nat} {As2 rest : List Value} {μ : zM} {Qk : zQ} (hx : p.tables.exec = Jvm.exec) (hb : c.code = cc) (hml : c.maxLocals = nL) (hts : ∀ w ∈ TT, w.before args s = true) (hown : s.vm.findClass (z_own oc) = some m.cls) (hK : va_K G vwCl (tyF k) s) (hN : NW s) (hD : ∀ μ, va_D A (z_W a k 79 μ)) (hRO : z_RO a xs A s s.heap) (hA : ∀ q, s.heap.size ≤ q → A q)
    (hRf : d + 2 ≤ R.frames) (hRl : 64 * (d + 2) ≤ R.locals) (hRc : cells + z_al j' ≤ R.cells) (hRs : slots + 16 * z_al j' ≤ R.slots) (hlk : z_lk (z_cals.getD oc []) idx = some (1, j', As2.length, ci)) (hM : z_Met l d j' As2 μ Qk) (q5 : z_cat rest ≤ 8) (hP : va_P G vwCl (z_W a k 79 μ) H) (hS : va_S A s.heap H locs) (hl : ls.size = nL) (hd : decode cc pc = .ok (.invokestatic idx, 3))
    (kk : ∀ (r : Option Value) (μ' : zM) (H1 : Heap) (locs1 : List Loc), Qk r μ' → va_P G vwCl (z_W a k 79 μ') H1 → va_S A s.heap H1 locs1 → W p l e R s m args below meth c H1 locs1 (cells + z_al j') (slots + 16 * z_al j') QW (F0 m (pc + 3) ls ((r.toList ++ rest).map (z_tr a)))) : W p l e R s m args below meth c H locs cells slots QW (F0 m pc ls ((As2.map (z_tr a)).reverse ++ rest.map (z_tr a))) := by
  have hF := wZ_F (hD μ) hS hA
  have hRR : (z_rom d (z_al j')).frames + 1 ≤ R.frames ∧ 8 + (z_ml j' + 11) + (z_rom d (z_al j')).locals ≤ R.locals := by
    have := z_ml_le j'
    show d + 1 + 1 ≤ R.frames ∧ 8 + (z_ml j' + 11) + 64 * (d + 1) ≤ R.locals
    omega
  have hj := z_cal_j hlk
  obtain ⟨⟨y1, y2⟩, w1, w2, w4, w6⟩ := z_cal_S hlk
  have hM := hM G k a 79 H.size (Or.inl rfl)
  have hnp : (parseMethodDescriptor (z_y j').desc).map (fun d => d.parameters.length) = some (As2.map (z_tr a)).length := by rw [List.length_map]; exact w6
  refine z_callW (rest := rest.map (z_tr a)) (va_runS (Ts := TT) (own := z_own oc) (index := idx) (bytes := z_cc j') (maxL := z_ml j') (ret := z_rt j') (As := As2.map (z_tr a)) ⟨hx, hb, hml, hown, hts⟩ hM
    (va_cwS _ hts (goodIn_app (a := [.methodLink (z_own oc) idx (z_y j'), .static (z_y j'), .initialized (z_y j').cls]) (z_goodI (z_mem3 w1 w2 w4)) (z_goodT hj)) rfl rfl rfl ⟨y1, y2, hnp⟩ hRR)
    ⟨z_pq_bl, z_pq_pre (av := As2.map (z_tr a)) hP hD hK hN hRO hS hA⟩ rfl rfl hl rfl (lv_room (by rw [z_cat_tr]; exact q5)) hd ⟨hRc, hRs⟩) hS (fun q _ h => hF q h) hF (fun r μ' H1 locs1 h1 h2 h3 => ?_)
  rw [z_tol]
  exact kk r μ' H1 locs1 h1 h2 h3
end ZV
theorem inTT {w : Cond} (h : w ∈ lw_tbl) (h2 : goodWord w = true) : w ∈ TT := List.mem_filter.mpr ⟨h, h2⟩

theorem dX6_river_0 : decode cX6_river 0 = .ok (.iload_n 1, 1) := by decide +kernel
theorem dX6_river_1 : decode cX6_river 1 = .ok (.invokestatic 213, 3) := by decide +kernel
theorem dX6_river_4 : decode cX6_river 4 = .ok (.ifCond .eq 19, 3) := by decide +kernel
theorem dX6_river_7 : decode cX6_river 7 = .ok (.iload_n 2, 1) := by decide +kernel
theorem dX6_river_8 : decode cX6_river 8 = .ok (.ifCond .lt 15, 3) := by decide +kernel
theorem dX6_river_11 : decode cX6_river 11 = .ok (.iload_n 2, 1) := by decide +kernel
theorem dX6_river_12 : decode cX6_river 12 = .ok (.aload_n 0, 1) := by decide +kernel
theorem dX6_river_13 : decode cX6_river 13 = .ok (.iload_n 1, 1) := by decide +kernel
theorem dX6_river_14 : decode cX6_river 14 = .ok (.invokevirtual 65, 3) := by decide +kernel
theorem dX6_river_17 : decode cX6_river 17 = .ok (.getfield 107, 3) := by decide +kernel
theorem dX6_river_20 : decode cX6_river 20 = .ok (.if_icmp .lt 13, 3) := by decide +kernel
theorem dX6_river_23 : decode cX6_river 23 = .ok (.new 253, 3) := by decide +kernel
theorem dX6_river_26 : decode cX6_river 26 = .ok (.dup, 1) := by decide +kernel
theorem dX6_river_27 : decode cX6_river 27 = .ok (.ldc 255, 2) := by decide +kernel
theorem dX6_river_29 : decode cX6_river 29 = .ok (.invokespecial 257, 3) := by decide +kernel
theorem dX6_river_32 : decode cX6_river 32 = .ok (.athrow, 1) := by decide +kernel
theorem dX6_river_33 : decode cX6_river 33 = .ok (.aload_n 0, 1) := by decide +kernel
theorem dX6_river_34 : decode cX6_river 34 = .ok (.iload_n 1, 1) := by decide +kernel
theorem dX6_river_35 : decode cX6_river 35 = .ok (.invokevirtual 65, 3) := by decide +kernel
theorem dX6_river_38 : decode cX6_river 38 = .ok (.iload_n 2, 1) := by decide +kernel
theorem dX6_river_39 : decode cX6_river 39 = .ok (.invokevirtual 260, 3) := by decide +kernel
theorem dX6_river_42 : decode cX6_river 42 = .ok (.ireturn, 1) := by decide +kernel
theorem dX6_wall_0 : decode cX6_wall 0 = .ok (.aload_n 0, 1) := by decide +kernel
theorem dX6_wall_1 : decode cX6_wall 1 = .ok (.getfield 18, 3) := by decide +kernel
theorem dX6_wall_4 : decode cX6_wall 4 = .ok (.iload_n 1, 1) := by decide +kernel
theorem dX6_wall_5 : decode cX6_wall 5 = .ok (.invokevirtual 75, 3) := by decide +kernel
theorem dX6_wall_8 : decode cX6_wall 8 = .ok (.istore_n 2, 1) := by decide +kernel
theorem dX6_wall_9 : decode cX6_wall 9 = .ok (.iload_n 2, 1) := by decide +kernel
theorem dX6_wall_10 : decode cX6_wall 10 = .ok (.iconst (-1), 1) := by decide +kernel
theorem dX6_wall_11 : decode cX6_wall 11 = .ok (.if_icmp .ne 14, 3) := by decide +kernel
theorem dX6_wall_14 : decode cX6_wall 14 = .ok (.new 253, 3) := by decide +kernel
theorem dX6_wall_17 : decode cX6_wall 17 = .ok (.dup, 1) := by decide +kernel
theorem dX6_wall_18 : decode cX6_wall 18 = .ok (.ldc_w 287, 3) := by decide +kernel
theorem dX6_wall_21 : decode cX6_wall 21 = .ok (.invokespecial 257, 3) := by decide +kernel
theorem dX6_wall_24 : decode cX6_wall 24 = .ok (.athrow, 1) := by decide +kernel
theorem dX6_wall_25 : decode cX6_wall 25 = .ok (.iload_n 2, 1) := by decide +kernel
theorem dX6_wall_26 : decode cX6_wall 26 = .ok (.ireturn, 1) := by decide +kernel
theorem dL_river_0 : decode cL_river 0 = .ok (.aload_n 3, 1) := by decide +kernel
theorem dL_river_1 : decode cL_river 1 = .ok (.iconst 0, 1) := by decide +kernel
theorem dL_river_2 : decode cL_river 2 = .ok (.aload_n 0, 1) := by decide +kernel
theorem dL_river_3 : decode cL_river 3 = .ok (.iload_n 1, 1) := by decide +kernel
theorem dL_river_4 : decode cL_river 4 = .ok (.iload_n 2, 1) := by decide +kernel
theorem dL_river_5 : decode cL_river 5 = .ok (.invokevirtual 7, 3) := by decide +kernel
theorem dL_river_8 : decode cL_river 8 = .ok (.i2l, 1) := by decide +kernel
theorem dL_river_9 : decode cL_river 9 = .ok (.lastore, 1) := by decide +kernel
theorem dL_river_10 : decode cL_river 10 = .ok (.goto 7, 3) := by decide +kernel
theorem dL_river_13 : decode cL_river 13 = .ok (.astore 4, 2) := by decide +kernel
theorem dL_river_15 : decode cL_river 15 = .ok (.iconst 1, 1) := by decide +kernel
theorem dL_river_16 : decode cL_river 16 = .ok (.ireturn, 1) := by decide +kernel
theorem dL_river_17 : decode cL_river 17 = .ok (.iconst 0, 1) := by decide +kernel
theorem dL_river_18 : decode cL_river 18 = .ok (.ireturn, 1) := by decide +kernel
theorem dL_wall_0 : decode cL_wall 0 = .ok (.aload_n 2, 1) := by decide +kernel
theorem dL_wall_1 : decode cL_wall 1 = .ok (.iconst 0, 1) := by decide +kernel
theorem dL_wall_2 : decode cL_wall 2 = .ok (.aload_n 0, 1) := by decide +kernel
theorem dL_wall_3 : decode cL_wall 3 = .ok (.iload_n 1, 1) := by decide +kernel
theorem dL_wall_4 : decode cL_wall 4 = .ok (.invokevirtual 15, 3) := by decide +kernel
theorem dL_wall_7 : decode cL_wall 7 = .ok (.i2l, 1) := by decide +kernel
theorem dL_wall_8 : decode cL_wall 8 = .ok (.lastore, 1) := by decide +kernel
theorem dL_wall_9 : decode cL_wall 9 = .ok (.goto 6, 3) := by decide +kernel
theorem dL_wall_12 : decode cL_wall 12 = .ok (.astore_n 3, 1) := by decide +kernel
theorem dL_wall_13 : decode cL_wall 13 = .ok (.iconst 1, 1) := by decide +kernel
theorem dL_wall_14 : decode cL_wall 14 = .ok (.ireturn, 1) := by decide +kernel
theorem dL_wall_15 : decode cL_wall 15 = .ok (.iconst 0, 1) := by decide +kernel
theorem dL_wall_16 : decode cL_wall 16 = .ok (.ireturn, 1) := by decide +kernel
theorem va_P_lt {D : va_G} {cl : List vw_C} {ws : va_W} {H : Heap} (h : va_P D cl ws H) {i : Nat} {q : Nat × va_E} (hi : ws[i]? = some q) : q.1 < H.size := (h i q hi).lt
theorem vF_grow {A : Nat → Prop} {s t : State} {H : Heap} {locs : List Loc} (hS : va_S A s.heap H locs) (h2 : H.size ≤ t.heap.size) (h3 : ∀ q : Nat, q < H.size → t.heap[q]? = H[q]?) : va_F A s t := ⟨Nat.le_trans hS.1 h2, fun q hq hA => (h3 q (Nat.lt_of_lt_of_le hq hS.1)).trans (hS.2.1 q hq hA)⟩
theorem zv_thrown : zv_V 6 260 mi_X2_thrown 2 1 := ⟨⟨by decide, by decide⟩, inTT (by decide +kernel) rfl, inTT (by decide +kernel) rfl, inTT (by decide +kernel) rfl, inTT (by decide +kernel) rfl, ⟨_, _, rfl⟩, by decide +kernel⟩
set_option maxHeartbeats 4000000 in
theorem c_X6_river (l : Launch) (hst : l.stackTraces = false) (G : va_G) (k : Nat → ClassId) (a : Nat → Nat) (sz : Nat) (μ : zM) (hH0 : a_H μ) (p0 p1 : Int32) : vx_Met l yX6_river (.code yX6_river cX6_river 3 (some .int) :: TT) (z_rom 702 1) (va_Pc [.ref (a 0), .int p0, .int p1] (pz G k a μ sz)) (va_Qi (fun (_ : Int32) (_ : Unit) => True) (fun _ t => va_P G vwCl (z_W a k 79 μ) t.heap) (va_A (z_W a k 79 μ) sz)) (vx_X (fun _ : Unit => True) (fun E _ t => E = cx_E ∧ va_P G vwCl (z_W a k 79 μ) t.heap) (va_A (z_W a k 79 μ) sz)) 1 16 (va_A (z_W a k 79 μ) sz) := by
  refine vx_ofW (cc := cX6_river) (maxL := 3) (ret := (some .int)) (by decide) rfl ?_
  intro p e s m args below meth c s₁ B hml htab hv
  obtain ⟨rfl, ⟨⟨hsz, ⟨hP, hK, hN⟩, hD0⟩, hRO⟩, hXW⟩ := hv
  have hx := B.exec
  have hb := B.bytes
  have hr := B.returns
  have hts0 := atoms_spec (ws := .code yX6_river cX6_river 3 (some .int) :: TT) B.pre
  have hts : ∀ w ∈ TT, w.before ([.ref (a 0), .int p0, .int p1] : List Value).toArray s = true := fun w h => hts0 w (List.mem_cons_of_mem _ h)
  have hown : s.vm.findClass (z_own 6) = some m.cls := findClass_of_methodNamed B.named
  have hlocks := B.notSynchronized
  subst hsz
  have hD1 := hD0.self (sz := s.heap.size)
  have hlt : ∀ (i : Nat) (q : Nat × va_E), (z_W a k 79 μ)[i]? = some q → q.1 < s.heap.size := fun i q hi => va_P_lt hP hi
  generalize hAe : va_A (z_W a k 79 μ) s.heap.size = A at hD1 hRO hXW ⊢
  have hD : ∀ μ, va_D A (z_W a k 79 μ) := fun μ' => z_W_D hD1 μ'
  have hA : ∀ q : Nat, s.heap.size ≤ q → A q := fun q h => by rw [← hAe]; exact Or.inr h
  have hS : va_S A s.heap s.heap [] := va_S.rf
  obtain ⟨⟨hd1, hd2, hd3, hd4⟩, ⟨hZ1, hZ2⟩, ⟨sq, hsa⟩, ⟨sq2, hsb⟩⟩ := hXW
  have hl := lv_entry ([.ref (a 0), .int p0, .int p1]) (n := 3) (Nat.le_of_ble_eq_true rfl)
  rw [lg_entry_eq]
  generalize (lg_sl ([.ref (a 0), .int p0, .int p1]) ++ List.replicate (3 - (lg_sl ([.ref (a 0), .int p0, .int p1])).length) Slot.unset).toArray = ls at hl ⊢
  have hl : lv_has ls 3 [(0, .ref (a 0)), (1, .int p0), (2, .int p1)] := hl
  refine lv_iload_n hx hb dX6_river_0 rfl (lv_at hl 1 rfl) ?_
  refine zv_callS (d := 700) (As2 := [.int p0]) (rest := []) (idx := 213) (j' := mi_X6_isSeat) hx hb hml hts hown hK hN hD hRO hA (Nat.le_of_ble_eq_true rfl) (Nat.le_of_ble_eq_true rfl) (Nat.le_of_ble_eq_true rfl) (Nat.le_of_ble_eq_true rfl) (by rfl) (z_sound l 700 _ [.int p0] _ _ (bs_X6_isSeat (by decide) [.int p0] _ (aArg_pre ⟨⟨_, rfl, bI_top _⟩, trivial⟩ rfl) hH0) (Nat.le_of_ble_eq_true rfl) (by decide)) (Nat.le_of_ble_eq_true rfl) hP hS hl.1 dX6_river_1 (fun r1 μ1 H1 locs1 hq hP1 hS1 => ?_)
  obtain ⟨-, hz, v9, rfl, x9, rfl, -⟩ := hq
  rw [a_Fz_nil hz] at hP1
  clear hz
  refine W.eq (g2 := F0 m 4 ls [.int x9]) rfl ?_
  refine lv_if_eq (tgt := 23) hx hb dX6_river_4 (by decide) (fun _ => ?_) (fun _ => ?_)
  · skip
    exact cx_throw (text := "no such discard") (ik := 253) (is := 255) hx hb hst hown (hts (.classLink RX6 253 "java/util/NoSuchElementException") (inTT (by decide +kernel) rfl)) (hts (.initialized "java/util/NoSuchElementException") (inTT (by decide +kernel) rfl)) hsa (vx_hat (fun w h => hts w (tl_cx w h)) cx_ng (vx_c (va_Nw.use rfl hd1) (vx_c (va_Nw.use rfl hd2) (vx_c (va_Nw.use rfl hd3) (vx_c (va_Nw.use rfl hd4) vx_n))))) cx_good hZ1 hZ2 hS1 (hl.1.trans hml.symm) dX6_river_23 dX6_river_26 dX6_river_27 dX6_river_29 dX6_river_32 (fun x h => (htab x h).elim) (Nat.le_of_ble_eq_true rfl) (Nat.le_of_ble_eq_true rfl) (Nat.le_of_ble_eq_true rfl) (Nat.le_of_ble_eq_true rfl) hlocks (fun t h1 h2 h3 => ⟨(), trivial, ⟨rfl, va_P_grow hP1 (fun i q hi => va_P_lt hP1 hi) h3⟩, vF_grow hS1 h2 h3⟩) hS1.2.2 (Nat.le_of_ble_eq_true rfl) (Nat.le_of_ble_eq_true rfl)
  refine lv_iload_n hx hb dX6_river_7 rfl (lv_at hl 2 rfl) ?_
  refine lv_if_lt (tgt := 23) hx hb dX6_river_8 (by decide) (fun _ => ?_) (fun _ => ?_)
  · skip
    exact cx_throw (text := "no such discard") (ik := 253) (is := 255) hx hb hst hown (hts (.classLink RX6 253 "java/util/NoSuchElementException") (inTT (by decide +kernel) rfl)) (hts (.initialized "java/util/NoSuchElementException") (inTT (by decide +kernel) rfl)) hsa (vx_hat (fun w h => hts w (tl_cx w h)) cx_ng (vx_c (va_Nw.use rfl hd1) (vx_c (va_Nw.use rfl hd2) (vx_c (va_Nw.use rfl hd3) (vx_c (va_Nw.use rfl hd4) vx_n))))) cx_good hZ1 hZ2 hS1 (hl.1.trans hml.symm) dX6_river_23 dX6_river_26 dX6_river_27 dX6_river_29 dX6_river_32 (fun x h => (htab x h).elim) (Nat.le_of_ble_eq_true rfl) (Nat.le_of_ble_eq_true rfl) (Nat.le_of_ble_eq_true rfl) (Nat.le_of_ble_eq_true rfl) hlocks (fun t h1 h2 h3 => ⟨(), trivial, ⟨rfl, va_P_grow hP1 (fun i q hi => va_P_lt hP1 hi) h3⟩, vF_grow hS1 h2 h3⟩) hS1.2.2 (Nat.le_of_ble_eq_true rfl) (Nat.le_of_ble_eq_true rfl)
  refine lv_iload_n hx hb dX6_river_11 rfl (lv_at hl 2 rfl) ?_
  refine lv_aload_n hx hb dX6_river_12 rfl (lv_at hl 0 rfl) ?_
  refine lv_iload_n hx hb dX6_river_13 rfl (lv_at hl 1 rfl) ?_
  refine zv_callV (d := 700) (r := 0) (As2 := [.int p0]) (rest := [.int p1]) (idx := 65) (j' := mi_X6_at) (ci := 5) hx hb hml hts hown hK hN hD hRO hA (Nat.le_of_ble_eq_true rfl) (Nat.le_of_ble_eq_true rfl) (Nat.le_of_ble_eq_true rfl) (Nat.le_of_ble_eq_true rfl) (z_cal_V (oc := 6) (by rfl)) (by decide) (z_sound l 700 _ [.ref 0, .int p0] _ _ (bs_X6_at (by decide) [.ref 0, .int p0] _ (aArg_pre ⟨⟨0, by decide, rfl⟩, ⟨_, rfl, bI_top _⟩, trivial⟩ rfl) hH0) (Nat.le_of_ble_eq_true rfl) (by decide)) (by decide) (by decide) (by decide) (Nat.le_of_ble_eq_true rfl) hP1 hS1 hl.1 dX6_river_14 (fun r2 μ2 H2 locs2 hq hP2 hS2 => ?_)
  obtain ⟨-, hz, v9, rfl, q2, hq2, rfl⟩ := hq
  rw [a_Fz_nil hz] at hP2
  clear hz
  have hq2 : q2 = 18 ∨ q2 = 26 ∨ q2 = 34 ∨ q2 = 42 := by have z : q2 ∈ [18, 26, 34, 42] := hq2; simpa using z
  obtain ⟨y2, hy2⟩ : ∃ y2, z_hp z_x0 79 6 (.getfield 107) [.ref q2, .int p1] μ = some ([.int y2, .int p1], μ) := by rcases hq2 with rfl | rfl | rfl | rfl <;> exact ⟨_, rfl⟩
  refine zs_hp (n := 79) hx hb hy2 dX6_river_17 (hml.trans hl.1.symm) hts hown hK hD (Nat.le_refl _) hRO (Nat.le_of_ble_eq_true rfl) (Nat.le_of_ble_eq_true rfl) (Nat.le_of_ble_eq_true rfl) (Nat.le_of_ble_eq_true rfl) hP2 hS2 (fun H3 locs3 hP3 hS3 => ?_)
  refine W.eq (g2 := F0 m 20 ls [.int y2, .int p1]) rfl ?_
  refine lv_icmp_lt (tgt := 33) hx hb dX6_river_20 (by decide) (fun _ => ?_) (fun _ => ?_)
  rotate_left
  · skip
    exact cx_throw (text := "no such discard") (ik := 253) (is := 255) hx hb hst hown (hts (.classLink RX6 253 "java/util/NoSuchElementException") (inTT (by decide +kernel) rfl)) (hts (.initialized "java/util/NoSuchElementException") (inTT (by decide +kernel) rfl)) hsa (vx_hat (fun w h => hts w (tl_cx w h)) cx_ng (vx_c (va_Nw.use rfl hd1) (vx_c (va_Nw.use rfl hd2) (vx_c (va_Nw.use rfl hd3) (vx_c (va_Nw.use rfl hd4) vx_n))))) cx_good hZ1 hZ2 hS3 (hl.1.trans hml.symm) dX6_river_23 dX6_river_26 dX6_river_27 dX6_river_29 dX6_river_32 (fun x h => (htab x h).elim) (Nat.le_of_ble_eq_true rfl) (Nat.le_of_ble_eq_true rfl) (Nat.le_of_ble_eq_true rfl) (Nat.le_of_ble_eq_true rfl) hlocks (fun t h1 h2 h3 => ⟨(), trivial, ⟨rfl, va_P_grow hP3 (fun i q hi => va_P_lt hP3 hi) h3⟩, vF_grow hS3 h2 h3⟩) hS3.2.2 (Nat.le_of_ble_eq_true rfl) (Nat.le_of_ble_eq_true rfl)
  refine lv_aload_n hx hb dX6_river_33 rfl (lv_at hl 0 rfl) ?_
  refine lv_iload_n hx hb dX6_river_34 rfl (lv_at hl 1 rfl) ?_
  refine zv_callV (d := 700) (r := 0) (As2 := [.int p0]) (rest := []) (idx := 65) (j' := mi_X6_at) (ci := 5) hx hb hml hts hown hK hN hD hRO hA (Nat.le_of_ble_eq_true rfl) (Nat.le_of_ble_eq_true rfl) (Nat.le_of_ble_eq_true rfl) (Nat.le_of_ble_eq_true rfl) (z_cal_V (oc := 6) (by rfl)) (by decide) (z_sound l 700 _ [.ref 0, .int p0] _ _ (bs_X6_at (by decide) [.ref 0, .int p0] _ (aArg_pre ⟨⟨0, by decide, rfl⟩, ⟨_, rfl, bI_top _⟩, trivial⟩ rfl) hH0) (Nat.le_of_ble_eq_true rfl) (by decide)) (by decide) (by decide) (by decide) (Nat.le_of_ble_eq_true rfl) hP3 hS3 hl.1 dX6_river_35 (fun r4 μ4 H4 locs4 hq hP4 hS4 => ?_)
  obtain ⟨-, hz, v9, rfl, q4, hq4, rfl⟩ := hq
  rw [a_Fz_nil hz] at hP4
  clear hz
  have hq4 : q4 = 18 ∨ q4 = 26 ∨ q4 = 34 ∨ q4 = 42 := by have z : q4 ∈ [18, 26, 34, 42] := hq4; simpa using z
  refine W.eq (g2 := F0 m 38 ls [.ref (a q4)]) rfl ?_
  refine lv_iload_n hx hb dX6_river_38 rfl (lv_at hl 2 rfl) ?_
  refine zv_callV (d := 700) (r := q4) (As2 := [.int p1]) (rest := []) (idx := 260) (j' := mi_X2_thrown) (ci := 1) hx hb hml hts hown hK hN hD hRO hA (Nat.le_of_ble_eq_true rfl) (Nat.le_of_ble_eq_true rfl) (Nat.le_of_ble_eq_true rfl) (Nat.le_of_ble_eq_true rfl) zv_thrown (by decide) (z_sound l 700 _ [.ref q4, .int p1] _ _ (bs_X2_thrown (by decide) [.ref q4, .int p1] _ (aArg_pre ⟨⟨q4, by rcases hq4 with rfl | rfl | rfl | rfl <;> decide, rfl⟩, ⟨_, rfl, bI_top _⟩, trivial⟩ rfl) hH0) (Nat.le_of_ble_eq_true rfl) (by decide)) (by omega) (by rcases hq4 with rfl | rfl | rfl | rfl <;> rfl) (by rcases hq4 with rfl | rfl | rfl | rfl <;> rfl) (Nat.le_of_ble_eq_true rfl) hP4 hS4 hl.1 dX6_river_39 (fun r5 μ5 H5 locs5 hq hP5 hS5 => ?_)
  obtain ⟨-, hz, v9, rfl, x5, rfl, -⟩ := hq
  rw [a_Fz_nil hz] at hP5
  refine W.eq (g2 := F0 m 42 ls [.int x5]) rfl ?_
  refine W.widen (k := 1) (n := 16) (Nat.le_of_ble_eq_true rfl) (Nat.le_of_ble_eq_true rfl) ?_
  exact vx_ret (W.iret hx hb hr (fun t ht hW => ⟨⟨x5, (), rfl, trivial, by show va_P _ _ _ t.heap; rw [ht]; exact hP5⟩, hS5.F ht⟩) hS5.2.2 dX6_river_42 hlocks)
set_option maxHeartbeats 4000000 in
theorem c_X6_wall (l : Launch) (hst : l.stackTraces = false) (G : va_G) (k : Nat → ClassId) (a : Nat → Nat) (sz : Nat) (μ : zM) (hH0 : a_H μ) (p0 : Int32) : vx_Met l yX6_wall (.code yX6_wall cX6_wall 3 (some .int) :: TT) (z_rom 702 1) (va_Pc [.ref (a 0), .int p0] (pz G k a μ sz)) (va_Qi (fun (_ : Int32) (_ : Unit) => True) (fun _ t => va_P G vwCl (z_W a k 79 μ) t.heap) (va_A (z_W a k 79 μ) sz)) (vx_X (fun _ : Unit => True) (fun E _ t => E = cx_E ∧ va_P G vwCl (z_W a k 79 μ) t.heap) (va_A (z_W a k 79 μ) sz)) 1 16 (va_A (z_W a k 79 μ) sz) := by
  refine vx_ofW (cc := cX6_wall) (maxL := 3) (ret := (some .int)) (by decide) rfl ?_
  intro p e s m args below meth c s₁ B hml htab hv
  obtain ⟨rfl, ⟨⟨hsz, ⟨hP, hK, hN⟩, hD0⟩, hRO⟩, hXW⟩ := hv
  have hx := B.exec
  have hb := B.bytes
  have hr := B.returns
  have hts0 := atoms_spec (ws := .code yX6_wall cX6_wall 3 (some .int) :: TT) B.pre
  have hts : ∀ w ∈ TT, w.before ([.ref (a 0), .int p0] : List Value).toArray s = true := fun w h => hts0 w (List.mem_cons_of_mem _ h)
  have hown : s.vm.findClass (z_own 6) = some m.cls := findClass_of_methodNamed B.named
  have hlocks := B.notSynchronized
  subst hsz
  have hD1 := hD0.self (sz := s.heap.size)
  have hlt : ∀ (i : Nat) (q : Nat × va_E), (z_W a k 79 μ)[i]? = some q → q.1 < s.heap.size := fun i q hi => va_P_lt hP hi
  generalize hAe : va_A (z_W a k 79 μ) s.heap.size = A at hD1 hRO hXW ⊢
  have hD : ∀ μ, va_D A (z_W a k 79 μ) := fun μ' => z_W_D hD1 μ'
  have hA : ∀ q : Nat, s.heap.size ≤ q → A q := fun q h => by rw [← hAe]; exact Or.inr h
  have hS : va_S A s.heap s.heap [] := va_S.rf
  obtain ⟨⟨hd1, hd2, hd3, hd4⟩, ⟨hZ1, hZ2⟩, ⟨sq, hsa⟩, ⟨sq2, hsb⟩⟩ := hXW
  have hl := lv_entry ([.ref (a 0), .int p0]) (n := 3) (Nat.le_of_ble_eq_true rfl)
  rw [lg_entry_eq]
  generalize (lg_sl ([.ref (a 0), .int p0]) ++ List.replicate (3 - (lg_sl ([.ref (a 0), .int p0])).length) Slot.unset).toArray = ls at hl ⊢
  have hl : lv_has ls 3 [(0, .ref (a 0)), (1, .int p0)] := hl
  refine lv_aload_n hx hb dX6_wall_0 rfl (lv_at hl 0 rfl) ?_
  have hy2 : z_hp z_x0 79 6 (.getfield 18) [.ref 0] μ = some ([.ref 2], μ) := rfl
  refine zs_hp (n := 79) hx hb hy2 dX6_wall_1 (hml.trans hl.1.symm) hts hown hK hD (Nat.le_refl _) hRO (Nat.le_of_ble_eq_true rfl) (Nat.le_of_ble_eq_true rfl) (Nat.le_of_ble_eq_true rfl) (Nat.le_of_ble_eq_true rfl) hP hS (fun H1 locs1 hP1 hS1 => ?_)
  refine W.eq (g2 := F0 m 4 ls [.ref (a 2)]) rfl ?_
  refine lv_iload_n hx hb dX6_wall_4 rfl (lv_at hl 1 rfl) ?_
  refine zv_callV (d := 700) (r := 2) (As2 := [.int p0]) (rest := []) (idx := 75) (j' := mi_X4_kindAt) (ci := 3) hx hb hml hts hown hK hN hD hRO hA (Nat.le_of_ble_eq_true rfl) (Nat.le_of_ble_eq_true rfl) (Nat.le_of_ble_eq_true rfl) (Nat.le_of_ble_eq_true rfl) (z_cal_V (oc := 6) (by rfl)) (by decide) (z_sound l 700 _ [.ref 2, .int p0] _ _ (bs_X4_kindAt (by decide) [.ref 2, .int p0] _ (aArg_pre ⟨⟨2, by decide, rfl⟩, ⟨_, rfl, bI_top _⟩, trivial⟩ rfl) hH0) (Nat.le_of_ble_eq_true rfl) (by decide)) (by decide) (by decide) (by decide) (Nat.le_of_ble_eq_true rfl) hP1 hS1 hl.1 dX6_wall_5 (fun r2 μ2 H2 locs2 hq hP2 hS2 => ?_)
  obtain ⟨-, hz, v9, rfl, x2, rfl, -⟩ := hq
  rw [a_Fz_nil hz] at hP2
  refine W.eq (g2 := F0 m 8 ls [.int x2]) rfl ?_
  refine lv_istore_n (lv' := [(2, .int x2), (0, .ref (a 0)), (1, .int p0)]) hx hb dX6_wall_8 rfl hl (by decide) rfl (fun ls hl => ?_)
  refine lv_iload_n hx hb dX6_wall_9 rfl (lv_at hl 0 rfl) ?_
  refine lv_iconst (v := (-1)) hx hb dX6_wall_10 (by decide) ?_
  refine lv_icmp_ne (tgt := 25) hx hb dX6_wall_11 (by decide) (fun _ => ?_) (fun _ => ?_)
  rotate_left
  · skip
    exact cx_throwW (text := "no such place") (ik := 253) (is := 287) hx hb hst hown (hts (.classLink RX6 253 "java/util/NoSuchElementException") (inTT (by decide +kernel) rfl)) (hts (.initialized "java/util/NoSuchElementException") (inTT (by decide +kernel) rfl)) hsb (vx_hat (fun w h => hts w (tl_cx w h)) cx_ng (vx_c (va_Nw.use rfl hd1) (vx_c (va_Nw.use rfl hd2) (vx_c (va_Nw.use rfl hd3) (vx_c (va_Nw.use rfl hd4) vx_n))))) cx_good hZ1 hZ2 hS2 (hl.1.trans hml.symm) dX6_wall_14 dX6_wall_17 dX6_wall_18 dX6_wall_21 dX6_wall_24 (fun x h => (htab x h).elim) (Nat.le_of_ble_eq_true rfl) (Nat.le_of_ble_eq_true rfl) (Nat.le_of_ble_eq_true rfl) (Nat.le_of_ble_eq_true rfl) hlocks (fun t h1 h2 h3 => ⟨(), trivial, ⟨rfl, va_P_grow hP2 (fun i q hi => va_P_lt hP2 hi) h3⟩, vF_grow hS2 h2 h3⟩) hS2.2.2 (Nat.le_of_ble_eq_true rfl) (Nat.le_of_ble_eq_true rfl)
  refine lv_iload_n hx hb dX6_wall_25 rfl (lv_at hl 0 rfl) ?_
  refine W.widen (k := 1) (n := 16) (Nat.le_of_ble_eq_true rfl) (Nat.le_of_ble_eq_true rfl) ?_
  exact vx_ret (W.iret hx hb hr (fun t ht hW => ⟨⟨x2, (), rfl, trivial, by show va_P _ _ _ t.heap; rw [ht]; exact hP2⟩, hS2.F ht⟩) hS2.2.2 dX6_wall_26 hlocks)
theorem g_L_river : GoodIn TT (wsV RL 7 RX6 yX6_river (.code yX6_river cX6_river 3 (some .int) :: TT)) := goodIn_app (a := [.methodLink RL 7 yX6_river, .instanceMethod yX6_river, .selects RX6 yX6_river yX6_river, .initialized RX6]) (z_goodI (z_mem4 (inTT (by decide +kernel) rfl) (inTT (by decide +kernel) rfl) (inTT (by decide +kernel) rfl) (inTT (by decide +kernel) rfl))) (fun w hw => (List.mem_cons.mp hw).elim (fun e => by rw [e]; exact ⟨inTT (by decide +kernel) rfl, good_of_word rfl⟩) (fun h => ⟨h, good_of_word (TT_good _ h)⟩))
set_option maxHeartbeats 4000000 in
theorem c_L_river (l : Launch) (hst : l.stackTraces = false) (G : va_G) (k : Nat → ClassId) (a : Nat → Nat) (sz : Nat) (μ : zM) (hH0 : a_H μ) (p0 p1 : Int32) : Met l yL_river (.codeWith yL_river cL_river 5 (some .int) [(0, 10, 13, 13)] :: TT) (z_rom 703 1) (va_Pc [.ref (a 0), .int p0, .int p1, .ref (a 78)] (pz G k a μ sz)) (z_Qc (fun r μ' => (∃ x, r = some (.int x)) ∧ (μ' = μ ∨ ∃ y, μ' = z_uj μ 78 0 y)) G k a 79 (va_A (z_W a k 79 μ) sz)) 1 16 (va_A (z_W a k 79 μ) sz) := by
  refine va_MetW (cc := cL_river) (maxL := 5) (ret := (some .int)) (hh := [(0, 10, 13, 13)]) (by decide) rfl ?_
  intro p e s m args below meth c s₁ B hml hv
  obtain ⟨rfl, ⟨⟨hsz, ⟨hP, hK, hN⟩, hD0⟩, hRO⟩, hXW⟩ := hv
  have hx := B.exec
  have hb := B.bytes
  have hr := B.returns
  have hts0 := atoms_spec (ws := (.codeWith yL_river cL_river 5 (some .int) [(0, 10, 13, 13)] :: TT)) B.pre
  have hts : ∀ w ∈ TT, w.before ([.ref (a 0), .int p0, .int p1, .ref (a 78)] : List Value).toArray s = true := fun w h => hts0 w (List.mem_cons_of_mem _ h)
  have hown : s.vm.findClass RL = some m.cls := findClass_of_methodNamed B.named
  have hlocks := B.notSynchronized
  have htab := vx_table (x := yL_river) B (hts0 (.codeWith yL_river cL_river 5 (some .int) [(0, 10, 13, 13)]) List.mem_cons_self)
  subst hsz
  have hD1 := hD0.self (sz := s.heap.size)
  generalize hAe : va_A (z_W a k 79 μ) s.heap.size = A at hD1 hRO hXW ⊢
  have hD : ∀ μ, va_D A (z_W a k 79 μ) := fun μ' => z_W_D hD1 μ'
  have hA : ∀ q : Nat, s.heap.size ≤ q → A q := fun q h => by rw [← hAe]; exact Or.inr h
  have hS : va_S A s.heap s.heap [] := va_S.rf
  have hl := lv_entry ([.ref (a 0), .int p0, .int p1, .ref (a 78)]) (n := 5) (Nat.le_of_ble_eq_true rfl)
  rw [lg_entry_eq]
  generalize (lg_sl ([.ref (a 0), .int p0, .int p1, .ref (a 78)]) ++ List.replicate (5 - (lg_sl ([.ref (a 0), .int p0, .int p1, .ref (a 78)])).length) Slot.unset).toArray = ls at hl ⊢
  have hl : lv_has ls 5 [(0, .ref (a 0)), (1, .int p0), (2, .int p1), (3, .ref (a 78))] := hl
  refine lv_aload_n hx hb dL_river_0 rfl (lv_at hl 3 rfl) ?_
  refine lv_iconst (v := 0) hx hb dL_river_1 (by decide) ?_
  refine lv_aload_n hx hb dL_river_2 rfl (lv_at hl 0 rfl) ?_
  refine lv_iload_n hx hb dL_river_3 rfl (lv_at hl 1 rfl) ?_
  refine lv_iload_n hx hb dL_river_4 rfl (lv_at hl 2 rfl) ?_
  have hFc := wZ_F (hD μ) hS hA
  refine vx_calli (vx_runV (As := [.int p0, .int p1]) (rest := [.int 0, .ref (a 78)]) ⟨hx, hb, hml, hown, hts⟩ (c_X6_river l hst G k a s.heap.size μ hH0 p0 p1) (cwV 2 hts g_L_river rfl rfl rfl (by decide +kernel) ⟨Nat.le_of_ble_eq_true rfl, Nat.le_of_ble_eq_true rfl⟩) ⟨pz_bl, va_recv hK hP (ci := 5) (q0 := 0) (fs := (List.range (z_sh 0).2.2).map (fun j => z_tr a (z_gv μ 5 0 j))) rfl (by rw [z_W_at (by decide), z_E0 (N := 0) (ci := 0) (by decide)]; rfl), pz_pre (av := [.ref (a 0), .int p0, .int p1]) hP hD hK hN hRO hS hA hXW⟩ rfl rfl hl.1 rfl (lv_room (Nat.le_of_ble_eq_true rfl)) dL_river_5 ⟨Nat.le_of_ble_eq_true rfl, Nat.le_of_ble_eq_true rfl⟩) hS (fun q _ h => hFc q h) hFc (fun q _ h => hFc q h) (fun E ce q9 u t H1 locs1 ht hvm hpx hBX hz hk1 hS1 hce hcv hcl => ?_) (fun r u t H1 locs1 ht hvm hp hB hz hk1 hS1 => ?_)
  · obtain ⟨rfl, hP1⟩ := hBX
    rw [ht] at hP1
    refine cx_catch (own := RL) (name := cx_E) hown _ _ htab (by decide) (by decide) (hts (.classLink RL 13 "java/util/NoSuchElementException") (inTT (by decide +kernel) rfl)) (va_Nw.use rfl hXW.1.2.2.2) hce hcv hcl ?_
    refine W.eq (g2 := F0 m 13 ls [.ref q9]) rfl ?_
    refine lv_astore (lv' := [(4, .ref q9), (0, .ref (a 0)), (1, .int p0), (2, .int p1), (3, .ref (a 78))]) hx hb dL_river_13 hl (by decide) rfl (fun ls hl => ?_)
    refine lv_iconst (v := 1) hx hb dL_river_15 (by decide) ?_
    refine W.widen (k := 1) (n := 16) (Nat.le_of_ble_eq_true rfl) (Nat.le_of_ble_eq_true rfl) ?_
    exact W.iret (v := 1) hx hb hr (fun t ht hW => ⟨⟨some (.int 1), μ, rfl, ⟨⟨1, rfl⟩, Or.inl rfl⟩, by rw [ht]; exact hP1⟩, hS1.F ht⟩) hS1.2.2 dL_river_16 hlocks
  · rw [ht] at hB
    refine lv_i2l hx hb dL_river_8 rfl ?_
    have hy2 : z_hp z_x0 79 9 .lastore [.long r.toInt64, .int 0, .ref 78] μ = some ([], z_uj μ 78 0 r.toInt64) := rfl
    refine zs_hp (n := 79) hx hb hy2 dL_river_9 (hml.trans hl.1.symm) hts hown hK hD (Nat.le_refl _) hRO (Nat.le_of_ble_eq_true rfl) (Nat.le_of_ble_eq_true rfl) (Nat.le_of_ble_eq_true rfl) (Nat.le_of_ble_eq_true rfl) hB hS1 (fun H3 locs3 hP3 hS3 => ?_)
    refine W.eq (g2 := F0 m 10 ls []) rfl ?_
    refine lv_goto (tgt := 17) hx hb dL_river_10 (by decide) ?_
    refine lv_iconst (v := 0) hx hb dL_river_17 (by decide) ?_
    refine W.widen (k := 1) (n := 16) (Nat.le_of_ble_eq_true rfl) (Nat.le_of_ble_eq_true rfl) ?_
    exact W.iret (v := 0) hx hb hr (fun t ht hW => ⟨⟨some (.int 0), _, rfl, ⟨⟨0, rfl⟩, Or.inr ⟨_, rfl⟩⟩, by rw [ht]; exact hP3⟩, hS3.F ht⟩) hS3.2.2 dL_river_18 hlocks
theorem g_L_wall : GoodIn TT (wsV RL 15 RX6 yX6_wall (.code yX6_wall cX6_wall 3 (some .int) :: TT)) := goodIn_app (a := [.methodLink RL 15 yX6_wall, .instanceMethod yX6_wall, .selects RX6 yX6_wall yX6_wall, .initialized RX6]) (z_goodI (z_mem4 (inTT (by decide +kernel) rfl) (inTT (by decide +kernel) rfl) (inTT (by decide +kernel) rfl) (inTT (by decide +kernel) rfl))) (fun w hw => (List.mem_cons.mp hw).elim (fun e => by rw [e]; exact ⟨inTT (by decide +kernel) rfl, good_of_word rfl⟩) (fun h => ⟨h, good_of_word (TT_good _ h)⟩))
set_option maxHeartbeats 4000000 in
theorem c_L_wall (l : Launch) (hst : l.stackTraces = false) (G : va_G) (k : Nat → ClassId) (a : Nat → Nat) (sz : Nat) (μ : zM) (hH0 : a_H μ) (p0 : Int32) : Met l yL_wall (.codeWith yL_wall cL_wall 4 (some .int) [(0, 9, 12, 13)] :: TT) (z_rom 703 1) (va_Pc [.ref (a 0), .int p0, .ref (a 78)] (pz G k a μ sz)) (z_Qc (fun r μ' => (∃ x, r = some (.int x)) ∧ (μ' = μ ∨ ∃ y, μ' = z_uj μ 78 0 y)) G k a 79 (va_A (z_W a k 79 μ) sz)) 1 16 (va_A (z_W a k 79 μ) sz) := by
  refine va_MetW (cc := cL_wall) (maxL := 4) (ret := (some .int)) (hh := [(0, 9, 12, 13)]) (by decide) rfl ?_
  intro p e s m args below meth c s₁ B hml hv
  obtain ⟨rfl, ⟨⟨hsz, ⟨hP, hK, hN⟩, hD0⟩, hRO⟩, hXW⟩ := hv
  have hx := B.exec
  have hb := B.bytes
  have hr := B.returns
  have hts0 := atoms_spec (ws := (.codeWith yL_wall cL_wall 4 (some .int) [(0, 9, 12, 13)] :: TT)) B.pre
  have hts : ∀ w ∈ TT, w.before ([.ref (a 0), .int p0, .ref (a 78)] : List Value).toArray s = true := fun w h => hts0 w (List.mem_cons_of_mem _ h)
  have hown : s.vm.findClass RL = some m.cls := findClass_of_methodNamed B.named
  have hlocks := B.notSynchronized
  have htab := vx_table (x := yL_wall) B (hts0 (.codeWith yL_wall cL_wall 4 (some .int) [(0, 9, 12, 13)]) List.mem_cons_self)
  subst hsz
  have hD1 := hD0.self (sz := s.heap.size)
  generalize hAe : va_A (z_W a k 79 μ) s.heap.size = A at hD1 hRO hXW ⊢
  have hD : ∀ μ, va_D A (z_W a k 79 μ) := fun μ' => z_W_D hD1 μ'
  have hA : ∀ q : Nat, s.heap.size ≤ q → A q := fun q h => by rw [← hAe]; exact Or.inr h
  have hS : va_S A s.heap s.heap [] := va_S.rf
  have hl := lv_entry ([.ref (a 0), .int p0, .ref (a 78)]) (n := 4) (Nat.le_of_ble_eq_true rfl)
  rw [lg_entry_eq]
  generalize (lg_sl ([.ref (a 0), .int p0, .ref (a 78)]) ++ List.replicate (4 - (lg_sl ([.ref (a 0), .int p0, .ref (a 78)])).length) Slot.unset).toArray = ls at hl ⊢
  have hl : lv_has ls 4 [(0, .ref (a 0)), (1, .int p0), (2, .ref (a 78))] := hl
  refine lv_aload_n hx hb dL_wall_0 rfl (lv_at hl 2 rfl) ?_
  refine lv_iconst (v := 0) hx hb dL_wall_1 (by decide) ?_
  refine lv_aload_n hx hb dL_wall_2 rfl (lv_at hl 0 rfl) ?_
  refine lv_iload_n hx hb dL_wall_3 rfl (lv_at hl 1 rfl) ?_
  have hFc := wZ_F (hD μ) hS hA
  refine vx_calli (vx_runV (As := [.int p0]) (rest := [.int 0, .ref (a 78)]) ⟨hx, hb, hml, hown, hts⟩ (c_X6_wall l hst G k a s.heap.size μ hH0 p0) (cwV 1 hts g_L_wall rfl rfl rfl (by decide +kernel) ⟨Nat.le_of_ble_eq_true rfl, Nat.le_of_ble_eq_true rfl⟩) ⟨pz_bl, va_recv hK hP (ci := 5) (q0 := 0) (fs := (List.range (z_sh 0).2.2).map (fun j => z_tr a (z_gv μ 5 0 j))) rfl (by rw [z_W_at (by decide), z_E0 (N := 0) (ci := 0) (by decide)]; rfl), pz_pre (av := [.ref (a 0), .int p0]) hP hD hK hN hRO hS hA hXW⟩ rfl rfl hl.1 rfl (lv_room (Nat.le_of_ble_eq_true rfl)) dL_wall_4 ⟨Nat.le_of_ble_eq_true rfl, Nat.le_of_ble_eq_true rfl⟩) hS (fun q _ h => hFc q h) hFc (fun q _ h => hFc q h) (fun E ce q9 u t H1 locs1 ht hvm hpx hBX hz hk1 hS1 hce hcv hcl => ?_) (fun r u t H1 locs1 ht hvm hp hB hz hk1 hS1 => ?_)
  · obtain ⟨rfl, hP1⟩ := hBX
    rw [ht] at hP1
    refine cx_catch (own := RL) (name := cx_E) hown _ _ htab (by decide) (by decide) (hts (.classLink RL 13 "java/util/NoSuchElementException") (inTT (by decide +kernel) rfl)) (va_Nw.use rfl hXW.1.2.2.2) hce hcv hcl ?_
    refine W.eq (g2 := F0 m 12 ls [.ref q9]) rfl ?_
    refine lv_astore_n (lv' := [(3, .ref q9), (0, .ref (a 0)), (1, .int p0), (2, .ref (a 78))]) hx hb dL_wall_12 rfl hl (by decide) rfl (fun ls hl => ?_)
    refine lv_iconst (v := 1) hx hb dL_wall_13 (by decide) ?_
    refine W.widen (k := 1) (n := 16) (Nat.le_of_ble_eq_true rfl) (Nat.le_of_ble_eq_true rfl) ?_
    exact W.iret (v := 1) hx hb hr (fun t ht hW => ⟨⟨some (.int 1), μ, rfl, ⟨⟨1, rfl⟩, Or.inl rfl⟩, by rw [ht]; exact hP1⟩, hS1.F ht⟩) hS1.2.2 dL_wall_14 hlocks
  · rw [ht] at hB
    refine lv_i2l hx hb dL_wall_7 rfl ?_
    have hy2 : z_hp z_x0 79 9 .lastore [.long r.toInt64, .int 0, .ref 78] μ = some ([], z_uj μ 78 0 r.toInt64) := rfl
    refine zs_hp (n := 79) hx hb hy2 dL_wall_8 (hml.trans hl.1.symm) hts hown hK hD (Nat.le_refl _) hRO (Nat.le_of_ble_eq_true rfl) (Nat.le_of_ble_eq_true rfl) (Nat.le_of_ble_eq_true rfl) (Nat.le_of_ble_eq_true rfl) hB hS1 (fun H3 locs3 hP3 hS3 => ?_)
    refine W.eq (g2 := F0 m 9 ls []) rfl ?_
    refine lv_goto (tgt := 15) hx hb dL_wall_9 (by decide) ?_
    refine lv_iconst (v := 0) hx hb dL_wall_15 (by decide) ?_
    refine W.widen (k := 1) (n := 16) (Nat.le_of_ble_eq_true rfl) (Nat.le_of_ble_eq_true rfl) ?_
    exact W.iret (v := 0) hx hb hr (fun t ht hW => ⟨⟨some (.int 0), _, rfl, ⟨⟨0, rfl⟩, Or.inr ⟨_, rfl⟩⟩, by rw [ht]; exact hP3⟩, hS3.F ht⟩) hS3.2.2 dL_wall_16 hlocks

theorem dL_law_1097 : decode cL_law 1097 = .ok (.iinc 4 7, 3) := by decide +kernel
theorem dL_law_1100 : decode cL_law 1100 = .ok (.goto (-1077), 3) := by decide +kernel
theorem dL_law_23 : decode cL_law 23 = .ok (.iload 4, 2) := by decide +kernel
theorem dL_law_25 : decode cL_law 25 = .ok (.aload_n 0, 1) := by decide +kernel
theorem dL_law_26 : decode cL_law 26 = .ok (.arraylength, 1) := by decide +kernel
theorem dL_law_27 : decode cL_law 27 = .ok (.bipush 7, 2) := by decide +kernel
theorem dL_law_29 : decode cL_law 29 = .ok (.isub, 1) := by decide +kernel
theorem dL_law_30 : decode cL_law 30 = .ok (.if_icmp .gt 1073, 3) := by decide +kernel
theorem dL_law_1103 : decode cL_law 1103 = .ok (.iconst 1, 1) := by decide +kernel
theorem dL_law_1104 : decode cL_law 1104 = .ok (.ireturn, 1) := by decide +kernel
def R_law : String := "TileHouseLaw"
def lw_P (b : Addr) (xs : List Int32) (args : Array Value) (s : State) : Prop := args = #[.ref b] ∧ s.IntsAt b xs ∧ xs.length ≤ 7 ∧ (Jvm.Cond.and given_1 narrow_1).before args s = true
def lw_Q (_ : Array Value) (s : State) (o : Outcome) (t : State) : Prop := o = .returned (some (.int 1)) ∧ Framed s o t [] 600002 7302232
def lw_Z (below : List Frame) (a : Array Value) (s : State) : State → Prop := fun t => ∃ o, t.status = .running ∧ Ended t below o ∧ lw_Q a s o t
/-- the law's own end, with 1 on the stack, nothing written that was there before, its room as the claim has it -/
theorem lw_ret {p : Program} {l : Launch} {e : Env} {s : State} {m : MethodId} {below : List Frame} {meth : Method} {c : Code} {b : Nat} (hx : p.tables.exec = Jvm.exec) (hb : c.code = code) (hr : meth.sig.returnType = ret) (hlocks : meth.locks = false) {pc : Nat} {H : Heap} {ls : Array Slot} (hdg : decode code pc = .ok (.ireturn, 1)) : W p l e room_1 s m #[Value.ref b] below meth c H [] 600002 7302232 (lw_Z below #[Value.ref b] s) (F0 m pc ls [.int 1]) := by
  intro T hT X
  obtain ⟨fs, hret, hrun, hended, hW, hframe⟩ := X.leave (v := some (.int 1)) (hlocks := hlocks) (fun h => by rw [hr] at h; cases h)
  have hmeth' : T.vm.method? m = some meth := X.method'
  refine ⟨T.setFrames fs, ?_, .returned (some (.int 1)), hrun, hended, rfl, ⟨_, rfl⟩, hW, hframe⟩
  jvm_step X.here [X.here.top, hx, hb, hdg, hmeth', hr, ret, narrow_b1]
  (try refine ⟨rfl, ?_⟩); (try refine ⟨rfl, ?_⟩)
  first | (intro acts; rw [hret _ acts rfl rfl rfl]) | rw [hret _ _ rfl rfl rfl]
  exact Steps.refl _
/-- what holds at the law's entry: the machine, the code, the tables' words (any of lw_tbl by 'hts w (by decide +kernel)'), the script of L ints xs at the cell b, what the Statement gives of the start (any of its parts by flat_of_before) -/
def lw_At (p : Program) (s : State) (m : MethodId) (meth : Method) (c : Code) (b L : Nat) (xs : Nat → Int32) : Prop :=
  p.tables.exec = Jvm.exec ∧ c.code = code ∧ meth.sig.returnType = ret ∧ c.maxLocals = 7 ∧ s.vm.findClass R_law = some m.cls ∧ (∀ w ∈ lw_tbl, w.before #[Value.ref b] s = true) ∧ va_X b L xs s s.heap ∧ b < s.heap.size ∧ meth.locks = false ∧ (Jvm.Cond.and given_1 narrow_1).before #[Value.ref b] s = true
theorem seat5 (x : Int32) : x = 0 ∨ x = 1 ∨ x = 2 ∨ x = 3 ∨ ¬ vp_in x 4 := by
  by_cases h : vp_in x 4
  · obtain ⟨j, hj, rfl⟩ := vp_in_of h (by decide)
    rcases (show j = 0 ∨ j = 1 ∨ j = 2 ∨ j = 3 by omega) with rfl | rfl | rfl | rfl
    · exact Or.inl rfl
    · exact Or.inr (Or.inl rfl)
    · exact Or.inr (Or.inr (Or.inl rfl))
    · exact Or.inr (Or.inr (Or.inr (Or.inl rfl)))
  · exact Or.inr (Or.inr (Or.inr (Or.inr h)))
theorem iff_eq {P : Prop} {r1 r2 : Int32} (h1 : (r1 = 1 ∧ P) ∨ (r1 = 0 ∧ ¬ P)) (h2 : (r2 = 1 ∧ P) ∨ (r2 = 0 ∧ ¬ P)) : r1 = r2 := by
  rcases h1 with ⟨rfl, h1⟩ | ⟨rfl, h1⟩ <;> rcases h2 with ⟨rfl, h2⟩ | ⟨rfl, h2⟩
  · rfl
  · exact absurd h1 h2
  · exact absurd h2 h1
  · rfl
theorem seat_eq {a b r1 r2 : Int32} (h1 : (vp_in a 4 ∧ r1 = seatF a b) ∨ (¬ vp_in a 4 ∧ r1 = (-1))) (h2 : (vp_in a 4 ∧ r2 = seatF a b) ∨ (¬ vp_in a 4 ∧ r2 = (-1))) : r1 = r2 := by
  rcases h1 with ⟨h, e1⟩ | ⟨h, e1⟩ <;> rcases h2 with ⟨h', e2⟩ | ⟨h', e2⟩
  · rw [e1, e2]
  · exact absurd h h'
  · exact absurd h' h
  · rw [e1, e2]
theorem str_of {args : Array Value} {s : State} {t : Term} {nm : String} (h : (Cond.exactly t nm).before args s = true) : ∃ a : Nat, t.eval args s none [] s = some (.ref a) := by
  simp only [Cond.before, Cond.holds, Cond.value] at h
  cases ht : t.eval args s none [] s with
  | none => simp [ht] at h
  | some v =>
    cases v with
    | ref a => exact ⟨a, rfl⟩
    | null => cases hc : s.vm.findClass nm <;> simp [ht, hc] at h
    | _ => simp [ht] at h
theorem ar_int {args : Array Value} {s : State} (h : (Cond.arrayClass .int).before args s = true) : ∃ cA : ClassId, ArrOfT s cA .int ∧ va_RA s cA .int := by
  obtain ⟨c, k, comp, h1, h2, h3⟩ := Cond.arrayClass_spec h
  exact ⟨c, fun n z => ⟨fun k h => (by cases h), k, h2, comp, h3⟩, h1⟩
theorem ar_long {args : Array Value} {s : State} (h : (Cond.arrayClass .long).before args s = true) : ∃ cA : ClassId, ArrOfT s cA .long ∧ va_RA s cA .long := by
  obtain ⟨c, k, comp, h1, h2, h3⟩ := Cond.arrayClass_spec h
  exact ⟨c, fun n z => ⟨fun k h => (by cases h), k, h2, comp, h3⟩, h1⟩
theorem ar_bool {args : Array Value} {s : State} (h : (Cond.arrayClass .boolean).before args s = true) : ∃ cA : ClassId, ArrOfT s cA .boolean ∧ va_RA s cA .boolean := by
  obtain ⟨c, k, comp, h1, h2, h3⟩ := Cond.arrayClass_spec h
  exact ⟨c, fun n z => ⟨fun k h => (by cases h), k, h2, comp, h3⟩, h1⟩
theorem ar_obj {args : Array Value} {s : State} {C : String} (h : (Cond.arrayOver (.object C)).before args s = true) : ∃ cA : ClassId, ArrOfT s cA (.object C) ∧ va_RA s cA (.object C) := by
  obtain ⟨comp, c, k, h1, h2, h3, h4, h5⟩ := Cond.arrayOver_spec h
  exact ⟨c, fun n z => ⟨fun k h => (by cases h), k, h3, comp, h4⟩, k, comp, h3, h4, h1, h5⟩
abbrev lwW (k : Nat → ClassId) (qx qm qo : Nat) (ux um : Nat → Nat) : va_W := [(qx, .inr (5, [.ref (ux 0), .ref (ux 1), .ref (ux 3), .ref (ux 7), .ref (ux 8), .ref (ux 13), .int 0, .int 0, .int 0, .int 0, .int 0, .int 0, .int 0, .int 0, .int 0, .int (-1), .int 0, .int 0, .long 0])), ((ux 0), .inl (k 3, 4, .inr (.inr (.inr (.inr (va_up (va_up (va_up (va_up (fun _ => none) 0 (some (ux 17))) 1 (some (ux 25))) 2 (some (ux 33))) 3 (some (ux 41)))))))), ((ux 1), .inr (3, [.ref (ux 2), .int 0, .int 0, .int 0])), ((ux 2), .inl (k 0, 136, .inl (fun _ => 0))), ((ux 3), .inr (0, [.int 0, .int 0, .int 0, .long 0, .int 0, .null, .int 0, .int 0, .int 0, .int 0, .int 0, .int 0, .long 0, .ref (ux 4), .ref (ux 5), .int 0, .long 0, .long 0, .ref (ux 6)])), ((ux 4), .inl (k 0, 4, .inl (fun _ => 0))), ((ux 5), .inl (k 0, 4, .inl (fun _ => 0))), ((ux 6), .inl (k 0, 4, .inl (fun _ => 0))), ((ux 7), .inl (k 4, 4, .inr (.inr (.inr (.inr (va_up (va_up (va_up (va_up (fun _ => none) 0 (some (ux 24))) 1 (some (ux 32))) 2 (some (ux 40))) 3 (some (ux 48)))))))), ((ux 8), .inr (2, [.ref (ux 9), .ref (ux 10), .ref (ux 11), .ref (ux 12), .int 0, .int 0])), ((ux 9), .inl (k 0, 34, .inl (fun _ => 0))), ((ux 10), .inl (k 0, 34, .inl (fun _ => 0))), ((ux 11), .inl (k 0, 4, .inl (fun _ => 0))), ((ux 12), .inl (k 0, 4, .inl (fun _ => 0))), ((ux 13), .inr (0, [.int 0, .int 0, .int 0, .long 0, .int 0, .null, .int 0, .int 0, .int 0, .int 0, .int 0, .int 0, .long 0, .ref (ux 14), .ref (ux 15), .int 0, .long 0, .long 0, .ref (ux 16)])), ((ux 14), .inl (k 0, 4, .inl (fun _ => 0))), ((ux 15), .inl (k 0, 4, .inl (fun _ => 0))), ((ux 16), .inl (k 0, 4, .inl (fun _ => 0))), ((ux 17), .inr (1, [.ref (ux 18), .ref (ux 23), .int 0, .long 0, .int 25000, .int 0, .int 0, .int 0, .int 0, .int 0])), ((ux 18), .inr (2, [.ref (ux 19), .ref (ux 20), .ref (ux 21), .ref (ux 22), .int 0, .int 0])), ((ux 19), .inl (k 0, 34, .inl (fun _ => 0))), ((ux 20), .inl (k 0, 34, .inl (fun _ => 0))), ((ux 21), .inl (k 0, 4, .inl (fun _ => 0))), ((ux 22), .inl (k 0, 4, .inl (fun _ => 0))), ((ux 23), .inl (k 0, 86, .inl (fun _ => 0))), ((ux 24), .inr (4, [.int 0, .int 0, .int 0, .int 0, .int 0, .int 0, .int 0, .long 0])), ((ux 25), .inr (1, [.ref (ux 26), .ref (ux 31), .int 0, .long 0, .int 25000, .int 0, .int 0, .int 0, .int 0, .int 0])), ((ux 26), .inr (2, [.ref (ux 27), .ref (ux 28), .ref (ux 29), .ref (ux 30), .int 0, .int 0])), ((ux 27), .inl (k 0, 34, .inl (fun _ => 0))), ((ux 28), .inl (k 0, 34, .inl (fun _ => 0))), ((ux 29), .inl (k 0, 4, .inl (fun _ => 0))), ((ux 30), .inl (k 0, 4, .inl (fun _ => 0))), ((ux 31), .inl (k 0, 86, .inl (fun _ => 0))), ((ux 32), .inr (4, [.int 0, .int 0, .int 0, .int 0, .int 0, .int 0, .int 0, .long 0])), ((ux 33), .inr (1, [.ref (ux 34), .ref (ux 39), .int 0, .long 0, .int 25000, .int 0, .int 0, .int 0, .int 0, .int 0])), ((ux 34), .inr (2, [.ref (ux 35), .ref (ux 36), .ref (ux 37), .ref (ux 38), .int 0, .int 0])), ((ux 35), .inl (k 0, 34, .inl (fun _ => 0))), ((ux 36), .inl (k 0, 34, .inl (fun _ => 0))), ((ux 37), .inl (k 0, 4, .inl (fun _ => 0))), ((ux 38), .inl (k 0, 4, .inl (fun _ => 0))), ((ux 39), .inl (k 0, 86, .inl (fun _ => 0))), ((ux 40), .inr (4, [.int 0, .int 0, .int 0, .int 0, .int 0, .int 0, .int 0, .long 0])), ((ux 41), .inr (1, [.ref (ux 42), .ref (ux 47), .int 0, .long 0, .int 25000, .int 0, .int 0, .int 0, .int 0, .int 0])), ((ux 42), .inr (2, [.ref (ux 43), .ref (ux 44), .ref (ux 45), .ref (ux 46), .int 0, .int 0])), ((ux 43), .inl (k 0, 34, .inl (fun _ => 0))), ((ux 44), .inl (k 0, 34, .inl (fun _ => 0))), ((ux 45), .inl (k 0, 4, .inl (fun _ => 0))), ((ux 46), .inl (k 0, 4, .inl (fun _ => 0))), ((ux 47), .inl (k 0, 86, .inl (fun _ => 0))), ((ux 48), .inr (4, [.int 0, .int 0, .int 0, .int 0, .int 0, .int 0, .int 0, .long 0])), (qm, .inr (6, [.int 0, .ref (um 0), .ref (um 1), .ref (um 2), .int 0, .ref (um 3), .ref (um 4), .int 0, .int 0, .int 0, .int 0, .int 0, .long 0, .int 0, .int 0, .int 0, .int 0, .long 0, .int 0, .ref (um 5), .ref (um 6), .int 0, .int 0, .int 0, .long 0, .long 0, .ref (um 7), .ref (um 8), .ref (um 9), .ref (um 10), .ref (um 11), .ref (um 12), .ref (um 13), .ref (um 14), .ref (um 15), .ref (um 16), .ref (um 17), .ref (um 18), .ref (um 19), .ref (um 20), .int 0, .int 0, .int 0, .int 0, .int 0, .int 0, .int 0, .int 0, .int 0, .int (-1), .int (-1), .int (-1), .int 0, .int 0, .int 0, .int 0, .int 0, .int 0, .int 0, .int 0, .ref (um 21), .ref (um 22), .ref (um 23), .ref (um 24), .ref (um 25), .ref (um 26), .int 0, .long 0])), ((um 0), .inl (k 0, 34, .inl (fun _ => 0))), ((um 1), .inl (k 0, 8, .inl (fun _ => 0))), ((um 2), .inl (k 0, 8, .inl (fun _ => 0))), ((um 3), .inl (k 0, 5, .inl (fun _ => 0))), ((um 4), .inl (k 0, 5, .inl (fun _ => 0))), ((um 5), .inl (k 0, 4, .inl (fun _ => 0))), ((um 6), .inl (k 0, 4, .inl (fun _ => 0))), ((um 7), .inl (k 0, 34, .inl (fun _ => 0))), ((um 8), .inl (k 0, 136, .inl (fun _ => 0))), ((um 9), .inl (k 0, 136, .inl (fun _ => 0))), ((um 10), .inl (k 0, 4, .inl (upd (upd (upd (upd (fun _ => 0) (0 : Int32).toNatClampNeg 25000) (1 : Int32).toNatClampNeg 25000) (2 : Int32).toNatClampNeg 25000) (3 : Int32).toNatClampNeg 25000))), ((um 11), .inl (k 0, 16, .inl (fun _ => 0))), ((um 12), .inl (k 0, 16, .inl (fun _ => 0))), ((um 13), .inl (k 0, 4, .inl (fun _ => 0))), ((um 14), .inl (k 0, 544, .inl (fun _ => 0))), ((um 15), .inl (k 0, 4, .inl (fun _ => 0))), ((um 16), .inl (k 0, 4, .inl (fun _ => 0))), ((um 17), .inl (k 0, 4, .inl (fun _ => 0))), ((um 18), .inl (k 2, 4, .inl (fun _ => 0))), ((um 19), .inl (k 2, 4, .inl (fun _ => 0))), ((um 20), .inl (k 2, 4, .inl (fun _ => 0))), ((um 21), .inl (k 0, 28, .inl (fun _ => 0))), ((um 22), .inl (k 1, 4, .inr (.inl (fun _ => 0)))), ((um 23), .inl (k 0, 34, .inl (fun _ => 0))), ((um 24), .inl (k 0, 4, .inl (fun _ => 0))), ((um 25), .inl (k 0, 4, .inl (fun _ => 0))), ((um 26), .inl (k 0, 4, .inl (fun _ => 0))), (qo, .inl (k 1, 1, .inr (.inl (fun _ => 0))))]
set_option maxHeartbeats 4000000 in
theorem law_end {p : Program} {e : Env} {s : State} {m : MethodId} {below : List Frame} {meth : Method} {c : Code} (l : Launch) {b : Nat} {xs : Nat → Int32} (C0 : lw_At p s m meth c b 7 xs) {A : Nat → Prop} (hA2 : ∀ q : Nat, A q → s.heap.size ≤ q) {H : Heap} {locs : List Loc} (hS : va_S A s.heap H locs) {ls : Array Slot} (hl : lv_has ls 7 [(4, .int 0), (0, .ref b)]) {cells slots : Nat} (hc : cells ≤ 600002) (hs : slots ≤ 7302232) : W p l e room_1 s m #[Value.ref b] below meth c H locs cells slots (lw_Z below #[Value.ref b] s) (F0 m 1097 ls []) := by
  obtain ⟨hx, hb, hr, hml, hown, hts0, hX, hbl, hlocks, hgv⟩ := id C0
  replace hb : c.code = cL_law := hb
  have hbA : ¬ A b := fun h9 => Nat.not_le.mpr hbl (hA2 b h9)
  refine lv_iinc (v := 7) (lv' := [(4, .int 7), (0, .ref b)]) hx hb dL_law_1097 hl (k := 0) rfl (by decide) (by decide) rfl (fun ls hl => ?_)
  refine lv_goto (tgt := 23) hx hb dL_law_1100 (by decide) ?_
  refine lv_iload hx hb dL_law_23 (lv_at hl 0 rfl) ?_
  refine lv_aload_n hx hb dL_law_25 rfl (lv_at hl 1 rfl) ?_
  refine va_slen hx hb hX hbl hbA hS dL_law_26 ?_
  refine lv_topi (fun z1 ez1 => ?_)
  obtain rfl : z1 = 7 := ez1.trans (by decide)
  refine lv_bipush (v := 7) hx hb dL_law_27 (by decide) ?_
  refine lv_isub hx hb dL_law_29 ?_
  refine lv_topi (fun z2 ez2 => ?_)
  obtain rfl : z2 = 0 := ez2.trans (by decide)
  refine lv_icmp_gt (tgt := 1103) hx hb dL_law_30 (by decide) (fun _ => ?_) (fun c9 => absurd (by decide) c9)
  refine lv_iconst (v := 1) hx hb dL_law_1103 (by decide) ?_
  refine va_forget (fun q h => hA2 _ (hS.2.2 q h)) ?_
  refine W.widen (k := 600002) (n := 7302232) hc hs ?_
  exact lw_ret hx hb hr hlocks dL_law_1104

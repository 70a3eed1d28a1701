/-! the words of this proof: the array classes, the nest's links, what a contract asks and gives -/
abbrev tyF (k : Nat → ClassId) : List (ClassId × FieldType) := [(k 0, .int), (k 1, .long), (k 2, .boolean), (k 3, .object "TileHouse$Seat"), (k 4, .object "TileHouse$Win")]
def NW (U : State) : Prop := (va_Nw (.methodLinkNest RX6 17 yX4_init "TileHouse") U ∧ va_Nw (.methodLinkNest RX6 24 yX1_init "TileHouse") U ∧ va_Nw (.methodLinkNest RX6 37 yX3_init "TileHouse") U ∧ va_Nw (.methodLinkNest RX6 52 yX2_init "TileHouse") U ∧ va_Nw (.methodLinkNest RX6 53 yX5_init "TileHouse") U) ∧ (va_Nw (.methodLinkNest RX2 11 yX3_init "TileHouse") U ∧ va_Nw (.methodLinkNest RX3 31 yX6_isKind "TileHouse") U ∧ va_Nw (.methodLinkNest RX3 74 yX6_startsRun "TileHouse") U ∧ va_Nw (.methodLinkNest RX3 39 yX6_tilesOfEach "TileHouse") U ∧ va_Nw (.methodLinkNest RX1 156 yX6_holds "TileHouse") U ∧ va_Nw (.methodLinkNest RX1 160 yX6_startsRun "TileHouse") U) ∧ (va_AO "TileHouse$Seat" U ∧ va_AO "TileHouse$Win" U)
theorem nw_X6_17 {U : State} (h : NW U) : va_Nw (.methodLinkNest RX6 17 yX4_init "TileHouse") U := h.1.1
theorem nw_X6_24 {U : State} (h : NW U) : va_Nw (.methodLinkNest RX6 24 yX1_init "TileHouse") U := h.1.2.1
theorem nw_X6_37 {U : State} (h : NW U) : va_Nw (.methodLinkNest RX6 37 yX3_init "TileHouse") U := h.1.2.2.1
theorem nw_X6_52 {U : State} (h : NW U) : va_Nw (.methodLinkNest RX6 52 yX2_init "TileHouse") U := h.1.2.2.2.1
theorem nw_X6_53 {U : State} (h : NW U) : va_Nw (.methodLinkNest RX6 53 yX5_init "TileHouse") U := h.1.2.2.2.2
theorem nw_X2_11 {U : State} (h : NW U) : va_Nw (.methodLinkNest RX2 11 yX3_init "TileHouse") U := h.2.1.1
theorem nw_X3_31 {U : State} (h : NW U) : va_Nw (.methodLinkNest RX3 31 yX6_isKind "TileHouse") U := h.2.1.2.1
theorem nw_X3_74 {U : State} (h : NW U) : va_Nw (.methodLinkNest RX3 74 yX6_startsRun "TileHouse") U := h.2.1.2.2.1
theorem nw_X3_39 {U : State} (h : NW U) : va_Nw (.methodLinkNest RX3 39 yX6_tilesOfEach "TileHouse") U := h.2.1.2.2.2.1
theorem nw_X1_156 {U : State} (h : NW U) : va_Nw (.methodLinkNest RX1 156 yX6_holds "TileHouse") U := h.2.1.2.2.2.2.1
theorem nw_X1_160 {U : State} (h : NW U) : va_Nw (.methodLinkNest RX1 160 yX6_startsRun "TileHouse") U := h.2.1.2.2.2.2.2
theorem NW.warm {s U : State} (h : NW s) (hW : s.WarmedH U.vm) : NW U := by
  obtain ⟨⟨a1, a2, a3, a4, a5⟩, ⟨b1, b2, b3, b4, b5, b6⟩, c1, c2⟩ := h
  exact ⟨⟨a1.warmM hW, a2.warmM hW, a3.warmM hW, a4.warmM hW, a5.warmM hW⟩, ⟨b1.warmM hW, b2.warmM hW, b3.warmM hW, b4.warmM hW, b5.warmM hW, b6.warmM hW⟩, c1.moved hW.alike, c2.moved hW.alike⟩
theorem NW.same {s U : State} (h : NW s) (hv : s.vm = U.vm) : NW U := by
  obtain ⟨⟨a1, a2, a3, a4, a5⟩, ⟨b1, b2, b3, b4, b5, b6⟩, c1, c2⟩ := h
  exact ⟨⟨a1.same rfl hv, a2.same rfl hv, a3.same rfl hv, a4.same rfl hv, a5.same rfl hv⟩, ⟨b1.same rfl hv, b2.same rfl hv, b3.same rfl hv, b4.same rfl hv, b5.same rfl hv, b6.same rfl hv⟩, c1.moved (by rw [hv]; exact Vm.Alike.refl _), c2.moved (by rw [hv]; exact Vm.Alike.refl _)⟩
def pr (G : va_G) (k : Nat → ClassId) (ws : va_W) (U : State) : Prop := va_P G vwCl ws U.heap ∧ va_K G vwCl (tyF k) U ∧ NW U
def pq (G : va_G) (k : Nat → ClassId) (ws : va_W) (sz : Nat) (U : State) : Prop := U.heap.size = sz ∧ pr G k ws U ∧ va_D (fun _ => True) ws
def pt (G : va_G) (A : Nat → Prop) (ws : va_W) (t : State) : Prop := va_P G vwCl ws t.heap ∧ va_D A ws
theorem pr_bl {av : List Value} {G : va_G} {k : Nat → ClassId} {ws : va_W} : FrameBlind (va_Pc av (pr G k ws)) := fun a U g mk q => ⟨q.1, q.2.1, va_K.moved (u := U) (U := U.calling g mk a) (Vm.Alike.refl U.vm) q.2.2.1, q.2.2.2.same rfl⟩
theorem pq_bl {av : List Value} {G : va_G} {k : Nat → ClassId} {ws : va_W} {sz : Nat} : FrameBlind (va_Pc av (pq G k ws sz)) := fun a U g mk q => ⟨q.1, q.2.1, ⟨q.2.2.1.1, va_K.moved (u := U) (U := U.calling g mk a) (Vm.Alike.refl U.vm) q.2.2.1.2.1, q.2.2.1.2.2.same rfl⟩, q.2.2.2⟩
theorem pr_pre {av : List Value} {G : va_G} {k : Nat → ClassId} {ws : va_W} {H : Heap} {s : State} (hP : va_P G vwCl ws H) (hK : va_K G vwCl (tyF k) s) (hN : NW s) : ∀ U : State, U.heap = H → s.WarmedH U.vm → va_Pc av (pr G k ws) av.toArray U := fun U hU hW => ⟨rfl, by rw [hU]; exact hP, va_K.moved hW.alike hK, hN.warm hW⟩
theorem pq_pre {av : List Value} {G : va_G} {k : Nat → ClassId} {A : Nat → Prop} {ws : va_W} {H : Heap} {s : State} (hP : va_P G vwCl ws H) (hD : va_D A ws) (hK : va_K G vwCl (tyF k) s) (hN : NW s) : ∀ U : State, U.heap = H → s.WarmedH U.vm → va_Pc av (pq G k ws H.size) av.toArray U := fun U hU hW => ⟨rfl, by rw [hU], ⟨by rw [hU]; exact hP, va_K.moved hW.alike hK, hN.warm hW⟩, hD.weaken (fun _ _ _ _ => trivial)⟩
theorem vP0 {G : va_G} {H : Heap} : va_P G vwCl [] H := fun k q h => by simp at h
theorem vD0 {A : Nat → Prop} : va_D A [] := ⟨fun i j p q h => by simp at h, fun k q h => by simp at h⟩
theorem ty_same0 {G : va_G} {k : Nat → ClassId} {cA : ClassId} {s : State} (h1 : va_K G vwCl (tyF k ++ [(cA, .int)]) s) (h : va_K G vwCl (tyF k) s) : cA = k 0 := Option.some.inj (((h1.2 5 _ rfl).2).symm.trans ((h.2 0 _ rfl).2))
theorem ty_same1 {G : va_G} {k : Nat → ClassId} {cA : ClassId} {s : State} (h1 : va_K G vwCl (tyF k ++ [(cA, .long)]) s) (h : va_K G vwCl (tyF k) s) : cA = k 1 := Option.some.inj (((h1.2 5 _ rfl).2).symm.trans ((h.2 1 _ rfl).2))
theorem ty_same2 {G : va_G} {k : Nat → ClassId} {cA : ClassId} {s : State} (h1 : va_K G vwCl (tyF k ++ [(cA, .boolean)]) s) (h : va_K G vwCl (tyF k) s) : cA = k 2 := Option.some.inj (((h1.2 5 _ rfl).2).symm.trans ((h.2 2 _ rfl).2))
section QC
variable {p : Program} {l : Launch} {e : Env} {R : Room} {s : State} {m : MethodId} {args : Array Value} {below : List Frame} {meth : Method} {c : Code} {H : Heap} {locs : List Loc} {cells slots : Nat} {Q : State → Prop} {pc : Nat} {ls : Array Slot} {st0 rest : List Value} {a : Array Value}
theorem q_calli {post : Int32 → Prop} (hr : va_Run p l e R s m args below meth c H locs cells slots 0 0 (F0 m pc ls st0) rest (vp_Si post a) (fun _ => False)) (kk : ∀ r : Int32, post r → W p l e R s m args below meth c H locs cells slots Q (F0 m (pc + 3) ls (.int r :: rest))) : W p l e R s m args below meth c H locs cells slots Q (F0 m pc ls st0) := by
  intro T hT X
  obtain ⟨v, st₀, t, T', L, h0, X', hL, e1, e2, ⟨r, hv, hp, hh⟩, st⟩ := hr T hT X
  cases hv
  obtain ⟨t2, a1, b1⟩ := kk r hp T' (by rw [e1, hh, h0]) (Stand.forget X' (fun q h => (hL q h).elim))
  exact ⟨t2, st t2 a1, b1⟩
theorem q_calll {post : Int64 → Prop} (hr : va_Run p l e R s m args below meth c H locs cells slots 0 0 (F0 m pc ls st0) rest (vp_Sl post a) (fun _ => False)) (kk : ∀ r : Int64, post r → W p l e R s m args below meth c H locs cells slots Q (F0 m (pc + 3) ls (.long r :: rest))) : W p l e R s m args below meth c H locs cells slots Q (F0 m pc ls st0) := by
  intro T hT X
  obtain ⟨v, st₀, t, T', L, h0, X', hL, e1, e2, ⟨r, hv, hp, hh⟩, st⟩ := hr T hT X
  cases hv
  obtain ⟨t2, a1, b1⟩ := kk r hp T' (by rw [e1, hh, h0]) (Stand.forget X' (fun q h => (hL q h).elim))
  exact ⟨t2, st t2 a1, b1⟩
theorem q_callr {post : Nat → Prop} (hr : va_Run p l e R s m args below meth c H locs cells slots 0 0 (F0 m pc ls st0) rest (va_Sr post Value.ref a) (fun _ => False)) (kk : ∀ r : Nat, post r → W p l e R s m args below meth c H locs cells slots Q (F0 m (pc + 3) ls (.ref r :: rest))) : W p l e R s m args below meth c H locs cells slots Q (F0 m pc ls st0) := by
  intro T hT X
  obtain ⟨v, st₀, t, T', L, h0, X', hL, e1, e2, ⟨r, hv, hp, hh⟩, st⟩ := hr T hT X
  cases hv
  obtain ⟨t2, a1, b1⟩ := kk r hp T' (by rw [e1, hh, h0]) (Stand.forget X' (fun q h => (hL q h).elim))
  exact ⟨t2, st t2 a1, b1⟩
end QC
theorem inC {i : Int32} {n : Nat} (h1 : ¬ i < 0) (h2 : i.toNatClampNeg < n) : vp_in i n := fun h => h.elim h1 (fun h => absurd h (Nat.not_le.mpr h2))
theorem in_of {x M : Int32} {n : Nat} (hM : M.toInt = n) (h1 : ¬ x < 0) (h2 : ¬ M ≤ x) : vp_in x n := by
  rw [Int32.lt_iff_toInt_lt] at h1
  rw [Int32.le_iff_toInt_le, hM] at h2
  have h3 : (0 : Int32).toInt = 0 := rfl
  exact vp_in_iff.mpr ⟨by omega, by omega⟩
theorem nin_lt {x : Int32} {n : Nat} (h1 : x < 0) : ¬ vp_in x n := fun h => h (Or.inl h1)
theorem nin_ge {x M : Int32} {n : Nat} (hM : M.toInt = n) (h2 : M ≤ x) : ¬ vp_in x n := fun h => by
  have := Int32.le_iff_toInt_le.mp h2
  have h3 := (vp_in_iff.mp h).2
  rw [hM] at this
  omega
theorem in_nlt {x : Int32} {n : Nat} (h : vp_in x n) : ¬ x < 0 := fun h1 => h (Or.inl h1)
theorem in_nge {x M : Int32} {n : Nat} (hM : M.toInt = n) (h : vp_in x n) : ¬ M ≤ x := fun h2 => nin_ge hM h2 h
theorem in_lt {x : Int32} {n : Nat} (h : vp_in x n) : x.toNatClampNeg < n := Nat.not_le.mp (fun h1 => h (Or.inr h1))
theorem met_pre {l : Launch} {y : MethodName} {ws : List Cond} {rm : Room} {P1 P2 : Array Value → State → Prop} {Qc : Array Value → State → Outcome → State → Prop} {mc ms : Nat} {free : Addr → Prop} (h : Met l y ws rm P1 Qc mc ms free) (hp : ∀ a s, P2 a s → P1 a s) : Met l y ws rm P2 Qc mc ms free := fun p e h1 h2 h3 s m args below h4 h5 h6 h7 => h p e h1 h2 h3 s m args below h4 h5 (hp _ _ h6) h7
theorem met_sub {l : Launch} {y : MethodName} {ws : List Cond} {rm : Room} {av : List Value} {G : va_G} {k : Nat → ClassId} {w w2 : va_W} {Qc : Array Value → State → Outcome → State → Prop} {mc ms : Nat} {free : Addr → Prop} (h : Met l y ws rm (va_Pc av (pr G k w)) Qc mc ms free) (pl : List Nat) (hpl : pl.filterMap (fun i => w2[i]?) = w) : Met l y ws rm (va_Pc av (pr G k w2)) Qc mc ms free := met_pre h (fun _ _ q => ⟨q.1, q.2.1.sub pl hpl, q.2.2.1, q.2.2.2⟩)
theorem tsw3 (x : Int32) : (x.toInt < 0 ∨ 3 < x.toInt) ∨ x = 0 ∨ x = 1 ∨ x = 2 ∨ x = 3 := by
  rcases pk_ix x (n := 4) (by decide) with h | h | ⟨j, hj, rfl⟩
  · exact Or.inl (Or.inl (by have h9 := Int32.lt_iff_toInt_lt.mp h; simpa using h9))
  · exact Or.inl (Or.inr (by have h9 := Int32.le_iff_toInt_le.mp h; rw [nI_toInt (by decide)] at h9; omega))
  · rcases (show j = 0 ∨ j = 1 ∨ j = 2 ∨ j = 3 by omega) with rfl | rfl | rfl | rfl
    · exact Or.inr (Or.inl rfl)
    · exact Or.inr (Or.inr (Or.inl rfl))
    · exact Or.inr (Or.inr (Or.inr (Or.inl rfl)))
    · exact Or.inr (Or.inr (Or.inr (Or.inr (rfl))))
theorem tsw7 (x : Int32) : (x.toInt < 0 ∨ 7 < x.toInt) ∨ x = 0 ∨ x = 1 ∨ x = 2 ∨ x = 3 ∨ x = 4 ∨ x = 5 ∨ x = 6 ∨ x = 7 := by
  rcases pk_ix x (n := 8) (by decide) with h | h | ⟨j, hj, rfl⟩
  · exact Or.inl (Or.inl (by have h9 := Int32.lt_iff_toInt_lt.mp h; simpa using h9))
  · exact Or.inl (Or.inr (by have h9 := Int32.le_iff_toInt_le.mp h; rw [nI_toInt (by decide)] at h9; omega))
  · rcases (show j = 0 ∨ j = 1 ∨ j = 2 ∨ j = 3 ∨ j = 4 ∨ j = 5 ∨ j = 6 ∨ j = 7 by omega) with rfl | rfl | rfl | rfl | rfl | rfl | rfl | rfl
    · exact Or.inr (Or.inl rfl)
    · exact Or.inr (Or.inr (Or.inl rfl))
    · exact Or.inr (Or.inr (Or.inr (Or.inl rfl)))
    · exact Or.inr (Or.inr (Or.inr (Or.inr (Or.inl rfl))))
    · exact Or.inr (Or.inr (Or.inr (Or.inr (Or.inr (Or.inl rfl)))))
    · exact Or.inr (Or.inr (Or.inr (Or.inr (Or.inr (Or.inr (Or.inl rfl))))))
    · exact Or.inr (Or.inr (Or.inr (Or.inr (Or.inr (Or.inr (Or.inr (Or.inl rfl)))))))
    · exact Or.inr (Or.inr (Or.inr (Or.inr (Or.inr (Or.inr (Or.inr (Or.inr (rfl))))))))
theorem tsw12 (x : Int32) : (x.toInt < 0 ∨ 12 < x.toInt) ∨ x = 0 ∨ x = 1 ∨ x = 2 ∨ x = 3 ∨ x = 4 ∨ x = 5 ∨ x = 6 ∨ x = 7 ∨ x = 8 ∨ x = 9 ∨ x = 10 ∨ x = 11 ∨ x = 12 := by
  rcases pk_ix x (n := 13) (by decide) with h | h | ⟨j, hj, rfl⟩
  · exact Or.inl (Or.inl (by have h9 := Int32.lt_iff_toInt_lt.mp h; simpa using h9))
  · exact Or.inl (Or.inr (by have h9 := Int32.le_iff_toInt_le.mp h; rw [nI_toInt (by decide)] at h9; omega))
  · rcases (show j = 0 ∨ j = 1 ∨ j = 2 ∨ j = 3 ∨ j = 4 ∨ j = 5 ∨ j = 6 ∨ j = 7 ∨ j = 8 ∨ j = 9 ∨ j = 10 ∨ j = 11 ∨ j = 12 by omega) with rfl | rfl | rfl | rfl | rfl | rfl | rfl | rfl | rfl | rfl | rfl | rfl | rfl
    · exact Or.inr (Or.inl rfl)
    · exact Or.inr (Or.inr (Or.inl rfl))
    · exact Or.inr (Or.inr (Or.inr (Or.inl rfl)))
    · exact Or.inr (Or.inr (Or.inr (Or.inr (Or.inl rfl))))
    · exact Or.inr (Or.inr (Or.inr (Or.inr (Or.inr (Or.inl rfl)))))
    · exact Or.inr (Or.inr (Or.inr (Or.inr (Or.inr (Or.inr (Or.inl rfl))))))
    · exact Or.inr (Or.inr (Or.inr (Or.inr (Or.inr (Or.inr (Or.inr (Or.inl rfl)))))))
    · exact Or.inr (Or.inr (Or.inr (Or.inr (Or.inr (Or.inr (Or.inr (Or.inr (Or.inl rfl))))))))
    · exact Or.inr (Or.inr (Or.inr (Or.inr (Or.inr (Or.inr (Or.inr (Or.inr (Or.inr (Or.inl rfl)))))))))
    · exact Or.inr (Or.inr (Or.inr (Or.inr (Or.inr (Or.inr (Or.inr (Or.inr (Or.inr (Or.inr (Or.inl rfl))))))))))
    · exact Or.inr (Or.inr (Or.inr (Or.inr (Or.inr (Or.inr (Or.inr (Or.inr (Or.inr (Or.inr (Or.inr (Or.inl rfl)))))))))))
    · exact Or.inr (Or.inr (Or.inr (Or.inr (Or.inr (Or.inr (Or.inr (Or.inr (Or.inr (Or.inr (Or.inr (Or.inr (Or.inl rfl))))))))))))
    · exact Or.inr (Or.inr (Or.inr (Or.inr (Or.inr (Or.inr (Or.inr (Or.inr (Or.inr (Or.inr (Or.inr (Or.inr (Or.inr (rfl)))))))))))))
theorem tsw26 (x : Int32) : (x.toInt < 0 ∨ 26 < x.toInt) ∨ x = 0 ∨ x = 1 ∨ x = 2 ∨ x = 3 ∨ x = 4 ∨ x = 5 ∨ x = 6 ∨ x = 7 ∨ x = 8 ∨ x = 9 ∨ x = 10 ∨ x = 11 ∨ x = 12 ∨ x = 13 ∨ x = 14 ∨ x = 15 ∨ x = 16 ∨ x = 17 ∨ x = 18 ∨ x = 19 ∨ x = 20 ∨ x = 21 ∨ x = 22 ∨ x = 23 ∨ x = 24 ∨ x = 25 ∨ x = 26 := by
  rcases pk_ix x (n := 27) (by decide) with h | h | ⟨j, hj, rfl⟩
  · exact Or.inl (Or.inl (by have h9 := Int32.lt_iff_toInt_lt.mp h; simpa using h9))
  · exact Or.inl (Or.inr (by have h9 := Int32.le_iff_toInt_le.mp h; rw [nI_toInt (by decide)] at h9; omega))
  · rcases (show j = 0 ∨ j = 1 ∨ j = 2 ∨ j = 3 ∨ j = 4 ∨ j = 5 ∨ j = 6 ∨ j = 7 ∨ j = 8 ∨ j = 9 ∨ j = 10 ∨ j = 11 ∨ j = 12 ∨ j = 13 ∨ j = 14 ∨ j = 15 ∨ j = 16 ∨ j = 17 ∨ j = 18 ∨ j = 19 ∨ j = 20 ∨ j = 21 ∨ j = 22 ∨ j = 23 ∨ j = 24 ∨ j = 25 ∨ j = 26 by omega) with rfl | rfl | rfl | rfl | rfl | rfl | rfl | rfl | rfl | rfl | rfl | rfl | rfl | rfl | rfl | rfl | rfl | rfl | rfl | rfl | rfl | rfl | rfl | rfl | rfl | rfl | rfl
    · exact Or.inr (Or.inl rfl)
    · exact Or.inr (Or.inr (Or.inl rfl))
    · exact Or.inr (Or.inr (Or.inr (Or.inl rfl)))
    · exact Or.inr (Or.inr (Or.inr (Or.inr (Or.inl rfl))))
    · exact Or.inr (Or.inr (Or.inr (Or.inr (Or.inr (Or.inl rfl)))))
    · exact Or.inr (Or.inr (Or.inr (Or.inr (Or.inr (Or.inr (Or.inl rfl))))))
    · exact Or.inr (Or.inr (Or.inr (Or.inr (Or.inr (Or.inr (Or.inr (Or.inl rfl)))))))
    · exact Or.inr (Or.inr (Or.inr (Or.inr (Or.inr (Or.inr (Or.inr (Or.inr (Or.inl rfl))))))))
    · exact Or.inr (Or.inr (Or.inr (Or.inr (Or.inr (Or.inr (Or.inr (Or.inr (Or.inr (Or.inl rfl)))))))))
    · exact Or.inr (Or.inr (Or.inr (Or.inr (Or.inr (Or.inr (Or.inr (Or.inr (Or.inr (Or.inr (Or.inl rfl))))))))))
    · exact Or.inr (Or.inr (Or.inr (Or.inr (Or.inr (Or.inr (Or.inr (Or.inr (Or.inr (Or.inr (Or.inr (Or.inl rfl)))))))))))
    · exact Or.inr (Or.inr (Or.inr (Or.inr (Or.inr (Or.inr (Or.inr (Or.inr (Or.inr (Or.inr (Or.inr (Or.inr (Or.inl rfl))))))))))))
    · exact Or.inr (Or.inr (Or.inr (Or.inr (Or.inr (Or.inr (Or.inr (Or.inr (Or.inr (Or.inr (Or.inr (Or.inr (Or.inr (Or.inl rfl)))))))))))))
    · exact Or.inr (Or.inr (Or.inr (Or.inr (Or.inr (Or.inr (Or.inr (Or.inr (Or.inr (Or.inr (Or.inr (Or.inr (Or.inr (Or.inr (Or.inl rfl))))))))))))))
    · exact Or.inr (Or.inr (Or.inr (Or.inr (Or.inr (Or.inr (Or.inr (Or.inr (Or.inr (Or.inr (Or.inr (Or.inr (Or.inr (Or.inr (Or.inr (Or.inl rfl)))))))))))))))
    · exact Or.inr (Or.inr (Or.inr (Or.inr (Or.inr (Or.inr (Or.inr (Or.inr (Or.inr (Or.inr (Or.inr (Or.inr (Or.inr (Or.inr (Or.inr (Or.inr (Or.inl rfl))))))))))))))))
    · exact Or.inr (Or.inr (Or.inr (Or.inr (Or.inr (Or.inr (Or.inr (Or.inr (Or.inr (Or.inr (Or.inr (Or.inr (Or.inr (Or.inr (Or.inr (Or.inr (Or.inr (Or.inl rfl)))))))))))))))))
    · exact Or.inr (Or.inr (Or.inr (Or.inr (Or.inr (Or.inr (Or.inr (Or.inr (Or.inr (Or.inr (Or.inr (Or.inr (Or.inr (Or.inr (Or.inr (Or.inr (Or.inr (Or.inr (Or.inl rfl))))))))))))))))))
    · exact Or.inr (Or.inr (Or.inr (Or.inr (Or.inr (Or.inr (Or.inr (Or.inr (Or.inr (Or.inr (Or.inr (Or.inr (Or.inr (Or.inr (Or.inr (Or.inr (Or.inr (Or.inr (Or.inr (Or.inl rfl)))))))))))))))))))
    · exact Or.inr (Or.inr (Or.inr (Or.inr (Or.inr (Or.inr (Or.inr (Or.inr (Or.inr (Or.inr (Or.inr (Or.inr (Or.inr (Or.inr (Or.inr (Or.inr (Or.inr (Or.inr (Or.inr (Or.inr (Or.inl rfl))))))))))))))))))))
    · exact Or.inr (Or.inr (Or.inr (Or.inr (Or.inr (Or.inr (Or.inr (Or.inr (Or.inr (Or.inr (Or.inr (Or.inr (Or.inr (Or.inr (Or.inr (Or.inr (Or.inr (Or.inr (Or.inr (Or.inr (Or.inr (Or.inl rfl)))))))))))))))))))))
    · exact Or.inr (Or.inr (Or.inr (Or.inr (Or.inr (Or.inr (Or.inr (Or.inr (Or.inr (Or.inr (Or.inr (Or.inr (Or.inr (Or.inr (Or.inr (Or.inr (Or.inr (Or.inr (Or.inr (Or.inr (Or.inr (Or.inr (Or.inl rfl))))))))))))))))))))))
    · exact Or.inr (Or.inr (Or.inr (Or.inr (Or.inr (Or.inr (Or.inr (Or.inr (Or.inr (Or.inr (Or.inr (Or.inr (Or.inr (Or.inr (Or.inr (Or.inr (Or.inr (Or.inr (Or.inr (Or.inr (Or.inr (Or.inr (Or.inr (Or.inl rfl)))))))))))))))))))))))
    · exact Or.inr (Or.inr (Or.inr (Or.inr (Or.inr (Or.inr (Or.inr (Or.inr (Or.inr (Or.inr (Or.inr (Or.inr (Or.inr (Or.inr (Or.inr (Or.inr (Or.inr (Or.inr (Or.inr (Or.inr (Or.inr (Or.inr (Or.inr (Or.inr (Or.inl rfl))))))))))))))))))))))))
    · exact Or.inr (Or.inr (Or.inr (Or.inr (Or.inr (Or.inr (Or.inr (Or.inr (Or.inr (Or.inr (Or.inr (Or.inr (Or.inr (Or.inr (Or.inr (Or.inr (Or.inr (Or.inr (Or.inr (Or.inr (Or.inr (Or.inr (Or.inr (Or.inr (Or.inr (Or.inl rfl)))))))))))))))))))))))))
    · exact Or.inr (Or.inr (Or.inr (Or.inr (Or.inr (Or.inr (Or.inr (Or.inr (Or.inr (Or.inr (Or.inr (Or.inr (Or.inr (Or.inr (Or.inr (Or.inr (Or.inr (Or.inr (Or.inr (Or.inr (Or.inr (Or.inr (Or.inr (Or.inr (Or.inr (Or.inr (Or.inl rfl))))))))))))))))))))))))))
    · exact Or.inr (Or.inr (Or.inr (Or.inr (Or.inr (Or.inr (Or.inr (Or.inr (Or.inr (Or.inr (Or.inr (Or.inr (Or.inr (Or.inr (Or.inr (Or.inr (Or.inr (Or.inr (Or.inr (Or.inr (Or.inr (Or.inr (Or.inr (Or.inr (Or.inr (Or.inr (Or.inr (rfl)))))))))))))))))))))))))))
theorem ty_same3 {G : va_G} {k : Nat → ClassId} {cA : ClassId} {s : State} (h1 : va_K G vwCl (tyF k ++ [(cA, .object "TileHouse$Seat")]) s) (h : va_K G vwCl (tyF k) s) : cA = k 3 := by
  obtain ⟨_, _, _, _, _, e1⟩ := (h1.2 5 _ rfl).2
  obtain ⟨_, _, _, _, _, e2⟩ := (h.2 3 _ rfl).2
  exact Option.some.inj (e1.symm.trans e2)
theorem ty_same4 {G : va_G} {k : Nat → ClassId} {cA : ClassId} {s : State} (h1 : va_K G vwCl (tyF k ++ [(cA, .object "TileHouse$Win")]) s) (h : va_K G vwCl (tyF k) s) : cA = k 4 := by
  obtain ⟨_, _, _, _, _, e1⟩ := (h1.2 5 _ rfl).2
  obtain ⟨_, _, _, _, _, e2⟩ := (h.2 4 _ rfl).2
  exact Option.some.inj (e1.symm.trans e2)
theorem i_nn {x : Int32} (h : ¬ x < 0) : (0 : Int32) ≤ x := by
  rw [Int32.lt_iff_toInt_lt] at h
  rw [Int32.le_iff_toInt_le]
  exact Int.not_lt.mp h
/-! words: good ones, chunk by chunk -/
theorem vg_nil : ∀ w ∈ ([] : List Cond), goodWord w = true := fun _ h => absurd h List.not_mem_nil
theorem vg_a {a b : List Cond} (ha : ∀ w ∈ a, goodWord w = true) (hb : ∀ w ∈ b, goodWord w = true) : ∀ w ∈ a ++ b, goodWord w = true := fun w h => (List.mem_append.mp h).elim (ha w) (hb w)
theorem vg_c {c : Cond} {l a : List Cond} (h0 : (c :: l).all goodWord = true) (ha : ∀ w ∈ a, goodWord w = true) : ∀ w ∈ c :: (l ++ a), goodWord w = true := fun w h => (List.mem_cons.mp h).elim (fun e => by rw [e]; exact List.all_eq_true.mp h0 c List.mem_cons_self) (fun h => (List.mem_append.mp h).elim (fun h => List.all_eq_true.mp h0 w (List.mem_cons_of_mem _ h)) (ha w))
theorem in_r {big : List Cond} (ws : List Cond) (ps : List Nat) (hp : ws = ps.filterMap (fun i => big[i]?)) : ∀ w ∈ ws, w ∈ big := by
  intro w hw
  rw [hp] at hw
  obtain ⟨i, -, hi⟩ := List.mem_filterMap.mp hw
  exact List.mem_of_getElem? hi
theorem tl_c {big : List Cond} {c : Cond} {l a : List Cond} (h0 : ∀ w ∈ c :: l, w ∈ big) (ha : ∀ w ∈ a, w ∈ big) : ∀ w ∈ c :: (l ++ a), w ∈ big := fun w h => (List.mem_cons.mp h).elim (fun e => by rw [e]; exact h0 c List.mem_cons_self) (fun h => (List.mem_append.mp h).elim (fun h => h0 w (List.mem_cons_of_mem _ h)) (ha w))
theorem tl_a {big a b : List Cond} (ha : ∀ w ∈ a, w ∈ big) (hb : ∀ w ∈ b, w ∈ big) : ∀ w ∈ a ++ b, w ∈ big := fun w h => (List.mem_append.mp h).elim (ha w) (hb w)
theorem tl_nil {big : List Cond} : ∀ w ∈ ([] : List Cond), w ∈ big := fun _ h => absurd h List.not_mem_nil
theorem vgX1 : ∀ w ∈ wsX10, goodWord w = true := List.all_eq_true.mp (by decide +kernel)
theorem vgX2 : ∀ w ∈ wsX20, goodWord w = true := List.all_eq_true.mp (by decide +kernel)
theorem vgX3 : ∀ w ∈ wsX30, goodWord w = true := List.all_eq_true.mp (by decide +kernel)
theorem vgX4 : ∀ w ∈ wsX40, goodWord w = true := List.all_eq_true.mp (by decide +kernel)
theorem vgX5 : ∀ w ∈ wsX50, goodWord w = true := List.all_eq_true.mp (by decide +kernel)
theorem vgX6 : ∀ w ∈ wsX60, goodWord w = true := List.all_eq_true.mp (by decide +kernel)
theorem vgX7 : ∀ w ∈ wsX70, goodWord w = true := List.all_eq_true.mp (by decide +kernel)
theorem vg_l {l : List Cond} (h : l.all goodWord = true) : ∀ w ∈ l, goodWord w = true := fun w hw => List.all_eq_true.mp h w hw

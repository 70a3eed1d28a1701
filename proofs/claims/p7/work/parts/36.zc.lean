/-! calls and answers of the small machine; what it reaches, the large one reaches -/
def z_cat (l : List Value) : Nat := (l.map fun v => v.category).sum
/-- a call: the method, its arguments, what stays on the stack -/
def z_cl (j pc : Nat) (st : List Value) : Option (Nat × List Value × List Value) := match z_ft j pc with
  | some (.invokevirtual idx) => (match z_lk (z_cals.getD (z_oc j) []) idx with
    | some (0, j', na, ci) => (match (st.take na).reverse with
      | .ref r :: As => bif Nat.beq (As.length + 1) na && (Nat.blt r (z_np j) && (Nat.beq (z_sh r).1 0 && (Nat.beq (z_sh r).2.1 ci && (Nat.ble (z_cat (st.drop na)) 8 && Nat.ble (z_cat (.ref r :: As)) (z_ml j'))))) then some (j', .ref r :: As, st.drop na) else none
      | _ => none)
    | _ => none)
  | some (.invokestatic idx) => (match z_lk (z_cals.getD (z_oc j) []) idx with
    | some (kd, j', na, _) => bif Nat.blt 0 kd && (Nat.beq (st.take na).length na && (Nat.ble (z_cat (st.drop na)) 8 && Nat.ble (z_cat (st.take na).reverse) (z_ml j'))) then some (j', (st.take na).reverse, st.drop na) else none
    | _ => none)
  | _ => none
def z_rn (j pc : Nat) (st : List Value) : Option (Option Value) := match z_ft j pc, st with
  | some .return_, [] => bif Nat.beq (z_rk j) 0 then some none else none
  | some .ireturn, [.int x] => bif Nat.beq (z_rk j) 1 || (Nat.beq (z_rk j) 3 && z_b01 x) then some (some (.int x)) else none
  | some .lreturn, [.long x] => bif Nat.beq (z_rk j) 2 then some (some (.long x)) else none
  | some .areturn, [.ref r] => bif Nat.beq (z_rk j) 4 then some (some (.ref r)) else none
  | _, _ => none
/-- a set of states: cells made so far, place, locals, stack, memory -/
abbrev zK : Type := Nat → Nat → zL → List Value → zM → Prop
abbrev zQ : Type := Option Value → zM → Prop
def z_clo (xs : Nat × (Nat → Int32)) (j : Nat) (C : Nat → List Value → zM → zQ → Prop) (Z : zK) : Prop :=
  (∀ (b pc : Nat) (lv : zL) (st : List Value) (μ : zM) (ins : Instr) (pc' : Nat) (lv' : zL) (st' : List Value) (μ' : zM), z_ft j pc = some ins → z_step xs (z_np j) (z_oc j) (z_ml j) ins (pc, lv, st, μ) = some (pc', lv', st', μ') → Z b pc' lv' st' μ' → Z b pc lv st μ) ∧
  ∀ (b pc : Nat) (lv : zL) (st : List Value) (μ : zM) (j' : Nat) (As rest : List Value), z_cl j pc st = some (j', As, rest) → b + z_al j' ≤ z_al j → C j' As μ (fun r μ' => Z (b + z_al j') (pc + 3) lv (r.toList ++ rest) μ') → Z b pc lv st μ
def z_ret (j : Nat) (Q : zQ) (Z : zK) : Prop := ∀ (b pc : Nat) (lv : zL) (st : List Value) (μ : zM) (v : Option Value), b ≤ z_al j → z_rn j pc st = some v → Q v μ → Z b pc lv st μ
def z_zero (μ : zM) : zM := (fun r k => bif Nat.beq r 79 then 0 else μ.1 r k, μ.2)
/-- where a method begins (nobodyWins: behind the row that it makes) -/
def z_go (j : Nat) (As : List Value) (μ : zM) (Z : zK) : Prop := bif Nat.beq j mi_X7_nobodyWins then As = [.ref 50] ∧ Z 1 6 [(2, .ref 79), (1, .int 0), (0, .ref 50)] [] (z_zero μ) else Z 0 0 (lv_args 0 As) [] μ
/-- from these arguments and this memory the method returns, and Q holds of the answer and the memory behind it; d: how deep calls go -/
def z_C : Nat → Nat → List Value → zM → zQ → Prop
  | 0, _, _, _, _ => False
  | d + 1, j, As, μ, Q => ∀ Z : zK, z_clo z_x0 j (z_C d) Z → z_ret j Q Z → z_go j As μ Z
theorem z_C_mono {d j : Nat} {As : List Value} {μ : zM} {Q Q' : zQ} (h : z_C d j As μ Q) (hq : ∀ r μ', Q r μ' → Q' r μ') : z_C d j As μ Q' := by
  cases d with
  | zero => exact h
  | succ d => exact fun Z h1 h2 => h Z h1 (fun b pc lv st μ v hb hv hQ => h2 b pc lv st μ v hb hv (hq v μ hQ))
theorem z_C_up {d j : Nat} {As : List Value} {μ : zM} {Q : zQ} (h : z_C d j As μ Q) : z_C (d + 1) j As μ Q := by
  induction d generalizing j As μ Q with
  | zero => exact h.elim
  | succ d ih => exact fun Z h1 h2 => h Z ⟨h1.1, fun b pc lv st μ j' As rest hc hb hC => h1.2 b pc lv st μ j' As rest hc hb (ih hC)⟩ h2
theorem z_C_le {d d' j : Nat} {As : List Value} {μ : zM} {Q : zQ} (hd : d ≤ d') (h : z_C d j As μ Q) : z_C d' j As μ Q := by
  induction hd with
  | refl => exact h
  | step _ ih => exact z_C_up ih
def z_rom (d b : Nat) : Room := { frames := d + 1, cells := b, slots := 16 * b, locals := 64 * (d + 1) }
def z_pq (G : va_G) (k : Nat → ClassId) (a : Nat → Nat) (n : Nat) (μ : zM) (sz : Nat) (U : State) : Prop := pq G k (z_W a k n μ) sz U ∧ z_RO a z_x0 (va_A (z_W a k n μ) sz) U U.heap
theorem z_pq_bl {av : List Value} {G : va_G} {k : Nat → ClassId} {a : Nat → Nat} {n : Nat} {μ : zM} {sz : Nat} : FrameBlind (va_Pc av (z_pq G k a n μ sz)) := fun v U g mk q => ⟨q.1, (pq_bl (av := av) v U g mk ⟨q.1, q.2.1⟩).2, z_RO.moved (u := U) (U := U.calling g mk v) (Vm.Alike.refl U.vm) q.2.2⟩
def z_Qc (Q : zQ) (G : va_G) (k : Nat → ClassId) (a : Nat → Nat) (n : Nat) (A : Nat → Prop) : Array Value → State → Outcome → State → Prop := fun _ st oc t => (∃ (r : Option Value) (μ' : zM), oc = .returned (r.map (z_tr a)) ∧ Q r μ' ∧ va_P G vwCl (z_W a k n μ') t.heap) ∧ va_F A st t
def z_Met (l : Launch) (d j : Nat) (As : List Value) (μ : zM) (Q : zQ) : Prop := ∀ (G : va_G) (k : Nat → ClassId) (a : Nat → Nat) (n sz : Nat), n = 79 ∨ (n = 80 ∧ z_al j = 0) →
  Met l (z_y j) (z_ws j) (z_rom d (z_al j)) (va_Pc (As.map (z_tr a)) (z_pq G k a n μ sz)) (z_Qc Q G k a n (va_A (z_W a k n μ) sz)) (z_al j) (16 * z_al j) (va_A (z_W a k n μ) sz)
theorem z_cat_tr (a : Nat → Nat) (l : List Value) : ((l.map (z_tr a)).map fun v => v.category).sum = z_cat l := by
  unfold z_cat
  rw [List.map_map]
  congr 1
  apply List.map_congr_left
  intro v _
  exact z_tr_cat a v
theorem z_args_tr (a : Nat → Nat) (As : List Value) : ∀ i, lv_args i (As.map (z_tr a)) = z_tl a (lv_args i As) := by
  induction As with
  | nil => intro i; rfl
  | cons v r ih =>
    intro i
    show (i, z_tr a v) :: lv_args _ (r.map (z_tr a)) = (i, z_tr a v) :: z_tl a (lv_args _ r)
    rw [z_tr_cat, ih]
theorem z_sl_len (vs : List Value) : (lg_sl vs).length = z_cat vs := by
  induction vs with
  | nil => rfl
  | cons v r ih =>
    have e : lg_sl (v :: r) = (if v.category = 2 then [.val v, .second] else [.val v]) ++ lg_sl r := rfl
    rw [e, List.length_append, ih]
    show _ = v.category + z_cat r
    rcases lv_cat v with h | h
    · rw [if_neg (by omega), h]; rfl
    · rw [if_pos h, h]; rfl
theorem z_W_A {a : Nat → Nat} {k : Nat → ClassId} {n sz : Nat} {μ μ' : zM} {q : Nat} (h : va_A (z_W a k n μ) sz q) : va_A (z_W a k n μ') sz q := by
  rcases h with ⟨i, c, h⟩ | h
  · obtain ⟨hi, he⟩ := wZ_inv h
    cases he
    exact Or.inl ⟨i, _, wZ_at hi⟩
  · exact Or.inr h
theorem z_W_D {A : Nat → Prop} {a : Nat → Nat} {k : Nat → ClassId} {n : Nat} {μ : zM} (h : va_D A (z_W a k n μ)) (μ' : zM) : va_D A (z_W a k n μ') := wZ_D _ h
theorem z_goodIn {j j' : Nat} (hj : j' < 189) : GoodIn (z_ws j) (z_ws j') := by
  intro w hw
  rcases List.mem_cons.mp hw with rfl | hw
  · have := (z_mok_all j' hj).1
    exact ⟨List.mem_cons_of_mem _ this, good_of_word (TT_good _ this)⟩
  · exact ⟨List.mem_cons_of_mem _ hw, good_of_word (TT_good _ hw)⟩
theorem z_goodTT {ws : List Cond} (h : ∀ w ∈ ws, w ∈ TT) {j : Nat} : GoodIn (z_ws j) ws := fun w hw => ⟨List.mem_cons_of_mem _ (h w hw), good_of_word (TT_good _ (h w hw))⟩
section ZC
variable {p : Program} {l : Launch} {e : Env} {R : Room} {s : State} {m : MethodId} {args : Array Value} {below : List Frame} {meth : Method} {c : Code} {H : Heap} {locs : List Loc} {cells slots : Nat} {QW : State → Prop}
variable {cc : ByteArray} {pc : Nat} {ls : Array Slot} {a : Nat → Nat} {k : Nat → ClassId} {n : Nat} {G : va_G} {A A1 : Nat → Prop} {mc ms : Nat} {free : Addr → Prop} {arr : Array Value} {st0 rest : List Value}
theorem z_callW {Qk : zQ} (hr : va_Run p l e R s m args below meth c H locs cells slots mc ms (F0 m pc ls st0) rest (z_Qc Qk G k a n A1 arr) free) (hS : va_S A s.heap H locs) (hA : ∀ q, q < H.size → A1 q → A q) (hf : ∀ q, free q → A q)
    (kk : ∀ (r : Option Value) (μ' : zM) (H1 : Heap) (locs1 : List Loc), Qk r μ' → va_P G vwCl (z_W a k n μ') H1 → va_S A s.heap H1 locs1 → W p l e R s m args below meth c H1 locs1 (cells + mc) (slots + ms) QW (F0 m (pc + 3) ls ((r.map (z_tr a)).toList ++ rest))) : W p l e R s m args below meth c H locs cells slots QW (F0 m pc ls st0) := by
  intro T hT X
  obtain ⟨v, st₀, t, T', L, h0, X', hL, e1, e2, ⟨⟨r, μ', hv, hp, hb⟩, hz, hk⟩, st⟩ := hr T hT X
  cases hv
  rw [h0] at hz hk
  obtain ⟨t2, a1, b1⟩ := kk r μ' T'.heap (locs ++ L) hp (by rw [e1]; exact hb)
    ⟨Nat.le_trans hS.1 (by rw [e1]; exact hz), fun q h1 h2 => by rw [e1, hk q (Nat.lt_of_lt_of_le h1 hS.1) (fun z => h2 (hA q (Nat.lt_of_lt_of_le h1 hS.1) z))]; exact hS.2.1 q h1 h2, fun q hq => by
      rcases List.mem_append.mp hq with h | h
      · exact hS.2.2 q h
      · exact hf _ (hL q h)⟩ T' rfl X'
  exact ⟨t2, st t2 a1, b1⟩
/-- what a walk has at hand -/
def z_X (p : Program) (s : State) (m : MethodId) (args : Array Value) (c : Code) (j : Nat) (xs : Nat × (Nat → Int32)) (G : va_G) (k : Nat → ClassId) (a : Nat → Nat) (n : Nat) (A : Nat → Prop) : Prop :=
  p.tables.exec = Jvm.exec ∧ c.code = z_cc j ∧ c.maxLocals = z_ml j ∧ (∀ w ∈ TT, w.before args s = true) ∧ s.vm.findClass (z_own (z_oc j)) = some m.cls ∧ va_K G vwCl (tyF k) s ∧ NW s ∧ (∀ μ, va_D A (z_W a k n μ)) ∧ z_RO a xs A s s.heap ∧ (∀ q, s.heap.size ≤ q → A q) ∧ z_np j ≤ n ∧ 79 ≤ n
theorem zs_step {xs : Nat × (Nat → Int32)} {j : Nat} (X : z_X p s m args c j xs G k a n A) (hF : 1 ≤ R.frames) (hRl : 21 ≤ R.locals) (hRc : cells ≤ R.cells) (hRs : slots ≤ R.slots) {ins : Instr} {lv lv' : zL} {st st' : List Value} {μ μ' : zM} {pc' : Nat} (hi : z_ft j pc = some ins) (h : z_step xs (z_np j) (z_oc j) (z_ml j) ins (pc, lv, st, μ) = some (pc', lv', st', μ'))
    (hP : va_P G vwCl (z_W a k n μ) H) (hS : va_S A s.heap H locs) (hl : lv_has ls (z_ml j) (z_tl a lv))
    (kk : ∀ (H' : Heap) (locs' : List Loc) (ls' : Array Slot), va_P G vwCl (z_W a k n μ') H' → va_S A s.heap H' locs' → lv_has ls' (z_ml j) (z_tl a lv') → W p l e R s m args below meth c H' locs' cells slots QW (F0 m pc' ls' (st'.map (z_tr a)))) : W p l e R s m args below meth c H locs cells slots QW (F0 m pc ls (st.map (z_tr a))) := by
  obtain ⟨hx, hb, hml, hts, hown, hK, hN, hD, hRO, hA, hn, hn2⟩ := X
  obtain ⟨len, hd, hlen⟩ := z_dec hi
  have hd0 : ∀ {α : Type} {x : Option α} {y : α}, x = some y → (∀ q : z_len ins = 0, x = none) → decode (z_cc j) pc = .ok (ins, z_len ins) := fun {α x y} h1 h2 => by
    rcases hlen with q | q
    · rw [q]; exact hd
    · rw [h2 q] at h1; cases h1
  have h0t : z_len ins = 0 → ∃ d lo hi offs, ins = .tableswitch d lo hi offs := by
    cases ins <;> first | (intro q; exact ⟨_, _, _, _, rfl⟩) | (intro q; exact absurd q (by simp [z_len]))
  unfold z_step at h
  split at h
  · rename_i st2 h1
    cases h
    exact zs_st hx hb h1 (hd0 h1 (fun q => by obtain ⟨_, _, _, _, rfl⟩ := h0t q; rfl)) (kk H locs ls hP hS hl)
  · split at h
    · rename_i pc2 st2 h1
      cases h
      exact zs_jp hx hb h1 hd hlen (kk H locs ls hP hS hl)
    · split at h
      · rename_i lv2 st2 h1
        cases h
        exact zs_lv hx hb h1 (hd0 h1 (fun q => by obtain ⟨_, _, _, _, rfl⟩ := h0t q; rfl)) hl (fun ls' hl' => kk H locs ls' hP hS hl')
      · split at h
        · rename_i st2 μ2 h1
          cases h
          exact zs_hp hx hb h1 (hd0 h1 (fun q => by obtain ⟨_, _, _, _, rfl⟩ := h0t q; rfl)) (hml.trans hl.1.symm) hts hown hK hD hn hRO hF hRl hRc hRs hP hS (fun H' locs' q1 q2 => kk H' locs' ls q1 q2 hl)
        · cases h
end ZC
theorem z_cal_ok {oc idx kd j na ci : Nat} (h : z_lk (z_cals.getD oc []) idx = some (kd, j, na, ci)) : z_cok oc (idx, kd, j, na, ci) = true := z_getD_mem (n := 10) (by decide) z_cals_ok (z_lk_mem h)
/-- what the table of calls says of a call by the object -/
theorem z_cal_V {oc idx j na ci : Nat} (h : z_lk (z_cals.getD oc []) idx = some (0, j, na, ci)) : ((z_y j).cls ≠ "java/lang/invoke/MethodHandle" ∧ (z_y j).cls ≠ "java/lang/invoke/VarHandle") ∧ Cond.methodLink (z_own oc) idx (z_y j) ∈ TT ∧ Cond.instanceMethod (z_y j) ∈ TT ∧ Cond.selects (z_y j).cls (z_y j) (z_y j) ∈ TT ∧ Cond.initialized (z_y j).cls ∈ TT ∧ (∃ T N, vwCl[ci]? = some ((z_y j).cls, T, N)) ∧ (z_par (z_y j)).map (fun n => n + 1) = some na := by
  have h1 := z_cal_ok h
  unfold z_cok at h1
  split at h1
  · rename_i ml h1' h2' h3' _
    simp only [Bool.and_eq_true, decide_eq_true_iff] at h1
    obtain ⟨a1, a2, a3, a4, a5, a6, a7, a8⟩ := h1
    refine ⟨⟨a1, a2⟩, z_tt a3, z_tt a4, z_tt a5, z_tt a6, ?_, a8⟩
    obtain ⟨q, hq, he⟩ := Option.map_eq_some_iff.mp a7
    exact ⟨q.2.1, q.2.2, by rw [hq, ← he]⟩
  · cases h1
theorem z_cal_S {oc idx j na ci : Nat} (h : z_lk (z_cals.getD oc []) idx = some (1, j, na, ci)) : ((z_y j).cls ≠ "java/lang/invoke/MethodHandle" ∧ (z_y j).cls ≠ "java/lang/invoke/VarHandle") ∧ Cond.methodLink (z_own oc) idx (z_y j) ∈ TT ∧ Cond.static (z_y j) ∈ TT ∧ Cond.initialized (z_y j).cls ∈ TT ∧ z_par (z_y j) = some na := by
  have h1 := z_cal_ok h
  unfold z_cok at h1
  split at h1
  · simp only [Bool.and_eq_true, decide_eq_true_iff] at h1
    obtain ⟨a1, a2, a3, a4, a5, a6⟩ := h1
    exact ⟨⟨a1, a2⟩, z_tt a3, z_tt a4, z_tt a5, a6⟩
  · cases h1
theorem z_cal_N {oc idx kd j na ci : Nat} (h : z_lk (z_cals.getD oc []) idx = some (kd + 2, j, na, ci)) : ((z_y j).cls ≠ "java/lang/invoke/MethodHandle" ∧ (z_y j).cls ≠ "java/lang/invoke/VarHandle") ∧ z_nest.contains (oc, idx, j) = true ∧ Cond.static (z_y j) ∈ TT ∧ Cond.initialized (z_y j).cls ∈ TT ∧ z_par (z_y j) = some na := by
  have h1 := z_cal_ok h
  unfold z_cok at h1
  split at h1
  · simp only [Bool.and_eq_true, decide_eq_true_iff] at h1
    obtain ⟨a1, a2, a3, a4, a5, a6⟩ := h1
    exact ⟨⟨a1, a2⟩, a6, z_tt a3, z_tt a4, a5⟩
  · cases h1
theorem z_nest_ok {oc idx j : Nat} (h : z_nest.contains (oc, idx, j) = true) {U : State} (hN : NW U) : va_Nw (.methodLinkNest (z_own oc) idx (z_y j) "TileHouse") U := by
  have h1 : (oc, idx, j) ∈ z_nest := by simpa using h
  unfold z_nest at h1
  simp only [List.mem_cons, List.not_mem_nil, or_false, Prod.mk.injEq] at h1
  rcases h1 with ⟨rfl, rfl, rfl⟩ | ⟨rfl, rfl, rfl⟩ | ⟨rfl, rfl, rfl⟩ | ⟨rfl, rfl, rfl⟩ | ⟨rfl, rfl, rfl⟩
  · exact nw_X1_156 hN
  · exact nw_X1_160 hN
  · exact nw_X3_31 hN
  · exact nw_X3_39 hN
  · exact nw_X3_74 hN
theorem z_cal_j {oc idx kd j na ci : Nat} (h : z_lk (z_cals.getD oc []) idx = some (kd, j, na, ci)) : j < 189 := by
  have h9 : ∀ o : Fin 10, ∀ q ∈ z_cals.getD o.1 [], q.2.2.1 < 189 := by decide +kernel
  have hm := z_lk_mem h
  by_cases ho : oc < 10
  · exact h9 ⟨oc, ho⟩ _ hm
  · rw [z_getD_ge (by show 10 ≤ oc; omega)] at hm
    cases hm

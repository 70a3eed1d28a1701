/-! the sets of states that the large machine gives; soundness -/
section ZE
variable {p : Program} {l : Launch} {e : Env} {R : Room} {s : State} {m : MethodId} {args : Array Value} {below : List Frame} {meth : Method} {c : Code} {QW : State → Prop}
variable {a : Nat → Nat} {k : Nat → ClassId} {n : Nat} {G : va_G} {A : Nat → Prop}
def z_Z (p : Program) (l : Launch) (e : Env) (R : Room) (s : State) (m : MethodId) (args : Array Value) (below : List Frame) (meth : Method) (c : Code) (QW : State → Prop) (G : va_G) (k : Nat → ClassId) (a : Nat → Nat) (n : Nat) (A : Nat → Prop) (j b0 : Nat) : zK := fun b pc lv st μ => b0 ≤ b → b ≤ z_al j → ∀ (H : Heap) (locs : List Loc) (ls : Array Slot), va_P G vwCl (z_W a k n μ) H → va_S A s.heap H locs → lv_has ls (z_ml j) (z_tl a lv) → W p l e R s m args below meth c H locs b (16 * b) QW (F0 m pc ls (st.map (z_tr a)))
theorem z_Z_clo {xs : Nat × (Nat → Int32)} {d j b0 : Nat} (ih : ∀ (j : Nat) (As : List Value) (μ : zM) (Q : zQ), z_C d j As μ Q → z_cat As ≤ z_ml j → j < 189 → z_Met l d j As μ Q) (X : z_X p s m args c j xs G k a n A) (hRf : d + 2 ≤ R.frames) (hRl : 64 * (d + 2) ≤ R.locals) (hRc : z_al j ≤ R.cells) (hRs : 16 * z_al j ≤ R.slots) (hn : n = 79 ∨ (n = 80 ∧ z_al j ≤ b0)) : z_clo xs j (z_C d) (z_Z p l e R s m args below meth c QW G k a n A j b0) := by
  refine ⟨fun b pc lv st μ ins pc' lv' st' μ' hi hs hz => ?_, fun b pc lv st μ j' As rest hc hb hC => ?_⟩
  · intro h1 h2 H locs ls hP hS hl
    exact zs_step X (by omega) (by omega) (by omega) (by omega) hi hs hP hS hl (fun H' locs' ls' q1 q2 q3 => hz h1 h2 H' locs' ls' q1 q2 q3)
  · intro h1 h2 H locs ls hP hS hl
    refine zs_call X hRf hRl (by omega) (by omega) hc (ih j' As μ _ hC) (by
      rcases hn with q | ⟨q, q'⟩
      · exact Or.inl q
      · exact Or.inr ⟨q, by omega⟩) hP hS hl (fun r μ' H1 locs1 q1 q2 q3 => ?_)
    have := q1 (by omega) hb H1 locs1 ls q2 q3 hl
    rw [Nat.mul_add] at this
    exact this
end ZE
theorem z_go_nb {As : List Value} {μ : zM} {Z : zK} (h : z_go mi_X7_nobodyWins As μ Z) : As = [.ref 50] ∧ Z 1 6 [(2, .ref 79), (1, .int 0), (0, .ref 50)] [] (z_zero μ) := h
theorem z_go_ne {j : Nat} {As : List Value} {μ : zM} {Z : zK} (hj : j ≠ mi_X7_nobodyWins) (h : z_go j As μ Z) : Z 0 0 (lv_args 0 As) [] μ := by
  unfold z_go at h
  rw [z_bf hj] at h
  exact h
theorem z_dec1 {j pc : Nat} {ins : Instr} (h : z_ft j pc = some ins) (h0 : z_len ins ≠ 0) : decode (z_cc j) pc = .ok (ins, z_len ins) := by
  obtain ⟨len, h1, h2⟩ := z_dec h
  rw [h2.resolve_right h0]
  exact h1
theorem z_rn_void {j pc : Nat} {st : List Value} {v : Option Value} (h0 : z_rk j = 0) (h : z_rn j pc st = some v) : v = none := by
  unfold z_rn at h
  rw [h0] at h
  split at h
  · exact (Option.some.inj h).symm
  · cases h
  · cases h
  · cases h
  · cases h
theorem z_RO_a {a a' : Nat → Nat} {xs : Nat × (Nat → Int32)} {A : Nat → Prop} {s : State} {H : Heap} (h : ∀ i, 100 ≤ i → a' i = a i) (h1 : z_RO a xs A s H) : z_RO a' xs A s H := by
  refine ⟨⟨?_, ?_⟩, fun r hr => ?_⟩
  · rw [h 101 (by decide)]; exact h1.1.1
  · rw [h 102 (by decide)]; exact h1.1.2
  · have : 100 ≤ r := by
      unfold z_av at hr
      rw [Bool.or_eq_true, Bool.or_eq_true] at hr
      rcases hr with q | q | q
      · rw [z_beq q]; decide
      · rw [z_beq q]; decide
      · rw [z_beq (z_and q).1]; decide
    rw [h r this]
    exact h1.2 r hr
theorem z_arrZ : Cond.arrayClass .boolean ∈ TT := List.mem_filter.mpr ⟨List.mem_of_getElem? (i := 1148) (by decide +kernel), rfl⟩
theorem z_gr_lt (r j : Nat) : z_gr r j < 79 := by
  unfold z_gr
  cases h : z_lk (z_grs.getD r []) j with
  | none => exact Nat.lt_of_sub_eq_succ rfl
  | some q =>
    have hm := z_lk_mem h
    show q < 79
    by_cases hr : r < 80
    · have h9 : ∀ r : Fin 80, ∀ q ∈ z_grs.getD r.1 [], q.2 < 79 := by decide +kernel
      exact h9 ⟨r, hr⟩ _ hm
    · rw [z_getD_ge (by show 80 ≤ r; omega)] at hm
      cases hm
theorem z_tr_gv {a a' : Nat → Nat} (h : ∀ i, i < 79 → a' i = a i) (μ : zM) (ci r j : Nat) : z_tr a' (z_gv μ ci r j) = z_tr a (z_gv μ ci r j) := by
  unfold z_gv
  split
  · rfl
  · rfl
  · rfl
  · show Value.ref (a' _) = Value.ref (a _)
    rw [h _ (z_gr_lt r j)]
  · unfold z_rv
    cases hq : (Nat.beq (μ.2.2 r) 0 || Nat.ble 79 (μ.2.2 r)) with
    | true => rfl
    | false =>
      rw [Bool.or_eq_false_iff] at hq
      have : μ.2.2 r < 79 := by
        rcases Nat.lt_or_ge (μ.2.2 r) 79 with q | q
        · exact q
        · rw [Nat.ble_eq_true_of_le q] at hq
          cases hq.2
      show Value.ref (a' _) = Value.ref (a _)
      rw [h _ this]
  · rfl
theorem z_E_a {a a' : Nat → Nat} {k : Nat → ClassId} (h : ∀ i, i < 79 → a' i = a i) (μ : zM) (r : Nat) : z_E a' k μ r = z_E a k μ r := by
  unfold z_E
  split
  · congr 2
    apply List.map_congr_left
    intro j _
    exact z_tr_gv h μ _ r j
  · rfl
  · rfl
  · rfl
  · have e : (fun j => some (a' (z_gr r j))) = fun j => some (a (z_gr r j)) := by
      funext j
      rw [h _ (z_gr_lt r j)]
    rw [e]
theorem z_W_a {a a' : Nat → Nat} {k : Nat → ClassId} (h : ∀ i, i < 79 → a' i = a i) (μ : zM) : z_W a' k 79 μ = z_W a k 79 μ := by
  unfold z_W wZ
  apply List.map_congr_left
  intro i hi
  rw [h i (List.mem_range.mp hi), z_E_a h]
theorem z_W_80 {a : Nat → Nat} {k : Nat → ClassId} (μ : zM) : z_W a k 80 μ = z_W a k 79 μ ++ [(a 79, z_E a k μ 79)] := by
  unfold z_W wZ
  rw [List.range_succ, List.map_append]
  rfl
theorem z_W_zero {a : Nat → Nat} {k : Nat → ClassId} (μ : zM) : z_W a k 79 (z_zero μ) = z_W a k 79 μ := by
  unfold z_W wZ
  apply List.map_congr_left
  intro i hi
  have hi := List.mem_range.mp hi
  congr 1
  apply z_E_congr
  · funext j
    show (bif Nat.beq i 79 then 0 else μ.1 i j) = μ.1 i j
    rw [z_bf (by omega)]
    rfl
  · rfl
  · rfl
theorem va_P_left {D : va_G} {cl : List vw_C} {ws w2 : va_W} {H : Heap} (h : va_P D cl (ws ++ w2) H) : va_P D cl ws H := fun k q hk => h k q (by rw [List.getElem?_append_left (List.getElem?_eq_some_iff.mp hk).1]; exact hk)
set_option maxHeartbeats 2000000 in
theorem z_sound (l : Launch) : ∀ (d j : Nat) (As : List Value) (μ : zM) (Q : zQ), z_C d j As μ Q → z_cat As ≤ z_ml j → j < 189 → z_Met l d j As μ Q := by
  intro d
  induction d with
  | zero => intro j As μ Q h; exact h.elim
  | succ d ih =>
    intro j As μ Q h hcat hj G k a n sz hn
    obtain ⟨n1, n2⟩ := z_nam (j := j) (by omega)
    refine Met.ofW (cc := z_cc j) (maxL := z_ml j) (ret := z_rt j) n1 rfl ?_
    intro p e s m args below meth c s₁ B hml hv
    obtain ⟨rfl, ⟨hsz, ⟨hP, hK, hN⟩, hD0⟩, hRO⟩ := hv
    have hx := B.exec
    have hb := B.bytes
    have hr := B.returns
    have hts0 := atoms_spec (ws := z_ws j) B.pre
    have hts : ∀ w ∈ TT, w.before (As.map (z_tr a)).toArray s = true := fun w h => hts0 w (List.mem_cons_of_mem _ h)
    have hown : s.vm.findClass (z_own (z_oc j)) = some m.cls := n2 ▸ findClass_of_methodNamed B.named
    have hlocks := B.notSynchronized
    subst hsz
    have hD := hD0.self (sz := s.heap.size)
    have hRO' := hRO
    generalize hAe : va_A (z_W a k n μ) s.heap.size = A at hD hRO ⊢
    have hA : ∀ q : Nat, s.heap.size ≤ q → A q := fun q h => by rw [← hAe]; exact Or.inr h
    have hS : va_S A s.heap s.heap [] := va_S.rf
    have hl := lv_entry (As.map (z_tr a)) (n := z_ml j) (by rw [z_sl_len]; exact Nat.le_trans (Nat.le_of_eq (z_cat_tr a As)) hcat)
    rw [lg_entry_eq]
    generalize (lg_sl (As.map (z_tr a)) ++ List.replicate (z_ml j - (lg_sl (As.map (z_tr a))).length) Slot.unset).toArray = ls at hl ⊢
    rw [z_args_tr] at hl
    have hDm : ∀ μ, va_D A (z_W a k n μ) := fun μ' => z_W_D hD μ'
    by_cases hNB : j = mi_X7_nobodyWins
    · subst hNB
      have hn9 : n = 79 := by
        rcases hn with q | ⟨-, q⟩
        · exact q
        · exact absurd q (by decide +kernel)
      subst hn9
      have hAs := (z_go_nb (h (fun _ _ _ _ _ => True) ⟨fun _ _ _ _ _ _ _ _ _ _ _ _ _ => trivial, fun _ _ _ _ _ _ _ _ _ _ _ => trivial⟩ (fun _ _ _ _ _ _ _ _ _ => trivial))).1
      subst hAs
      have d0 := z_dec1 (j := mi_X7_nobodyWins) (pc := 0) (ins := .iconst 0) (by decide +kernel) (by decide)
      have d1 := z_dec1 (j := mi_X7_nobodyWins) (pc := 1) (ins := .istore_n 1) (by decide +kernel) (by decide)
      have d2 := z_dec1 (j := mi_X7_nobodyWins) (pc := 2) (ins := .iconst 4) (by decide +kernel) (by decide)
      have d3 := z_dec1 (j := mi_X7_nobodyWins) (pc := 3) (ins := .newarray .boolean) (by decide +kernel) (by decide)
      have d5 := z_dec1 (j := mi_X7_nobodyWins) (pc := 5) (ins := .astore_n 2) (by decide +kernel) (by decide)
      have hml9 : z_ml mi_X7_nobodyWins = 4 := by decide +kernel
      have hal9 : z_al mi_X7_nobodyWins = 1 := by decide +kernel
      have hR9 : 1 ≤ (headSpec (z_ws mi_X7_nobodyWins) (z_rom (d + 1) (z_al mi_X7_nobodyWins))).room.cells ∧ 16 ≤ (headSpec (z_ws mi_X7_nobodyWins) (z_rom (d + 1) (z_al mi_X7_nobodyWins))).room.slots := by
        rw [hal9]
        exact ⟨Nat.le_refl _, Nat.le_refl _⟩
      refine lv_iconst (v := 0) hx hb d0 rfl ?_
      refine lv_istore_n hx hb d1 rfl hl (by rw [hml9]; decide) rfl (fun ls1 hl1 => ?_)
      refine lv_iconst (v := 4) hx hb d2 rfl ?_
      refine va_newa (atype := .boolean) (ty := .boolean) (N' := 4) (a0 := (4, .inl (fun _ => 0))) hx hb (hts (.arrayClass .boolean) z_arrZ) rfl hK hP hD hS hA (fun cA => rfl) (by decide) (by decide) (by decide) (by omega) (by omega) d3 (fun q cA H1 hK1 hP1 hD1 hS1 => ?_)
      have hcA : cA = k 2 := ty_same2 hK1 hK
      subst hcA
      refine lv_astore_n hx hb d5 rfl hl1 (by rw [hml9]; decide) rfl (fun ls2 hl2 => ?_)
      have ha' : ∀ i, i < 79 → va_up a 79 q i = a i := fun i hi => va_up_ne a q (by omega)
      have hW : z_W a k 79 μ ++ [(q, .inl (k 2, 4, .inl (fun _ => 0)))] = z_W (va_up a 79 q) k 80 (z_zero μ) := by
        rw [z_W_80, z_W_a ha', z_W_zero, va_up_self, z_E3 (show (z_sh 79).1 = 3 by decide +kernel)]
        rfl
      rw [hW] at hP1 hD1
      have X : z_X p s m ([Value.ref 50].map (z_tr a)).toArray c mi_X7_nobodyWins z_x0 G k (va_up a 79 q) 80 A := ⟨hx, hb, hml, hts, hown, hK, hN, fun μ' => z_W_D hD1 μ', z_RO_a (fun i hi => va_up_ne a q (by omega)) hRO, hA, by decide +kernel, by decide⟩
      refine W.widen (k := 1) (n := 16 * 1) (by decide) (by decide) ?_
      have hgo := (z_go_nb (h (z_Z p l e (z_rom (d + 1) (z_al mi_X7_nobodyWins)) s m ([Value.ref 50].map (z_tr a)).toArray below meth c (MQ below (z_Qc Q G k a 79 A) ([Value.ref 50].map (z_tr a)).toArray s (z_al mi_X7_nobodyWins) (16 * z_al mi_X7_nobodyWins) A) G k (va_up a 79 q) 80 A mi_X7_nobodyWins 1)
        (z_Z_clo ih X (Nat.le_refl _) (Nat.le_refl _) (Nat.le_refl _) (Nat.le_refl _) (Or.inr ⟨rfl, by rw [hal9]; decide⟩))
        (fun b pc lv st μ' v hb1 hv hq => by
          intro h1 h2 H locs ls hP hS hl
          have hv0 : v = none := z_rn_void (by decide +kernel) hv
          subst hv0
          refine W.widen (k := z_al mi_X7_nobodyWins) (n := 16 * z_al mi_X7_nobodyWins) h2 (Nat.mul_le_mul_left _ h2) ?_
          refine zs_ret X hr hlocks hv (fun t ht hW => ⟨⟨none, μ', rfl, hq, ?_⟩, hS.F ht⟩) hS.2.2
          rw [z_W_80, z_W_a ha'] at hP
          rw [ht]
          exact va_P_left hP))).2
      refine hgo (Nat.le_refl _) (by rw [hal9]; decide) H1 [] ls2 hP1 hS1 ?_
      have e5 : z_tl (va_up a 79 q) [(2, .ref 79), (1, .int 0), (0, .ref 50)] = [(2, .ref q), (1, .int 0), (0, .ref (a 50))] := by
        show [((2 : Nat), Value.ref (va_up a 79 q 79)), (1, .int 0), (0, .ref (va_up a 79 q 50))] = _
        rw [va_up_self, ha' 50 (by decide)]
      rw [e5]
      exact hl2
    · have X : z_X p s m (As.map (z_tr a)).toArray c j z_x0 G k a n A := ⟨hx, hb, hml, hts, hown, hK, hN, hDm, hRO, hA, by
        unfold z_np
        rw [z_bf hNB]
        show 79 ≤ n
        omega, by omega⟩
      have hgo := z_go_ne hNB (h (z_Z p l e (z_rom (d + 1) (z_al j)) s m (As.map (z_tr a)).toArray below meth c (MQ below (z_Qc Q G k a n A) (As.map (z_tr a)).toArray s (z_al j) (16 * z_al j) A) G k a n A j 0)
        (z_Z_clo ih X (Nat.le_refl _) (Nat.le_refl _) (Nat.le_refl _) (Nat.le_refl _) (by
          rcases hn with q | ⟨q, q'⟩
          · exact Or.inl q
          · exact Or.inr ⟨q, by omega⟩))
        (fun b pc lv st μ' v hb1 hv hq => by
          intro h1 h2 H locs ls hP hS hl
          refine W.widen (k := z_al j) (n := 16 * z_al j) h2 (Nat.mul_le_mul_left _ h2) ?_
          exact zs_ret X hr hlocks hv (fun t ht hW => ⟨⟨v, μ', rfl, hq, by rw [ht]; exact hP⟩, hS.F ht⟩) hS.2.2))
      exact hgo (Nat.le_refl _) (Nat.zero_le _) s.heap [] ls hP hS hl

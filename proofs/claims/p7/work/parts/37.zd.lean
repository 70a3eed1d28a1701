/-! the small machine's contracts are contracts of the large one -/
theorem z_ml_le (j : Nat) : z_ml j ≤ 45 := by
  unfold z_ml z_mt
  by_cases h : j < 190
  · have h9 : (List.range 190).all (fun j => Nat.ble (z_mets.getD j (0, 0, 9, 0)).2.1 45) = true := by decide +kernel
    rw [List.all_eq_true] at h9
    exact Nat.le_of_ble_eq_true (h9 j (List.mem_range.mpr h))
  · rw [z_getD_ge (by show 190 ≤ j; omega)]
    decide
theorem z_goodT {j' : Nat} (hj : j' < 189) : GoodIn TT (z_ws j') := by
  intro w hw
  rcases List.mem_cons.mp hw with rfl | hw
  · have := (z_mok_all j' hj).1
    exact ⟨this, good_of_word (TT_good _ this)⟩
  · exact ⟨hw, good_of_word (TT_good _ hw)⟩
theorem z_goodI {ws : List Cond} (h : ∀ w ∈ ws, w ∈ TT) : GoodIn TT ws := fun w hw => ⟨h w hw, good_of_word (TT_good _ (h w hw))⟩
theorem z_mem4 {α : Type} {P : α → Prop} {a b c d : α} (h1 : P a) (h2 : P b) (h3 : P c) (h4 : P d) : ∀ w ∈ [a, b, c, d], P w := by
  intro w hw
  simp only [List.mem_cons, List.not_mem_nil, or_false] at hw
  rcases hw with rfl | rfl | rfl | rfl <;> assumption
theorem z_mem3 {α : Type} {P : α → Prop} {a b c : α} (h1 : P a) (h2 : P b) (h3 : P c) : ∀ w ∈ [a, b, c], P w := by
  intro w hw
  simp only [List.mem_cons, List.not_mem_nil, or_false] at hw
  rcases hw with rfl | rfl | rfl <;> assumption
theorem z_stk {a : Nat → Nat} {st As rest : List Value} {r na : Nat} (h : (st.take na).reverse = .ref r :: As) (hr : st.drop na = rest) : st.map (z_tr a) = (As.map (z_tr a)).reverse ++ .ref (a r) :: rest.map (z_tr a) := by
  have h1 : st = (As.reverse ++ [.ref r]) ++ rest := by
    have e : st.take na = As.reverse ++ [.ref r] := by
      have := congrArg List.reverse h
      rw [List.reverse_reverse, List.reverse_cons] at this
      exact this
    rw [← e, ← hr, List.take_append_drop]
  rw [h1, List.map_append, List.map_append, List.map_reverse, List.append_assoc]
  rfl
theorem z_stkS {a : Nat → Nat} {st : List Value} {na : Nat} : st.map (z_tr a) = ((st.take na).reverse.map (z_tr a)).reverse ++ (st.drop na).map (z_tr a) := by
  rw [List.map_reverse, List.reverse_reverse, ← List.map_append, List.take_append_drop]
theorem z_tol {a : Nat → Nat} {r : Option Value} {rest : List Value} : (r.map (z_tr a)).toList ++ rest.map (z_tr a) = (r.toList ++ rest).map (z_tr a) := by cases r <;> rfl
section ZD
variable {p : Program} {l : Launch} {e : Env} {R : Room} {s : State} {m : MethodId} {args : Array Value} {below : List Frame} {meth : Method} {c : Code} {H : Heap} {locs : List Loc} {cells slots : Nat} {QW : State → Prop}
variable {pc : Nat} {ls : Array Slot} {a : Nat → Nat} {k : Nat → ClassId} {n : Nat} {G : va_G} {A : Nat → Prop}
theorem z_pq_pre {μ : zM} {av : List Value} {xs : Nat × (Nat → Int32)} (hP : va_P G vwCl (z_W a k n μ) H) (hD : ∀ μ, va_D A (z_W a k n μ)) (hK : va_K G vwCl (tyF k) s) (hN : NW s) (hRO : z_RO a xs A s s.heap) (hS : va_S A s.heap H locs) (hA : ∀ q, s.heap.size ≤ q → A q) : ∀ U : State, U.heap = H → s.WarmedH U.vm → va_Pc av (z_pq G k a n μ H.size) av.toArray U := fun U hU hW => ⟨rfl, (pq_pre (av := av) hP (hD μ) hK hN U hU hW).2, by
  rw [hU]
  exact z_RO.moved hW.alike ((hRO.less.kept hS.2.1).narrow (wZ_F (hD μ) hS hA))⟩
set_option maxHeartbeats 1000000 in
theorem zs_call {xs : Nat × (Nat → Int32)} {d j j' : Nat} (X : z_X p s m args c j xs G k a n A) (hRf : d + 2 ≤ R.frames) (hRl : 64 * (d + 2) ≤ R.locals) (hRc : cells + z_al j' ≤ R.cells) (hRs : slots + 16 * z_al j' ≤ R.slots) {lv : zL} {st As rest : List Value} {μ : zM} {Qk : zQ} (hc : z_cl j pc st = some (j', As, rest)) (hM : z_cat As ≤ z_ml j' → j' < 189 → z_Met l d j' As μ Qk) (hn8 : n = 79 ∨ (n = 80 ∧ z_al j' = 0))
    (hP : va_P G vwCl (z_W a k n μ) H) (hS : va_S A s.heap H locs) (hl : lv_has ls (z_ml j) (z_tl a lv))
    (kk : ∀ (r : Option Value) (μ' : zM) (H1 : Heap) (locs1 : List Loc), Qk r μ' → va_P G vwCl (z_W a k n μ') H1 → va_S A s.heap H1 locs1 → W p l e R s m args below meth c H1 locs1 (cells + z_al j') (slots + 16 * z_al j') QW (F0 m (pc + 3) ls ((r.toList ++ rest).map (z_tr a)))) : W p l e R s m args below meth c H locs cells slots QW (F0 m pc ls (st.map (z_tr a))) := by
  obtain ⟨hx, hb, hml, hts, hown, hK, hN, hD, hRO, hA, hn, hn2⟩ := X
  have hF := wZ_F (hD μ) hS hA
  have hRR : (z_rom d (z_al j')).frames + 1 ≤ R.frames ∧ 8 + (z_ml j' + 11) + (z_rom d (z_al j')).locals ≤ R.locals := by
    have := z_ml_le j'
    show d + 1 + 1 ≤ R.frames ∧ 8 + (z_ml j' + 11) + 64 * (d + 1) ≤ R.locals
    omega
  unfold z_cl at hc
  split at hc
  · rename_i idx hi
    split at hc
    · rename_i j2 na ci hlk
      split at hc
      · rename_i r As2 hAs
        obtain ⟨hq, hc⟩ := z_bif hc
        cases hc
        obtain ⟨q1, hq⟩ := z_and hq
        obtain ⟨q2, hq⟩ := z_and hq
        obtain ⟨q3, hq⟩ := z_and hq
        obtain ⟨q4, hq⟩ := z_and hq
        obtain ⟨q5, q6⟩ := z_and hq
        have q1 := z_beq q1
        have q2 := Nat.lt_of_lt_of_le (z_blt q2) hn
        have q3 := z_beq q3
        have q4 := z_beq q4
        obtain ⟨⟨y1, y2⟩, w1, w2, w3, w4, ⟨T, N, w5⟩, w6⟩ := z_cal_V hlk
        have hj := z_cal_j hlk
        have hM := hM (Nat.le_of_ble_eq_true q6) hj G k a n H.size hn8
        obtain ⟨len, hd, hlen⟩ := z_dec hi
        have hlen : 3 = len := hlen.resolve_right (by show ¬ 3 = 0; decide)
        subst hlen
        have hnp : (parseMethodDescriptor (z_y j').desc).map (fun d => d.parameters.length) = some (As2.map (z_tr a)).length := by
          rw [List.length_map]
          obtain ⟨n0, e1, e2⟩ := Option.map_eq_some_iff.mp w6
          have e1 : (parseMethodDescriptor (z_y j').desc).map (fun d => d.parameters.length) = some n0 := e1
          rw [e1]
          congr 1
          omega
        refine z_callW (rest := (st.drop na).map (z_tr a)) (va_runV (Ts := TT) (own := z_own (z_oc j)) (C := (z_y j').cls) (index := idx) (bytes := z_cc j') (maxL := z_ml j') (ret := z_rt j') (As := As2.map (z_tr a)) (b := a r) ⟨hx, hb, hml, hown, hts⟩ hM
          (cwV _ hts (goodIn_app (a := [.methodLink (z_own (z_oc j)) idx (z_y j'), .instanceMethod (z_y j'), .selects (z_y j').cls (z_y j') (z_y j'), .initialized (z_y j').cls]) (z_goodI (z_mem4 w1 w2 w3 w4)) (z_goodT hj)) rfl rfl rfl ⟨rfl, y1, y2, hnp⟩ hRR)
          ⟨z_pq_bl, va_recv hK hP (ci := ci) (q0 := r) (fs := (List.range (z_sh r).2.2).map (fun j => z_tr a (z_gv μ ci r j))) w5 (by rw [z_W_at q2, z_E0 (N := 0) (ci := 0) q3, q4]), z_pq_pre (av := (Value.ref r :: As2).map (z_tr a)) hP hD hK hN hRO hS hA⟩ rfl rfl hl.1 (z_stk hAs rfl) (lv_room (by rw [z_cat_tr]; exact Nat.le_of_ble_eq_true q5)) hd ⟨hRc, hRs⟩) hS (fun q _ h => hF q h) hF (fun r μ' H1 locs1 h1 h2 h3 => ?_)
        rw [z_tol]
        exact kk r μ' H1 locs1 h1 h2 h3
      · cases hc
    · cases hc
  · rename_i idx hi
    split at hc
    · rename_i kd j2 na ci hlk
      obtain ⟨hq, hc⟩ := z_bif hc
      cases hc
      obtain ⟨q0, hq⟩ := z_and hq
      obtain ⟨q1, hq⟩ := z_and hq
      obtain ⟨q5, q6⟩ := z_and hq
      have q0 := z_blt q0
      have q1 := z_beq q1
      have hj := z_cal_j hlk
      have hM := hM (Nat.le_of_ble_eq_true q6) hj G k a n H.size hn8
      obtain ⟨len, hd, hlen⟩ := z_dec hi
      have hlen : 3 = len := hlen.resolve_right (by show ¬ 3 = 0; decide)
      subst hlen
      have hlA : ((st.take na).reverse.map (z_tr a)).length = na := by rw [List.length_map, List.length_reverse, q1]
      match kd, hlk with
      | 0, _ => exact absurd q0 (by decide)
      | 1, hlk =>
        obtain ⟨⟨y1, y2⟩, w1, w2, w4, w6⟩ := z_cal_S hlk
        have hnp : (parseMethodDescriptor (z_y j').desc).map (fun d => d.parameters.length) = some ((st.take na).reverse.map (z_tr a)).length := by rw [hlA]; exact w6
        refine z_callW (rest := (st.drop na).map (z_tr a)) (va_runS (Ts := TT) (own := z_own (z_oc j)) (index := idx) (bytes := z_cc j') (maxL := z_ml j') (ret := z_rt j') (As := (st.take na).reverse.map (z_tr a)) ⟨hx, hb, hml, hown, hts⟩ hM
          (va_cwS _ hts (goodIn_app (a := [.methodLink (z_own (z_oc j)) idx (z_y j'), .static (z_y j'), .initialized (z_y j').cls]) (z_goodI (z_mem3 w1 w2 w4)) (z_goodT hj)) rfl rfl rfl ⟨y1, y2, hnp⟩ hRR)
          ⟨z_pq_bl, z_pq_pre (av := (st.take na).reverse.map (z_tr a)) hP hD hK hN hRO hS hA⟩ rfl rfl hl.1 z_stkS (lv_room (by rw [z_cat_tr]; exact Nat.le_of_ble_eq_true q5)) hd ⟨hRc, hRs⟩) hS (fun q _ h => hF q h) hF (fun r μ' H1 locs1 h1 h2 h3 => ?_)
        rw [z_tol]
        exact kk r μ' H1 locs1 h1 h2 h3
      | kd + 2, hlk =>
        obtain ⟨⟨y1, y2⟩, w1, w2, w4, w6⟩ := z_cal_N hlk
        have hnp : (parseMethodDescriptor (z_y j').desc).map (fun d => d.parameters.length) = some ((st.take na).reverse.map (z_tr a)).length := by rw [hlA]; exact w6
        refine z_callW (rest := (st.drop na).map (z_tr a)) (va_runSN (Ts := TT) (own := z_own (z_oc j)) (host := "TileHouse") (index := idx) (bytes := z_cc j') (maxL := z_ml j') (ret := z_rt j') (As := (st.take na).reverse.map (z_tr a)) ⟨hx, hb, hml, hown, hts⟩ hM
          ⟨va_cnB _ hts (z_goodT hj) rfl rfl rfl (z_nest_ok w1 hN) (hts _ w4) ⟨y1, y2, hnp⟩ hRR, hts _ w2, trivial⟩
          ⟨z_pq_bl, z_pq_pre (av := (st.take na).reverse.map (z_tr a)) hP hD hK hN hRO hS hA⟩ rfl rfl hl.1 z_stkS (lv_room (by rw [z_cat_tr]; exact Nat.le_of_ble_eq_true q5)) hd ⟨hRc, hRs⟩) hS (fun q _ h => hF q h) hF (fun r μ' H1 locs1 h1 h2 h3 => ?_)
        rw [z_tol]
        exact kk r μ' H1 locs1 h1 h2 h3
    · cases hc
  · cases hc
theorem zs_ret {j : Nat} {xs : Nat × (Nat → Int32)} (X : z_X p s m args c j xs G k a n A) (hr : meth.sig.returnType = z_rt j) (hlocks : meth.locks = false) {st : List Value} {v : Option Value} (h : z_rn j pc st = some v) {Qc : Array Value → State → Outcome → State → Prop} {free : Addr → Prop}
    (hq : ∀ t : State, t.heap = H → s.WarmedH t.vm → Qc args s (.returned (v.map (z_tr a))) t) (hf : ∀ q ∈ locs, free q.base) : W p l e R s m args below meth c H locs cells slots (MQ below Qc args s cells slots free) (F0 m pc ls (st.map (z_tr a))) := by
  obtain ⟨hx, hb, hml, hts, hown, hK, hN, hD, hRO, hA, hn, hn2⟩ := X
  unfold z_rn at h
  split at h
  · rename_i hi
    obtain ⟨h1, h⟩ := z_bif h
    cases h
    obtain ⟨len, hd, hlen⟩ := z_dec hi
    have hlen : 1 = len := hlen.resolve_right (by show ¬ 1 = 0; decide)
    subst hlen
    exact W.vret hx hb (hr.trans (by unfold z_rt; rw [z_beq h1]; rfl)) hq hf hd hlocks
  · rename_i x hi
    obtain ⟨h1, h⟩ := z_bif h
    cases h
    obtain ⟨len, hd, hlen⟩ := z_dec hi
    have hlen : 1 = len := hlen.resolve_right (by show ¬ 1 = 0; decide)
    subst hlen
    rw [Bool.or_eq_true] at h1
    rcases h1 with h1 | h1
    · exact W.iret hx hb (hr.trans (by unfold z_rt; rw [z_beq h1]; rfl)) hq hf hd hlocks
    · obtain ⟨h1, h2⟩ := z_and h1
      refine W.zret (ty := .boolean) hx hb (hr.trans (by unfold z_rt; rw [z_beq h1]; rfl)) ?_ hq hf hd hlocks
      unfold z_b01 at h2
      rw [Bool.or_eq_true] at h2
      rcases h2 with q | q
      · rw [show x = 0 by simpa using q]; rfl
      · rw [show x = 1 by simpa using q]; rfl
  · rename_i x hi
    obtain ⟨h1, h⟩ := z_bif h
    cases h
    obtain ⟨len, hd, hlen⟩ := z_dec hi
    have hlen : 1 = len := hlen.resolve_right (by show ¬ 1 = 0; decide)
    subst hlen
    exact W.lret hx hb (hr.trans (by unfold z_rt; rw [z_beq h1]; rfl)) hq hf hd hlocks
  · rename_i r hi
    obtain ⟨h1, h⟩ := z_bif h
    cases h
    obtain ⟨len, hd, hlen⟩ := z_dec hi
    have hlen : 1 = len := hlen.resolve_right (by show ¬ 1 = 0; decide)
    subst hlen
    exact W.aret (rt := .object "TileHouse$Seat") hx hb (hr.trans (by unfold z_rt; rw [z_beq h1]; rfl)) (Or.inl ⟨_, rfl⟩) (Or.inr ⟨_, rfl⟩) hq hf hd hlocks
  · cases h
end ZD

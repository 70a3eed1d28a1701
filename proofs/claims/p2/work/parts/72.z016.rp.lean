/-! the game: discard, hide, four, three of the class, exactly -/
set_option maxRecDepth 8000
theorem gc_discard (d : Nat) (hd : 10 ≤ d) (μ : zM) (t : Nat) (ht4 : t < 4) (ht : μ.1 0 8 = nI t) (k q : Nat) (hk : k < 34) (hq : q < 86) (e2 : μ.1 (18 + 8 * t) 2 = nI q) (bt : Bool) (mt : Bool) (hmt : ∀ d, 3 ≤ d → z_C d mi_X6_mayThrow [.ref 0, .int (nI k)] μ (zR μ (.int (nB mt)))) (mb : Bool) (hmb : ∀ d, 8 ≤ d → z_C d mi_X6_mayBet [.ref 0, .ref (18 + 8 * t)] (pS μ t k (-1)) (zR (pS μ t k (-1)) (.int (nB mb)))) : z_C d mi_X6_discard [.ref 0, .int (nI k), .int (nB bt)] μ (fun r μ' => r = some ((bif decide ((μ.1 0 7) = 1) then (bif mt then (bif bt then (bif mb then .int 1 else .int 0) else .int 1) else .int 0) else .int 0)) ∧ μ' = (bif decide ((μ.1 0 7) = 1) then (bif mt then (bif bt then (bif mb then z_ui (z_uj (z_ui (tT (z_ui (z_ui (z_ui (pS μ t k (-1)) (18 + 8 * t) 5 (bif decide ((μ.1 (18 + 8 * t) 2) = 0) then bif decide ((μ.1 0 17) = 0) then (2 : Int32) else 1 else 1)) (18 + 8 * t) 6 (nB bt)) (18 + 8 * t) 7 (nB bt)) t k q) 0 15 (nI k)) 0 18 0) 0 7 2 else pS (pS μ t k (-1)) t k 1) else z_ui (z_uj (z_ui (tT (z_ui (z_ui (pS μ t k (-1)) (18 + 8 * t) 6 (nB bt)) (18 + 8 * t) 7 (nB bt)) t k q) 0 15 (nI k)) 0 18 0) 0 7 2) else μ) else μ)) := by
  refine z_C_in (by decide) (by omega) (fun d' Z ed hc hr => ?_)
  have hH : zH mi_X6_discard zc_X6_discard 79 6 4 := ⟨by rfl, by rfl, by rfl, by rfl⟩
  refine z_rcs hc hH 1 (pc' := 1) (lv' := [(0, .ref 0), (1, .int (nI k)), (2, .int (nB bt))]) (st' := [.ref 0]) (μ' := μ) (by rfl) ?_
  refine zq_gfi hc hH (by rfl) (ci := 5) (f := 7) (by rfl) (by decide +kernel) (by rfl) ?_
  refine z_rcs hc hH 1 (pc' := 5) (lv' := [(0, .ref 0), (1, .int (nI k)), (2, .int (nB bt))]) (st' := [.int 1, .int (μ.1 0 7)]) (μ' := μ) (by rfl) ?_
  refine zq_ic hc hH (by rfl) (tg := 16) (by rfl) (fun h1 => ?_) (fun h1 => ?_)
  · have h1 : (decide ((μ.1 0 7) = 1)) = false := decide_eq_false (cm_ne.mp h1)
    refine z_rcs hc hH 1 (pc' := 17) (lv' := [(0, .ref 0), (1, .int (nI k)), (2, .int (nB bt))]) (st' := [.int 0]) (μ' := μ) (by rfl) ?_
    exact hr 0 17 _ _ _ (some (.int 0)) (by decide +kernel) (by rfl) (⟨(by first | rfl | simp only [h1, cond_true, cond_false]), (by simp only [h1, cond_true, cond_false])⟩)
  · have h1 : (decide ((μ.1 0 7) = 1)) = true := decide_eq_true (cn_ne.mp h1)
    refine z_rcs hc hH 2 (pc' := 10) (lv' := [(0, .ref 0), (1, .int (nI k)), (2, .int (nB bt))]) (st' := [.int (nI k), .ref 0]) (μ' := μ) (by rfl) ?_
    refine zq_call hc (by rfl) (hmt d' (by omega)) (by decide +kernel) (fun r9 μ9 hq => ?_)
    obtain ⟨hμ9, rfl⟩ := hq
    rw [hμ9]
    clear hμ9 μ9
    show Z 0 13 [(0, .ref 0), (1, .int (nI k)), (2, .int (nB bt))] [.int (nB mt)] μ
    refine zq_if hc hH (by rfl) (tg := 18) (by rfl) (fun h2 => ?_) (fun h2 => ?_)
    · have h2 : (mt) = true := nB_n.mp (cm_ne.mp h2)
      refine z_rcs hc hH 2 (pc' := 20) (lv' := [(0, .ref 0), (1, .int (nI k)), (2, .int (nB bt))]) (st' := [.ref 0, .ref 0]) (μ' := μ) (by rfl) ?_
      refine zq_gfi hc hH (by rfl) (ci := 5) (f := 8) (by rfl) (by decide +kernel) (by rfl) ?_
      rw [ht]
      refine zq_call hc (by rfl) (gc_at4 d' (by omega) μ t ht4) (by decide +kernel) (fun r9 μ9 hq => ?_)
      obtain ⟨hμ9, rfl⟩ := hq
      rw [hμ9]
      clear hμ9 μ9
      show Z 0 26 [(0, .ref 0), (1, .int (nI k)), (2, .int (nB bt))] [.ref (18 + 8 * t)] μ
      refine z_rcs hc hH 2 (pc' := 28) (lv' := [(3, .ref (18 + 8 * t)), (0, .ref 0), (1, .int (nI k)), (2, .int (nB bt))]) (st' := [.ref (18 + 8 * t)]) (μ' := μ) (by rfl) ?_
      refine zq_gfr hc hH (by rfl) (ci := 1) (f := 0) (q := 19 + 8 * t) (by rfl) (sj (P := fun i => okf 79 1 0 (18 + 8 * i)) ht4 (by decide +kernel)) (by rfl) (sj (P := fun i => Nat.beq (z_gr (18 + 8 * i) 0) (19 + 8 * i)) ht4 (by decide +kernel)) ?_
      refine z_rcs hc hH 2 (pc' := 33) (lv' := [(3, .ref (18 + 8 * t)), (0, .ref 0), (1, .int (nI k)), (2, .int (nB bt))]) (st' := [.int 1, .int (nI k), .ref (19 + 8 * t)]) (μ' := μ) (by rfl) ?_
      refine zq_call hc (z_clv (by rfl) (by rfl) (by rfl) (by rfl) (by rfl) (by rfl) (sj (P := fun i => okr 79 2 (19 + 8 * i)) ht4 (by decide +kernel)) (by rfl) (by rfl)) (gc_take d' (by omega) μ t ht4 k hk 1) (by decide +kernel) (fun r9 μ9 hq => ?_)
      obtain ⟨rfl, rfl⟩ := hq
      show Z 0 36 [(3, .ref (18 + 8 * t)), (0, .ref 0), (1, .int (nI k)), (2, .int (nB bt))] [] (pS μ t k (-1))
      refine z_rcs hc hH 1 (pc' := 37) (lv' := [(3, .ref (18 + 8 * t)), (0, .ref 0), (1, .int (nI k)), (2, .int (nB bt))]) (st' := [.int (nB bt)]) (μ' := pS μ t k (-1)) (by rfl) ?_
      refine zq_if hc hH (by rfl) (tg := 59) (by rfl) (fun h3 => ?_) (fun h3 => ?_)
      · have h3 : (bt) = false := nB_z.mp (cm_eq9.mp h3)
        refine z_rcs hc hH 1 (pc' := 60) (lv' := [(3, .ref (18 + 8 * t)), (0, .ref 0), (1, .int (nI k)), (2, .int (nB bt))]) (st' := [.int (nB bt)]) (μ' := pS μ t k (-1)) (by rfl) ?_
        refine zq_if hc hH (by rfl) (tg := 86) (by rfl) (fun h4 => ?_) (fun h4 => ?_)
        · have h4 : (bt) = false := nB_z.mp (cm_eq9.mp h4)
          refine z_rcs hc hH 2 (pc' := 88) (lv' := [(3, .ref (18 + 8 * t)), (0, .ref 0), (1, .int (nI k)), (2, .int (nB bt))]) (st' := [.int (nB bt), .ref (18 + 8 * t)]) (μ' := pS μ t k (-1)) (by rfl) ?_
          refine zq_pfb hc hH (by rfl) (ci := 1) (f := 6) (by rfl) (sj (P := fun i => okf 79 1 6 (18 + 8 * i)) ht4 (by decide +kernel)) (by rfl) ((fun b : Bool => (by cases b <;> rfl : z_b01 (nB b) = true)) bt) ?_
          show Z 0 91 [(3, .ref (18 + 8 * t)), (0, .ref 0), (1, .int (nI k)), (2, .int (nB bt))] [] (z_ui (pS μ t k (-1)) (18 + 8 * t) 6 (nB bt))
          refine z_rcs hc hH 2 (pc' := 93) (lv' := [(3, .ref (18 + 8 * t)), (0, .ref 0), (1, .int (nI k)), (2, .int (nB bt))]) (st' := [.int (nB bt), .ref (18 + 8 * t)]) (μ' := z_ui (pS μ t k (-1)) (18 + 8 * t) 6 (nB bt)) (by rfl) ?_
          refine zq_pfb hc hH (by rfl) (ci := 1) (f := 7) (by rfl) (sj (P := fun i => okf 79 1 7 (18 + 8 * i)) ht4 (by decide +kernel)) (by rfl) ((fun b : Bool => (by cases b <;> rfl : z_b01 (nB b) = true)) bt) ?_
          show Z 0 96 [(3, .ref (18 + 8 * t)), (0, .ref 0), (1, .int (nI k)), (2, .int (nB bt))] [] (z_ui (z_ui (pS μ t k (-1)) (18 + 8 * t) 6 (nB bt)) (18 + 8 * t) 7 (nB bt))
          refine z_rcs hc hH 2 (pc' := 98) (lv' := [(3, .ref (18 + 8 * t)), (0, .ref 0), (1, .int (nI k)), (2, .int (nB bt))]) (st' := [.int (nI k), .ref (18 + 8 * t)]) (μ' := z_ui (z_ui (pS μ t k (-1)) (18 + 8 * t) 6 (nB bt)) (18 + 8 * t) 7 (nB bt)) (by rfl) ?_
          refine zq_call hc (z_clv (by rfl) (by rfl) (by rfl) (by rfl) (by rfl) (by rfl) (sj (P := fun i => okr 79 1 (18 + 8 * i)) ht4 (by decide +kernel)) (by rfl) (by rfl)) (gc_throwTile d' (by omega) (z_ui (z_ui (pS μ t k (-1)) (18 + 8 * t) 6 (nB bt)) (18 + 8 * t) 7 (nB bt)) t ht4 k q hk hq (by rw [ui_k (by omega), ui_k (by omega), pS_g (by omega)]; exact e2)) (by decide +kernel) (fun r9 μ9 hq => ?_)
          obtain ⟨rfl, rfl⟩ := hq
          show Z 0 101 [(3, .ref (18 + 8 * t)), (0, .ref 0), (1, .int (nI k)), (2, .int (nB bt))] [] (tT (z_ui (z_ui (pS μ t k (-1)) (18 + 8 * t) 6 (nB bt)) (18 + 8 * t) 7 (nB bt)) t k q)
          refine z_rcs hc hH 2 (pc' := 103) (lv' := [(3, .ref (18 + 8 * t)), (0, .ref 0), (1, .int (nI k)), (2, .int (nB bt))]) (st' := [.int (nI k), .ref 0]) (μ' := tT (z_ui (z_ui (pS μ t k (-1)) (18 + 8 * t) 6 (nB bt)) (18 + 8 * t) 7 (nB bt)) t k q) (by rfl) ?_
          refine zq_pfi hc hH (by rfl) (ci := 5) (f := 15) (by rfl) (by decide +kernel) (by rfl) ?_
          show Z 0 106 [(3, .ref (18 + 8 * t)), (0, .ref 0), (1, .int (nI k)), (2, .int (nB bt))] [] (z_ui (tT (z_ui (z_ui (pS μ t k (-1)) (18 + 8 * t) 6 (nB bt)) (18 + 8 * t) 7 (nB bt)) t k q) 0 15 (nI k))
          refine z_rcs hc hH 2 (pc' := 108) (lv' := [(3, .ref (18 + 8 * t)), (0, .ref 0), (1, .int (nI k)), (2, .int (nB bt))]) (st' := [.long 0, .ref 0]) (μ' := z_ui (tT (z_ui (z_ui (pS μ t k (-1)) (18 + 8 * t) 6 (nB bt)) (18 + 8 * t) 7 (nB bt)) t k q) 0 15 (nI k)) (by rfl) ?_
          refine zq_pfl hc hH (by rfl) (ci := 5) (f := 18) (by rfl) (by decide +kernel) (by rfl) ?_
          show Z 0 111 [(3, .ref (18 + 8 * t)), (0, .ref 0), (1, .int (nI k)), (2, .int (nB bt))] [] (z_uj (z_ui (tT (z_ui (z_ui (pS μ t k (-1)) (18 + 8 * t) 6 (nB bt)) (18 + 8 * t) 7 (nB bt)) t k q) 0 15 (nI k)) 0 18 0)
          refine z_rcs hc hH 2 (pc' := 113) (lv' := [(3, .ref (18 + 8 * t)), (0, .ref 0), (1, .int (nI k)), (2, .int (nB bt))]) (st' := [.int 2, .ref 0]) (μ' := z_uj (z_ui (tT (z_ui (z_ui (pS μ t k (-1)) (18 + 8 * t) 6 (nB bt)) (18 + 8 * t) 7 (nB bt)) t k q) 0 15 (nI k)) 0 18 0) (by rfl) ?_
          refine zq_pfi hc hH (by rfl) (ci := 5) (f := 7) (by rfl) (by decide +kernel) (by rfl) ?_
          show Z 0 116 [(3, .ref (18 + 8 * t)), (0, .ref 0), (1, .int (nI k)), (2, .int (nB bt))] [] (z_ui (z_uj (z_ui (tT (z_ui (z_ui (pS μ t k (-1)) (18 + 8 * t) 6 (nB bt)) (18 + 8 * t) 7 (nB bt)) t k q) 0 15 (nI k)) 0 18 0) 0 7 2)
          refine z_rcs hc hH 1 (pc' := 117) (lv' := [(3, .ref (18 + 8 * t)), (0, .ref 0), (1, .int (nI k)), (2, .int (nB bt))]) (st' := [.int 1]) (μ' := z_ui (z_uj (z_ui (tT (z_ui (z_ui (pS μ t k (-1)) (18 + 8 * t) 6 (nB bt)) (18 + 8 * t) 7 (nB bt)) t k q) 0 15 (nI k)) 0 18 0) 0 7 2) (by rfl) ?_
          exact hr 0 117 _ _ _ (some (.int 1)) (by decide +kernel) (by rfl) (⟨(by first | rfl | simp only [h1, h2, h3, cond_true, cond_false]), (by simp only [h1, h2, h3, cond_true, cond_false])⟩)
        · have h4 : (bt) = true := nB_n.mp (cn_eq.mp h4)
          exact absurd (Eq.trans (Eq.symm (h3)) h4) (by decide)
      · have h3 : (bt) = true := nB_n.mp (cn_eq.mp h3)
        refine z_rcs hc hH 2 (pc' := 42) (lv' := [(3, .ref (18 + 8 * t)), (0, .ref 0), (1, .int (nI k)), (2, .int (nB bt))]) (st' := [.ref (18 + 8 * t), .ref 0]) (μ' := pS μ t k (-1)) (by rfl) ?_
        refine zq_call hc (by rfl) (hmb d' (by omega)) (by decide +kernel) (fun r9 μ9 hq => ?_)
        obtain ⟨hμ9, rfl⟩ := hq
        rw [hμ9]
        clear hμ9 μ9
        show Z 0 45 [(3, .ref (18 + 8 * t)), (0, .ref 0), (1, .int (nI k)), (2, .int (nB bt))] [.int (nB mb)] (pS μ t k (-1))
        refine zq_if hc hH (by rfl) (tg := 59) (by rfl) (fun h5 => ?_) (fun h5 => ?_)
        · have h5 : (mb) = true := nB_n.mp (cm_ne.mp h5)
          refine z_rcs hc hH 1 (pc' := 60) (lv' := [(3, .ref (18 + 8 * t)), (0, .ref 0), (1, .int (nI k)), (2, .int (nB bt))]) (st' := [.int (nB bt)]) (μ' := pS μ t k (-1)) (by rfl) ?_
          refine zq_if hc hH (by rfl) (tg := 86) (by rfl) (fun h6 => ?_) (fun h6 => ?_)
          · have h6 : (bt) = false := nB_z.mp (cm_eq9.mp h6)
            exact absurd (Eq.trans (Eq.symm (h3)) h6) (by decide)
          · have h6 : (bt) = true := nB_n.mp (cn_eq.mp h6)
            refine z_rcs hc hH 2 (pc' := 65) (lv' := [(3, .ref (18 + 8 * t)), (0, .ref 0), (1, .int (nI k)), (2, .int (nB bt))]) (st' := [.ref (18 + 8 * t), .ref (18 + 8 * t)]) (μ' := pS μ t k (-1)) (by rfl) ?_
            refine zq_gfi hc hH (by rfl) (ci := 1) (f := 2) (by rfl) (sj (P := fun i => okf 79 1 2 (18 + 8 * i)) ht4 (by decide +kernel)) (by rfl) ?_
            rw [pS_g (by omega)]
            have hJ7 : Z 0 83 [(3, .ref (18 + 8 * t)), (0, .ref 0), (1, .int (nI k)), (2, .int (nB bt))] [.int (bif decide ((μ.1 (18 + 8 * t) 2) = 0) then bif decide ((μ.1 0 17) = 0) then (2 : Int32) else 1 else 1), .ref (18 + 8 * t)] (pS μ t k (-1)) := by
              refine zq_pfi hc hH (by rfl) (ci := 1) (f := 5) (by rfl) (sj (P := fun i => okf 79 1 5 (18 + 8 * i)) ht4 (by decide +kernel)) (by rfl) ?_
              show Z 0 86 [(3, .ref (18 + 8 * t)), (0, .ref 0), (1, .int (nI k)), (2, .int (nB bt))] [] (z_ui (pS μ t k (-1)) (18 + 8 * t) 5 (bif decide ((μ.1 (18 + 8 * t) 2) = 0) then bif decide ((μ.1 0 17) = 0) then (2 : Int32) else 1 else 1))
              refine z_rcs hc hH 2 (pc' := 88) (lv' := [(3, .ref (18 + 8 * t)), (0, .ref 0), (1, .int (nI k)), (2, .int (nB bt))]) (st' := [.int (nB bt), .ref (18 + 8 * t)]) (μ' := z_ui (pS μ t k (-1)) (18 + 8 * t) 5 (bif decide ((μ.1 (18 + 8 * t) 2) = 0) then bif decide ((μ.1 0 17) = 0) then (2 : Int32) else 1 else 1)) (by rfl) ?_
              refine zq_pfb hc hH (by rfl) (ci := 1) (f := 6) (by rfl) (sj (P := fun i => okf 79 1 6 (18 + 8 * i)) ht4 (by decide +kernel)) (by rfl) ((fun b : Bool => (by cases b <;> rfl : z_b01 (nB b) = true)) bt) ?_
              show Z 0 91 [(3, .ref (18 + 8 * t)), (0, .ref 0), (1, .int (nI k)), (2, .int (nB bt))] [] (z_ui (z_ui (pS μ t k (-1)) (18 + 8 * t) 5 (bif decide ((μ.1 (18 + 8 * t) 2) = 0) then bif decide ((μ.1 0 17) = 0) then (2 : Int32) else 1 else 1)) (18 + 8 * t) 6 (nB bt))
              refine z_rcs hc hH 2 (pc' := 93) (lv' := [(3, .ref (18 + 8 * t)), (0, .ref 0), (1, .int (nI k)), (2, .int (nB bt))]) (st' := [.int (nB bt), .ref (18 + 8 * t)]) (μ' := z_ui (z_ui (pS μ t k (-1)) (18 + 8 * t) 5 (bif decide ((μ.1 (18 + 8 * t) 2) = 0) then bif decide ((μ.1 0 17) = 0) then (2 : Int32) else 1 else 1)) (18 + 8 * t) 6 (nB bt)) (by rfl) ?_
              refine zq_pfb hc hH (by rfl) (ci := 1) (f := 7) (by rfl) (sj (P := fun i => okf 79 1 7 (18 + 8 * i)) ht4 (by decide +kernel)) (by rfl) ((fun b : Bool => (by cases b <;> rfl : z_b01 (nB b) = true)) bt) ?_
              show Z 0 96 [(3, .ref (18 + 8 * t)), (0, .ref 0), (1, .int (nI k)), (2, .int (nB bt))] [] (z_ui (z_ui (z_ui (pS μ t k (-1)) (18 + 8 * t) 5 (bif decide ((μ.1 (18 + 8 * t) 2) = 0) then bif decide ((μ.1 0 17) = 0) then (2 : Int32) else 1 else 1)) (18 + 8 * t) 6 (nB bt)) (18 + 8 * t) 7 (nB bt))
              refine z_rcs hc hH 2 (pc' := 98) (lv' := [(3, .ref (18 + 8 * t)), (0, .ref 0), (1, .int (nI k)), (2, .int (nB bt))]) (st' := [.int (nI k), .ref (18 + 8 * t)]) (μ' := z_ui (z_ui (z_ui (pS μ t k (-1)) (18 + 8 * t) 5 (bif decide ((μ.1 (18 + 8 * t) 2) = 0) then bif decide ((μ.1 0 17) = 0) then (2 : Int32) else 1 else 1)) (18 + 8 * t) 6 (nB bt)) (18 + 8 * t) 7 (nB bt)) (by rfl) ?_
              refine zq_call hc (z_clv (by rfl) (by rfl) (by rfl) (by rfl) (by rfl) (by rfl) (sj (P := fun i => okr 79 1 (18 + 8 * i)) ht4 (by decide +kernel)) (by rfl) (by rfl)) (gc_throwTile d' (by omega) (z_ui (z_ui (z_ui (pS μ t k (-1)) (18 + 8 * t) 5 (bif decide ((μ.1 (18 + 8 * t) 2) = 0) then bif decide ((μ.1 0 17) = 0) then (2 : Int32) else 1 else 1)) (18 + 8 * t) 6 (nB bt)) (18 + 8 * t) 7 (nB bt)) t ht4 k q hk hq (by rw [ui_k (by omega), ui_k (by omega), ui_k (by omega), pS_g (by omega)]; exact e2)) (by decide +kernel) (fun r9 μ9 hq => ?_)
              obtain ⟨rfl, rfl⟩ := hq
              show Z 0 101 [(3, .ref (18 + 8 * t)), (0, .ref 0), (1, .int (nI k)), (2, .int (nB bt))] [] (tT (z_ui (z_ui (z_ui (pS μ t k (-1)) (18 + 8 * t) 5 (bif decide ((μ.1 (18 + 8 * t) 2) = 0) then bif decide ((μ.1 0 17) = 0) then (2 : Int32) else 1 else 1)) (18 + 8 * t) 6 (nB bt)) (18 + 8 * t) 7 (nB bt)) t k q)
              refine z_rcs hc hH 2 (pc' := 103) (lv' := [(3, .ref (18 + 8 * t)), (0, .ref 0), (1, .int (nI k)), (2, .int (nB bt))]) (st' := [.int (nI k), .ref 0]) (μ' := tT (z_ui (z_ui (z_ui (pS μ t k (-1)) (18 + 8 * t) 5 (bif decide ((μ.1 (18 + 8 * t) 2) = 0) then bif decide ((μ.1 0 17) = 0) then (2 : Int32) else 1 else 1)) (18 + 8 * t) 6 (nB bt)) (18 + 8 * t) 7 (nB bt)) t k q) (by rfl) ?_
              refine zq_pfi hc hH (by rfl) (ci := 5) (f := 15) (by rfl) (by decide +kernel) (by rfl) ?_
              show Z 0 106 [(3, .ref (18 + 8 * t)), (0, .ref 0), (1, .int (nI k)), (2, .int (nB bt))] [] (z_ui (tT (z_ui (z_ui (z_ui (pS μ t k (-1)) (18 + 8 * t) 5 (bif decide ((μ.1 (18 + 8 * t) 2) = 0) then bif decide ((μ.1 0 17) = 0) then (2 : Int32) else 1 else 1)) (18 + 8 * t) 6 (nB bt)) (18 + 8 * t) 7 (nB bt)) t k q) 0 15 (nI k))
              refine z_rcs hc hH 2 (pc' := 108) (lv' := [(3, .ref (18 + 8 * t)), (0, .ref 0), (1, .int (nI k)), (2, .int (nB bt))]) (st' := [.long 0, .ref 0]) (μ' := z_ui (tT (z_ui (z_ui (z_ui (pS μ t k (-1)) (18 + 8 * t) 5 (bif decide ((μ.1 (18 + 8 * t) 2) = 0) then bif decide ((μ.1 0 17) = 0) then (2 : Int32) else 1 else 1)) (18 + 8 * t) 6 (nB bt)) (18 + 8 * t) 7 (nB bt)) t k q) 0 15 (nI k)) (by rfl) ?_
              refine zq_pfl hc hH (by rfl) (ci := 5) (f := 18) (by rfl) (by decide +kernel) (by rfl) ?_
              show Z 0 111 [(3, .ref (18 + 8 * t)), (0, .ref 0), (1, .int (nI k)), (2, .int (nB bt))] [] (z_uj (z_ui (tT (z_ui (z_ui (z_ui (pS μ t k (-1)) (18 + 8 * t) 5 (bif decide ((μ.1 (18 + 8 * t) 2) = 0) then bif decide ((μ.1 0 17) = 0) then (2 : Int32) else 1 else 1)) (18 + 8 * t) 6 (nB bt)) (18 + 8 * t) 7 (nB bt)) t k q) 0 15 (nI k)) 0 18 0)
              refine z_rcs hc hH 2 (pc' := 113) (lv' := [(3, .ref (18 + 8 * t)), (0, .ref 0), (1, .int (nI k)), (2, .int (nB bt))]) (st' := [.int 2, .ref 0]) (μ' := z_uj (z_ui (tT (z_ui (z_ui (z_ui (pS μ t k (-1)) (18 + 8 * t) 5 (bif decide ((μ.1 (18 + 8 * t) 2) = 0) then bif decide ((μ.1 0 17) = 0) then (2 : Int32) else 1 else 1)) (18 + 8 * t) 6 (nB bt)) (18 + 8 * t) 7 (nB bt)) t k q) 0 15 (nI k)) 0 18 0) (by rfl) ?_
              refine zq_pfi hc hH (by rfl) (ci := 5) (f := 7) (by rfl) (by decide +kernel) (by rfl) ?_
              show Z 0 116 [(3, .ref (18 + 8 * t)), (0, .ref 0), (1, .int (nI k)), (2, .int (nB bt))] [] (z_ui (z_uj (z_ui (tT (z_ui (z_ui (z_ui (pS μ t k (-1)) (18 + 8 * t) 5 (bif decide ((μ.1 (18 + 8 * t) 2) = 0) then bif decide ((μ.1 0 17) = 0) then (2 : Int32) else 1 else 1)) (18 + 8 * t) 6 (nB bt)) (18 + 8 * t) 7 (nB bt)) t k q) 0 15 (nI k)) 0 18 0) 0 7 2)
              refine z_rcs hc hH 1 (pc' := 117) (lv' := [(3, .ref (18 + 8 * t)), (0, .ref 0), (1, .int (nI k)), (2, .int (nB bt))]) (st' := [.int 1]) (μ' := z_ui (z_uj (z_ui (tT (z_ui (z_ui (z_ui (pS μ t k (-1)) (18 + 8 * t) 5 (bif decide ((μ.1 (18 + 8 * t) 2) = 0) then bif decide ((μ.1 0 17) = 0) then (2 : Int32) else 1 else 1)) (18 + 8 * t) 6 (nB bt)) (18 + 8 * t) 7 (nB bt)) t k q) 0 15 (nI k)) 0 18 0) 0 7 2) (by rfl) ?_
              exact hr 0 117 _ _ _ (some (.int 1)) (by decide +kernel) (by rfl) (⟨(by first | rfl | simp only [h1, h2, h3, h5, cond_true, cond_false]), (by simp only [h1, h2, h3, h5, cond_true, cond_false])⟩)
            refine zq_if hc hH (by rfl) (tg := 82) (by rfl) (fun h8 => ?_) (fun h8 => ?_)
            · have h8 : (decide ((μ.1 (18 + 8 * t) 2) = 0)) = false := decide_eq_false (cm_ne.mp h8)
              refine z_rcs hc hH 1 (pc' := 83) (lv' := [(3, .ref (18 + 8 * t)), (0, .ref 0), (1, .int (nI k)), (2, .int (nB bt))]) (st' := [.int 1, .ref (18 + 8 * t)]) (μ' := pS μ t k (-1)) (by rfl) ?_
              exact zJ hJ7 rfl (by first | rfl | simp only [h8, lb_f, Int64.or_zero, Int32.add_zero, nB_t, nB_f, Bool.not_true, Bool.not_false, Bool.and_true, Bool.true_and, Bool.false_and, Bool.and_false, Bool.or_true, Bool.true_or, Bool.false_or, Bool.or_false, cond_true, cond_false]) rfl
            · have h8 : (decide ((μ.1 (18 + 8 * t) 2) = 0)) = true := decide_eq_true (cn_ne.mp h8)
              refine z_rcs hc hH 1 (pc' := 72) (lv' := [(3, .ref (18 + 8 * t)), (0, .ref 0), (1, .int (nI k)), (2, .int (nB bt))]) (st' := [.ref 0, .ref (18 + 8 * t)]) (μ' := pS μ t k (-1)) (by rfl) ?_
              refine zq_gfi hc hH (by rfl) (ci := 5) (f := 17) (by rfl) (by decide +kernel) (by rfl) ?_
              rw [pS_g (by omega)]
              refine zq_if hc hH (by rfl) (tg := 82) (by rfl) (fun h9 => ?_) (fun h9 => ?_)
              · have h9 : (decide ((μ.1 0 17) = 0)) = false := decide_eq_false (cm_ne.mp h9)
                refine z_rcs hc hH 1 (pc' := 83) (lv' := [(3, .ref (18 + 8 * t)), (0, .ref 0), (1, .int (nI k)), (2, .int (nB bt))]) (st' := [.int 1, .ref (18 + 8 * t)]) (μ' := pS μ t k (-1)) (by rfl) ?_
                exact zJ hJ7 rfl (by first | rfl | simp only [h8, h9, lb_f, Int64.or_zero, Int32.add_zero, nB_t, nB_f, Bool.not_true, Bool.not_false, Bool.and_true, Bool.true_and, Bool.false_and, Bool.and_false, Bool.or_true, Bool.true_or, Bool.false_or, Bool.or_false, cond_true, cond_false]) rfl
              · have h9 : (decide ((μ.1 0 17) = 0)) = true := decide_eq_true (cn_ne.mp h9)
                refine z_rcs hc hH 2 (pc' := 83) (lv' := [(3, .ref (18 + 8 * t)), (0, .ref 0), (1, .int (nI k)), (2, .int (nB bt))]) (st' := [.int 2, .ref (18 + 8 * t)]) (μ' := pS μ t k (-1)) (by rfl) ?_
                exact zJ hJ7 rfl (by first | rfl | simp only [h8, h9, lb_f, Int64.or_zero, Int32.add_zero, nB_t, nB_f, Bool.not_true, Bool.not_false, Bool.and_true, Bool.true_and, Bool.false_and, Bool.and_false, Bool.or_true, Bool.true_or, Bool.false_or, Bool.or_false, cond_true, cond_false]) rfl
        · have h5 : (mb) = false := nB_z.mp (cn_ne.mp h5)
          refine z_rcs hc hH 1 (pc' := 49) (lv' := [(3, .ref (18 + 8 * t)), (0, .ref 0), (1, .int (nI k)), (2, .int (nB bt))]) (st' := [.ref (18 + 8 * t)]) (μ' := pS μ t k (-1)) (by rfl) ?_
          refine zq_gfr hc hH (by rfl) (ci := 1) (f := 0) (q := 19 + 8 * t) (by rfl) (sj (P := fun i => okf 79 1 0 (18 + 8 * i)) ht4 (by decide +kernel)) (by rfl) (sj (P := fun i => Nat.beq (z_gr (18 + 8 * i) 0) (19 + 8 * i)) ht4 (by decide +kernel)) ?_
          refine z_rcs hc hH 2 (pc' := 54) (lv' := [(3, .ref (18 + 8 * t)), (0, .ref 0), (1, .int (nI k)), (2, .int (nB bt))]) (st' := [.int 1, .int (nI k), .ref (19 + 8 * t)]) (μ' := pS μ t k (-1)) (by rfl) ?_
          refine zq_call hc (z_clv (by rfl) (by rfl) (by rfl) (by rfl) (by rfl) (by rfl) (sj (P := fun i => okr 79 2 (19 + 8 * i)) ht4 (by decide +kernel)) (by rfl) (by rfl)) (gc_put d' (by omega) (pS μ t k (-1)) t ht4 k hk 1) (by decide +kernel) (fun r9 μ9 hq => ?_)
          obtain ⟨rfl, rfl⟩ := hq
          show Z 0 57 [(3, .ref (18 + 8 * t)), (0, .ref 0), (1, .int (nI k)), (2, .int (nB bt))] [] (pS (pS μ t k (-1)) t k 1)
          refine z_rcs hc hH 1 (pc' := 58) (lv' := [(3, .ref (18 + 8 * t)), (0, .ref 0), (1, .int (nI k)), (2, .int (nB bt))]) (st' := [.int 0]) (μ' := pS (pS μ t k (-1)) t k 1) (by rfl) ?_
          exact hr 0 58 _ _ _ (some (.int 0)) (by decide +kernel) (by rfl) (⟨(by first | rfl | simp only [h1, h2, h3, h5, cond_true, cond_false]), (by simp only [h1, h2, h3, h5, cond_true, cond_false])⟩)
    · have h2 : (mt) = false := nB_z.mp (cn_ne.mp h2)
      refine z_rcs hc hH 1 (pc' := 17) (lv' := [(0, .ref 0), (1, .int (nI k)), (2, .int (nB bt))]) (st' := [.int 0]) (μ' := μ) (by rfl) ?_
      exact hr 0 17 _ _ _ (some (.int 0)) (by decide +kernel) (by rfl) (⟨(by first | rfl | simp only [h1, h2, cond_true, cond_false]), (by simp only [h1, h2, cond_true, cond_false])⟩)
theorem gc_hide (d : Nat) (hd : 7 ≤ d) (μ : zM) (t : Nat) (ht4 : t < 4) (ht : μ.1 0 8 = nI t) (k q : Nat) (hk : k < 34) (ham : k + zl 3 ≤ 33) (hq3 : q ≤ 3) (e4 : μ.1 (19 + 8 * t) 4 = nI q) (n k2 : Nat) (hn2 : n < 14) (hn : μ.1 2 3 = nI n) (hS1 : μ.1 2 1 = 1) (hk2 : k2 < 34) (hkk : μ.1 3 (122 + n) = nI k2) (mm : Bool) (hmm : ∀ d, 3 ≤ d → z_C d mi_X6_mayMakeFour [.ref 0] μ (zR μ (.int (nB mm)))) : z_C d mi_X6_hide [.ref 0, .int (nI k)] μ (fun r μ' => r = some ((bif mm then (bif decide (4 ≤ (fr μ (20 + 8 * t) (nI k))) then .int 1 else .int 0) else .int 0)) ∧ μ' = (bif mm then (bif decide (4 ≤ (fr μ (20 + 8 * t) (nI k))) then dT1 (bkH (ldS μ t 3 k q) ) t n k2 else μ) else μ)) := by
  refine z_C_in (by decide) (by omega) (fun d' Z ed hc hr => ?_)
  have hH : zH mi_X6_hide zc_X6_hide 79 6 2 := ⟨by rfl, by rfl, by rfl, by rfl⟩
  refine z_rcs hc hH 1 (pc' := 1) (lv' := [(0, .ref 0), (1, .int (nI k))]) (st' := [.ref 0]) (μ' := μ) (by rfl) ?_
  refine zq_call hc (by rfl) (hmm d' (by omega)) (by decide +kernel) (fun r9 μ9 hq => ?_)
  obtain ⟨hμ9, rfl⟩ := hq
  rw [hμ9]
  clear hμ9 μ9
  show Z 0 4 [(0, .ref 0), (1, .int (nI k))] [.int (nB mm)] μ
  refine zq_if hc hH (by rfl) (tg := 26) (by rfl) (fun h1 => ?_) (fun h1 => ?_)
  · have h1 : (mm) = false := nB_z.mp (cm_eq9.mp h1)
    refine z_rcs hc hH 1 (pc' := 27) (lv' := [(0, .ref 0), (1, .int (nI k))]) (st' := [.int 0]) (μ' := μ) (by rfl) ?_
    exact hr 0 27 _ _ _ (some (.int 0)) (by decide +kernel) (by rfl) (⟨(by first | rfl | simp only [h1, cond_true, cond_false]), (by simp only [h1, cond_true, cond_false])⟩)
  · have h1 : (mm) = true := nB_n.mp (cn_eq.mp h1)
    refine z_rcs hc hH 2 (pc' := 9) (lv' := [(0, .ref 0), (1, .int (nI k))]) (st' := [.ref 0, .ref 0]) (μ' := μ) (by rfl) ?_
    refine zq_gfi hc hH (by rfl) (ci := 5) (f := 8) (by rfl) (by decide +kernel) (by rfl) ?_
    rw [ht]
    refine zq_call hc (by rfl) (gc_at4 d' (by omega) μ t ht4) (by decide +kernel) (fun r9 μ9 hq => ?_)
    obtain ⟨hμ9, rfl⟩ := hq
    rw [hμ9]
    clear hμ9 μ9
    show Z 0 15 [(0, .ref 0), (1, .int (nI k))] [.ref (18 + 8 * t)] μ
    refine zq_gfr hc hH (by rfl) (ci := 1) (f := 0) (q := 19 + 8 * t) (by rfl) (sj (P := fun i => okf 79 1 0 (18 + 8 * i)) ht4 (by decide +kernel)) (by rfl) (sj (P := fun i => Nat.beq (z_gr (18 + 8 * i) 0) (19 + 8 * i)) ht4 (by decide +kernel)) ?_
    refine z_rcs hc hH 1 (pc' := 19) (lv' := [(0, .ref 0), (1, .int (nI k))]) (st' := [.int (nI k), .ref (19 + 8 * t)]) (μ' := μ) (by rfl) ?_
    refine zq_call hc (z_clv (by rfl) (by rfl) (by rfl) (by rfl) (by rfl) (by rfl) (sj (P := fun i => okr 79 2 (19 + 8 * i)) ht4 (by decide +kernel)) (by rfl) (by rfl)) (gc_free d' (by omega) μ t ht4 (nI k)) (by decide +kernel) (fun r9 μ9 hq => ?_)
    obtain ⟨hμ9, rfl⟩ := hq
    rw [hμ9]
    clear hμ9 μ9
    show Z 0 22 [(0, .ref 0), (1, .int (nI k))] [.int (fr μ (20 + 8 * t) (nI k))] μ
    refine z_rcs hc hH 1 (pc' := 23) (lv' := [(0, .ref 0), (1, .int (nI k))]) (st' := [.int 4, .int (fr μ (20 + 8 * t) (nI k))]) (μ' := μ) (by rfl) ?_
    refine zq_ic hc hH (by rfl) (tg := 28) (by rfl) (fun h2 => ?_) (fun h2 => ?_)
    · have h2 : (decide (4 ≤ (fr μ (20 + 8 * t) (nI k)))) = true := decide_eq_true (cm_ge.mp h2)
      refine z_rcs hc hH 2 (pc' := 30) (lv' := [(0, .ref 0), (1, .int (nI k))]) (st' := [.ref 0, .ref 0]) (μ' := μ) (by rfl) ?_
      refine zq_gfi hc hH (by rfl) (ci := 5) (f := 8) (by rfl) (by decide +kernel) (by rfl) ?_
      rw [ht]
      refine zq_call hc (by rfl) (gc_at4 d' (by omega) μ t ht4) (by decide +kernel) (fun r9 μ9 hq => ?_)
      obtain ⟨hμ9, rfl⟩ := hq
      rw [hμ9]
      clear hμ9 μ9
      show Z 0 36 [(0, .ref 0), (1, .int (nI k))] [.ref (18 + 8 * t)] μ
      refine zq_gfr hc hH (by rfl) (ci := 1) (f := 0) (q := 19 + 8 * t) (by rfl) (sj (P := fun i => okf 79 1 0 (18 + 8 * i)) ht4 (by decide +kernel)) (by rfl) (sj (P := fun i => Nat.beq (z_gr (18 + 8 * i) 0) (19 + 8 * i)) ht4 (by decide +kernel)) ?_
      refine z_rcs hc hH 2 (pc' := 41) (lv' := [(0, .ref 0), (1, .int (nI k))]) (st' := [.int (nI k), .int 3, .ref (19 + 8 * t)]) (μ' := μ) (by rfl) ?_
      refine zq_call hc (z_clv (by rfl) (by rfl) (by rfl) (by rfl) (by rfl) (by rfl) (sj (P := fun i => okr 79 2 (19 + 8 * i)) ht4 (by decide +kernel)) (by rfl) (by rfl)) (gc_layE d' (by omega) μ t ht4 3 k q ham hq3 e4) (by decide +kernel) (fun r9 μ9 hq => ?_)
      obtain ⟨rfl, rfl⟩ := hq
      show Z 0 44 [(0, .ref 0), (1, .int (nI k))] [] (ldS μ t 3 k q)
      refine z_rcs hc hH 2 (pc' := 46) (lv' := [(0, .ref 0), (1, .int (nI k))]) (st' := [.ref 0, .ref 0]) (μ' := ldS μ t 3 k q) (by rfl) ?_
      refine zq_gfi hc hH (by rfl) (ci := 5) (f := 8) (by rfl) (by decide +kernel) (by rfl) ?_
      rw [ldS_o (by omega)]
      rw [ht]
      refine zq_call hc (by rfl) (gc_makeFour d' (by omega) (ldS μ t 3 k q) t t n k2 (by omega) ht4 (Nat.mod_eq_of_lt ht4) hn2 (by rw [ldS_o (by omega)]; exact hn) (by rw [ldS_o (by omega)]; exact hS1) hk2 (by rw [ldS_o (by omega)]; exact hkk)) (by decide +kernel) (fun r9 μ9 hq => ?_)
      obtain ⟨rfl, rfl⟩ := hq
      show Z 0 52 [(0, .ref 0), (1, .int (nI k))] [] (dT1 (bkH (ldS μ t 3 k q) ) t n k2)
      refine z_rcs hc hH 1 (pc' := 53) (lv' := [(0, .ref 0), (1, .int (nI k))]) (st' := [.int 1]) (μ' := dT1 (bkH (ldS μ t 3 k q) ) t n k2) (by rfl) ?_
      exact hr 0 53 _ _ _ (some (.int 1)) (by decide +kernel) (by rfl) (⟨(by first | rfl | simp only [h1, h2, cond_true, cond_false]), (by simp only [h1, h2, cond_true, cond_false])⟩)
    · have h2 : (decide (4 ≤ (fr μ (20 + 8 * t) (nI k)))) = false := decide_eq_false (cn_ge.mp h2)
      refine z_rcs hc hH 1 (pc' := 27) (lv' := [(0, .ref 0), (1, .int (nI k))]) (st' := [.int 0]) (μ' := μ) (by rfl) ?_
      exact hr 0 27 _ _ _ (some (.int 0)) (by decide +kernel) (by rfl) (⟨(by first | rfl | simp only [h1, h2, cond_true, cond_false]), (by simp only [h1, h2, cond_true, cond_false])⟩)
theorem tkS_o {μ : zM} {s a q t c u1 u2 u3 r k : Nat} {so : Int32} {c1 c2 c3 : Bool} (h : r = 2 ∨ r = 3) : (tkS μ s a q so t c u1 u2 u3 c1 c2 c3).1 r k = μ.1 r k := by
  unfold tkS
  rw [ui_o (by omega), ui_o (by omega), ui_o (by omega), ldS_o (by omega), pS_g (by omega), bkH_r (by omega), lT_r (by omega)]
theorem gc_four (d : Nat) (hd : 11 ≤ d) (μ : zM) (s q : Nat) (hs4 : s < 4) (hq3 : q ≤ 3) (e4 : μ.1 (19 + 8 * s) 4 = nI q)  (n k2 : Nat) (hn2 : n < 14) (hn : μ.1 2 3 = nI n) (hS1 : μ.1 2 1 = 1) (hk2 : k2 < 34) (hkk : μ.1 3 (122 + n) = nI k2) (t c u1 u2 u3 : Nat) (c1 c2 c3 : Bool) (ht4 : t < 4) (ht : μ.1 0 8 = nI t) (hc34 : c < 34) (hc15 : μ.1 0 15 = nI c) (hu1 : (t + 1) % 4 = u1) (hu14 : u1 < 4) (hw1 : ∀ μ1, TE μ μ1 → ∀ d, 6 ≤ d → z_C d mi_X3_waitsFor [.ref (19 + 8 * u1), .int (nI c)] μ1 (zR μ1 (.int (nB c1)))) (hu2 : (t + 2) % 4 = u2) (hu24 : u2 < 4) (hw2 : ∀ μ1, TE μ μ1 → ∀ d, 6 ≤ d → z_C d mi_X3_waitsFor [.ref (19 + 8 * u2), .int (nI c)] μ1 (zR μ1 (.int (nB c2)))) (hu3 : (t + 3) % 4 = u3) (hu34 : u3 < 4) (hw3 : ∀ μ1, TE μ μ1 → ∀ d, 6 ≤ d → z_C d mi_X3_waitsFor [.ref (19 + 8 * u3), .int (nI c)] μ1 (zR μ1 (.int (nB c3)))) (ham : c + zl 2 ≤ 33) (mc : Bool) (hmc : ∀ d, 3 ≤ d → z_C d mi_X6_mayClaimSet [.ref 0, .int (nI s)] μ (zR μ (.int (nB mc)))) : z_C d mi_X6_four [.ref 0, .int (nI s)] μ (fun r μ' => r = some ((bif mc then (bif decide ((fr μ (20 + 8 * s) (nI c)) < 3) then .int 0 else (bif decide ((μ.1 2 3) < 4) then .int 1 else .int 0)) else .int 0)) ∧ μ' = (bif mc then (bif decide ((fr μ (20 + 8 * s) (nI c)) < 3) then μ else (bif decide ((μ.1 2 3) < 4) then dT1 (bkH (tkS μ s c q 2 t c u1 u2 u3 c1 c2 c3) ) s n k2 else μ)) else μ)) := by
  refine z_C_in (by decide) (by omega) (fun d' Z ed hc hr => ?_)
  have hH : zH mi_X6_four zc_X6_four 79 6 2 := ⟨by rfl, by rfl, by rfl, by rfl⟩
  refine z_rcs hc hH 2 (pc' := 2) (lv' := [(0, .ref 0), (1, .int (nI s))]) (st' := [.int (nI s), .ref 0]) (μ' := μ) (by rfl) ?_
  refine zq_call hc (by rfl) (hmc d' (by omega)) (by decide +kernel) (fun r9 μ9 hq => ?_)
  obtain ⟨hμ9, rfl⟩ := hq
  rw [hμ9]
  clear hμ9 μ9
  show Z 0 5 [(0, .ref 0), (1, .int (nI s))] [.int (nB mc)] μ
  refine zq_if hc hH (by rfl) (tg := 38) (by rfl) (fun h1 => ?_) (fun h1 => ?_)
  · have h1 : (mc) = false := nB_z.mp (cm_eq9.mp h1)
    refine z_rcs hc hH 1 (pc' := 39) (lv' := [(0, .ref 0), (1, .int (nI s))]) (st' := [.int 0]) (μ' := μ) (by rfl) ?_
    exact hr 0 39 _ _ _ (some (.int 0)) (by decide +kernel) (by rfl) (⟨(by first | rfl | simp only [h1, cond_true, cond_false]), (by simp only [h1, cond_true, cond_false])⟩)
  · have h1 : (mc) = true := nB_n.mp (cn_eq.mp h1)
    refine z_rcs hc hH 2 (pc' := 10) (lv' := [(0, .ref 0), (1, .int (nI s))]) (st' := [.int (nI s), .ref 0]) (μ' := μ) (by rfl) ?_
    refine zq_call hc (by rfl) (gc_at4 d' (by omega) μ s hs4) (by decide +kernel) (fun r9 μ9 hq => ?_)
    obtain ⟨hμ9, rfl⟩ := hq
    rw [hμ9]
    clear hμ9 μ9
    show Z 0 13 [(0, .ref 0), (1, .int (nI s))] [.ref (18 + 8 * s)] μ
    refine zq_gfr hc hH (by rfl) (ci := 1) (f := 0) (q := 19 + 8 * s) (by rfl) (sj (P := fun i => okf 79 1 0 (18 + 8 * i)) hs4 (by decide +kernel)) (by rfl) (sj (P := fun i => Nat.beq (z_gr (18 + 8 * i) 0) (19 + 8 * i)) hs4 (by decide +kernel)) ?_
    refine z_rcs hc hH 1 (pc' := 17) (lv' := [(0, .ref 0), (1, .int (nI s))]) (st' := [.ref 0, .ref (19 + 8 * s)]) (μ' := μ) (by rfl) ?_
    refine zq_gfi hc hH (by rfl) (ci := 5) (f := 15) (by rfl) (by decide +kernel) (by rfl) ?_
    rw [hc15]
    refine zq_call hc (z_clv (by rfl) (by rfl) (by rfl) (by rfl) (by rfl) (by rfl) (sj (P := fun i => okr 79 2 (19 + 8 * i)) hs4 (by decide +kernel)) (by rfl) (by rfl)) (gc_free d' (by omega) μ s hs4 (nI c)) (by decide +kernel) (fun r9 μ9 hq => ?_)
    obtain ⟨hμ9, rfl⟩ := hq
    rw [hμ9]
    clear hμ9 μ9
    show Z 0 23 [(0, .ref 0), (1, .int (nI s))] [.int (fr μ (20 + 8 * s) (nI c))] μ
    refine z_rcs hc hH 1 (pc' := 24) (lv' := [(0, .ref 0), (1, .int (nI s))]) (st' := [.int 3, .int (fr μ (20 + 8 * s) (nI c))]) (μ' := μ) (by rfl) ?_
    refine zq_ic hc hH (by rfl) (tg := 38) (by rfl) (fun h2 => ?_) (fun h2 => ?_)
    · have h2 : (decide ((fr μ (20 + 8 * s) (nI c)) < 3)) = true := decide_eq_true (cm_lt.mp h2)
      refine z_rcs hc hH 1 (pc' := 39) (lv' := [(0, .ref 0), (1, .int (nI s))]) (st' := [.int 0]) (μ' := μ) (by rfl) ?_
      exact hr 0 39 _ _ _ (some (.int 0)) (by decide +kernel) (by rfl) (⟨(by first | rfl | simp only [h1, h2, cond_true, cond_false]), (by simp only [h1, h2, cond_true, cond_false])⟩)
    · have h2 : (decide ((fr μ (20 + 8 * s) (nI c)) < 3)) = false := decide_eq_false (cn_lt.mp h2)
      refine z_rcs hc hH 1 (pc' := 28) (lv' := [(0, .ref 0), (1, .int (nI s))]) (st' := [.ref 0]) (μ' := μ) (by rfl) ?_
      refine zq_gfr hc hH (by rfl) (ci := 5) (f := 1) (q := 2) (by rfl) (by decide +kernel) (by rfl) (by decide +kernel) ?_
      refine zq_gfi hc hH (by rfl) (ci := 3) (f := 3) (by rfl) (by decide +kernel) (by rfl) ?_
      refine z_rcs hc hH 1 (pc' := 35) (lv' := [(0, .ref 0), (1, .int (nI s))]) (st' := [.int 4, .int (μ.1 2 3)]) (μ' := μ) (by rfl) ?_
      refine zq_ic hc hH (by rfl) (tg := 40) (by rfl) (fun h3 => ?_) (fun h3 => ?_)
      · have h3 : (decide ((μ.1 2 3) < 4)) = true := decide_eq_true (cm_lt.mp h3)
        refine z_rcs hc hH 4 (pc' := 44) (lv' := [(0, .ref 0), (1, .int (nI s))]) (st' := [.ref 0, .int 2, .int (nI s), .ref 0]) (μ' := μ) (by rfl) ?_
        refine zq_gfi hc hH (by rfl) (ci := 5) (f := 15) (by rfl) (by decide +kernel) (by rfl) ?_
        rw [hc15]
        refine zq_call hc (by rfl) (gc_takeSet d' (by omega) μ s c q 2 hs4 ham hq3 e4 t c u1 u2 u3 c1 c2 c3 ht4 ht hc34 hc15 hu1 hu14 hw1 hu2 hu24 hw2 hu3 hu34 hw3) (by decide +kernel) (fun r9 μ9 hq => ?_)
        obtain ⟨rfl, rfl⟩ := hq
        show Z 0 50 [(0, .ref 0), (1, .int (nI s))] [] (tkS μ s c q 2 t c u1 u2 u3 c1 c2 c3)
        refine z_rcs hc hH 2 (pc' := 52) (lv' := [(0, .ref 0), (1, .int (nI s))]) (st' := [.int (nI s), .ref 0]) (μ' := tkS μ s c q 2 t c u1 u2 u3 c1 c2 c3) (by rfl) ?_
        refine zq_call hc (by rfl) (gc_makeFour d' (by omega) (tkS μ s c q 2 t c u1 u2 u3 c1 c2 c3) s s n k2 (by omega) hs4 (Nat.mod_eq_of_lt hs4) hn2 (by rw [tkS_o (by omega)]; exact hn) (by rw [tkS_o (by omega)]; exact hS1) hk2 (by rw [tkS_o (by omega)]; exact hkk)) (by decide +kernel) (fun r9 μ9 hq => ?_)
        obtain ⟨rfl, rfl⟩ := hq
        show Z 0 55 [(0, .ref 0), (1, .int (nI s))] [] (dT1 (bkH (tkS μ s c q 2 t c u1 u2 u3 c1 c2 c3) ) s n k2)
        refine z_rcs hc hH 1 (pc' := 56) (lv' := [(0, .ref 0), (1, .int (nI s))]) (st' := [.int 1]) (μ' := dT1 (bkH (tkS μ s c q 2 t c u1 u2 u3 c1 c2 c3) ) s n k2) (by rfl) ?_
        exact hr 0 56 _ _ _ (some (.int 1)) (by decide +kernel) (by rfl) (⟨(by first | rfl | simp only [h1, h2, h3, cond_true, cond_false]), (by simp only [h1, h2, h3, cond_true, cond_false])⟩)
      · have h3 : (decide ((μ.1 2 3) < 4)) = false := decide_eq_false (cn_lt.mp h3)
        refine z_rcs hc hH 1 (pc' := 39) (lv' := [(0, .ref 0), (1, .int (nI s))]) (st' := [.int 0]) (μ' := μ) (by rfl) ?_
        exact hr 0 39 _ _ _ (some (.int 0)) (by decide +kernel) (by rfl) (⟨(by first | rfl | simp only [h1, h2, h3, cond_true, cond_false]), (by simp only [h1, h2, h3, cond_true, cond_false])⟩)
theorem gc_three (d : Nat) (hd : 11 ≤ d) (μ : zM) (s q : Nat) (hs4 : s < 4) (hq3 : q ≤ 3) (e4 : μ.1 (19 + 8 * s) 4 = nI q) (t c u1 u2 u3 : Nat) (c1 c2 c3 : Bool) (ht4 : t < 4) (ht : μ.1 0 8 = nI t) (hc34 : c < 34) (hc15 : μ.1 0 15 = nI c) (hu1 : (t + 1) % 4 = u1) (hu14 : u1 < 4) (hw1 : ∀ μ1, TE μ μ1 → ∀ d, 6 ≤ d → z_C d mi_X3_waitsFor [.ref (19 + 8 * u1), .int (nI c)] μ1 (zR μ1 (.int (nB c1)))) (hu2 : (t + 2) % 4 = u2) (hu24 : u2 < 4) (hw2 : ∀ μ1, TE μ μ1 → ∀ d, 6 ≤ d → z_C d mi_X3_waitsFor [.ref (19 + 8 * u2), .int (nI c)] μ1 (zR μ1 (.int (nB c2)))) (hu3 : (t + 3) % 4 = u3) (hu34 : u3 < 4) (hw3 : ∀ μ1, TE μ μ1 → ∀ d, 6 ≤ d → z_C d mi_X3_waitsFor [.ref (19 + 8 * u3), .int (nI c)] μ1 (zR μ1 (.int (nB c3)))) (ham : c + zl 1 ≤ 33) (mc : Bool) (hmc : ∀ d, 3 ≤ d → z_C d mi_X6_mayClaimSet [.ref 0, .int (nI s)] μ (zR μ (.int (nB mc)))) (ko : Bool) (hko : ∀ d, 3 ≤ d → z_C d mi_X6_keepsOther [.ref (19 + 8 * s), .long 0, .long (1 <<< ((nI c).toInt64 &&& 63))] μ (zR μ (.int (nB ko)))) : z_C d mi_X6_three [.ref 0, .int (nI s)] μ (fun r μ' => r = some ((bif mc then (bif decide (2 ≤ (fr μ (20 + 8 * s) (nI c))) then (bif ko then .int 1 else .int 0) else .int 0) else .int 0)) ∧ μ' = (bif mc then (bif decide (2 ≤ (fr μ (20 + 8 * s) (nI c))) then (bif ko then z_uj (tkS μ s c q 1 t c u1 u2 u3 c1 c2 c3) 0 18 (1 <<< ((nI c).toInt64 &&& 63)) else μ) else μ) else μ)) := by
  refine z_C_in (by decide) (by omega) (fun d' Z ed hc hr => ?_)
  have hH : zH mi_X6_three zc_X6_three 79 6 4 := ⟨by rfl, by rfl, by rfl, by rfl⟩
  refine z_rcs hc hH 2 (pc' := 2) (lv' := [(0, .ref 0), (1, .int (nI s))]) (st' := [.int (nI s), .ref 0]) (μ' := μ) (by rfl) ?_
  refine zq_call hc (by rfl) (hmc d' (by omega)) (by decide +kernel) (fun r9 μ9 hq => ?_)
  obtain ⟨hμ9, rfl⟩ := hq
  rw [hμ9]
  clear hμ9 μ9
  show Z 0 5 [(0, .ref 0), (1, .int (nI s))] [.int (nB mc)] μ
  refine zq_if hc hH (by rfl) (tg := 27) (by rfl) (fun h1 => ?_) (fun h1 => ?_)
  · have h1 : (mc) = false := nB_z.mp (cm_eq9.mp h1)
    refine z_rcs hc hH 1 (pc' := 28) (lv' := [(0, .ref 0), (1, .int (nI s))]) (st' := [.int 0]) (μ' := μ) (by rfl) ?_
    exact hr 0 28 _ _ _ (some (.int 0)) (by decide +kernel) (by rfl) (⟨(by first | rfl | simp only [h1, cond_true, cond_false]), (by simp only [h1, cond_true, cond_false])⟩)
  · have h1 : (mc) = true := nB_n.mp (cn_eq.mp h1)
    refine z_rcs hc hH 2 (pc' := 10) (lv' := [(0, .ref 0), (1, .int (nI s))]) (st' := [.int (nI s), .ref 0]) (μ' := μ) (by rfl) ?_
    refine zq_call hc (by rfl) (gc_at4 d' (by omega) μ s hs4) (by decide +kernel) (fun r9 μ9 hq => ?_)
    obtain ⟨hμ9, rfl⟩ := hq
    rw [hμ9]
    clear hμ9 μ9
    show Z 0 13 [(0, .ref 0), (1, .int (nI s))] [.ref (18 + 8 * s)] μ
    refine zq_gfr hc hH (by rfl) (ci := 1) (f := 0) (q := 19 + 8 * s) (by rfl) (sj (P := fun i => okf 79 1 0 (18 + 8 * i)) hs4 (by decide +kernel)) (by rfl) (sj (P := fun i => Nat.beq (z_gr (18 + 8 * i) 0) (19 + 8 * i)) hs4 (by decide +kernel)) ?_
    refine z_rcs hc hH 1 (pc' := 17) (lv' := [(0, .ref 0), (1, .int (nI s))]) (st' := [.ref 0, .ref (19 + 8 * s)]) (μ' := μ) (by rfl) ?_
    refine zq_gfi hc hH (by rfl) (ci := 5) (f := 15) (by rfl) (by decide +kernel) (by rfl) ?_
    rw [hc15]
    refine zq_call hc (z_clv (by rfl) (by rfl) (by rfl) (by rfl) (by rfl) (by rfl) (sj (P := fun i => okr 79 2 (19 + 8 * i)) hs4 (by decide +kernel)) (by rfl) (by rfl)) (gc_free d' (by omega) μ s hs4 (nI c)) (by decide +kernel) (fun r9 μ9 hq => ?_)
    obtain ⟨hμ9, rfl⟩ := hq
    rw [hμ9]
    clear hμ9 μ9
    show Z 0 23 [(0, .ref 0), (1, .int (nI s))] [.int (fr μ (20 + 8 * s) (nI c))] μ
    refine z_rcs hc hH 1 (pc' := 24) (lv' := [(0, .ref 0), (1, .int (nI s))]) (st' := [.int 2, .int (fr μ (20 + 8 * s) (nI c))]) (μ' := μ) (by rfl) ?_
    refine zq_ic hc hH (by rfl) (tg := 29) (by rfl) (fun h2 => ?_) (fun h2 => ?_)
    · have h2 : (decide (2 ≤ (fr μ (20 + 8 * s) (nI c)))) = true := decide_eq_true (cm_ge.mp h2)
      refine z_rcs hc hH 2 (pc' := 31) (lv' := [(0, .ref 0), (1, .int (nI s))]) (st' := [.ref 0, .long 1]) (μ' := μ) (by rfl) ?_
      refine zq_gfi hc hH (by rfl) (ci := 5) (f := 15) (by rfl) (by decide +kernel) (by rfl) ?_
      rw [hc15]
      refine z_rcs hc hH 4 (pc' := 38) (lv' := [(2, .long (1 <<< ((nI c).toInt64 &&& 63))), (0, .ref 0), (1, .int (nI s))]) (st' := [.int (nI s), .ref 0]) (μ' := μ) (by rfl) ?_
      refine zq_call hc (by rfl) (gc_at4 d' (by omega) μ s hs4) (by decide +kernel) (fun r9 μ9 hq => ?_)
      obtain ⟨hμ9, rfl⟩ := hq
      rw [hμ9]
      clear hμ9 μ9
      show Z 0 41 [(2, .long (1 <<< ((nI c).toInt64 &&& 63))), (0, .ref 0), (1, .int (nI s))] [.ref (18 + 8 * s)] μ
      refine zq_gfr hc hH (by rfl) (ci := 1) (f := 0) (q := 19 + 8 * s) (by rfl) (sj (P := fun i => okf 79 1 0 (18 + 8 * i)) hs4 (by decide +kernel)) (by rfl) (sj (P := fun i => Nat.beq (z_gr (18 + 8 * i) 0) (19 + 8 * i)) hs4 (by decide +kernel)) ?_
      refine z_rcs hc hH 2 (pc' := 46) (lv' := [(2, .long (1 <<< ((nI c).toInt64 &&& 63))), (0, .ref 0), (1, .int (nI s))]) (st' := [.long (1 <<< ((nI c).toInt64 &&& 63)), .long 0, .ref (19 + 8 * s)]) (μ' := μ) (by rfl) ?_
      refine zq_call hc (by rfl) (hko d' (by omega)) (by decide +kernel) (fun r9 μ9 hq => ?_)
      obtain ⟨hμ9, rfl⟩ := hq
      rw [hμ9]
      clear hμ9 μ9
      show Z 0 49 [(2, .long (1 <<< ((nI c).toInt64 &&& 63))), (0, .ref 0), (1, .int (nI s))] [.int (nB ko)] μ
      refine zq_if hc hH (by rfl) (tg := 54) (by rfl) (fun h3 => ?_) (fun h3 => ?_)
      · have h3 : (ko) = true := nB_n.mp (cm_ne.mp h3)
        refine z_rcs hc hH 4 (pc' := 58) (lv' := [(2, .long (1 <<< ((nI c).toInt64 &&& 63))), (0, .ref 0), (1, .int (nI s))]) (st' := [.ref 0, .int 1, .int (nI s), .ref 0]) (μ' := μ) (by rfl) ?_
        refine zq_gfi hc hH (by rfl) (ci := 5) (f := 15) (by rfl) (by decide +kernel) (by rfl) ?_
        rw [hc15]
        refine zq_call hc (by rfl) (gc_takeSet d' (by omega) μ s c q 1 hs4 ham hq3 e4 t c u1 u2 u3 c1 c2 c3 ht4 ht hc34 hc15 hu1 hu14 hw1 hu2 hu24 hw2 hu3 hu34 hw3) (by decide +kernel) (fun r9 μ9 hq => ?_)
        obtain ⟨rfl, rfl⟩ := hq
        show Z 0 64 [(2, .long (1 <<< ((nI c).toInt64 &&& 63))), (0, .ref 0), (1, .int (nI s))] [] (tkS μ s c q 1 t c u1 u2 u3 c1 c2 c3)
        refine z_rcs hc hH 2 (pc' := 66) (lv' := [(2, .long (1 <<< ((nI c).toInt64 &&& 63))), (0, .ref 0), (1, .int (nI s))]) (st' := [.long (1 <<< ((nI c).toInt64 &&& 63)), .ref 0]) (μ' := tkS μ s c q 1 t c u1 u2 u3 c1 c2 c3) (by rfl) ?_
        refine zq_pfl hc hH (by rfl) (ci := 5) (f := 18) (by rfl) (by decide +kernel) (by rfl) ?_
        show Z 0 69 [(2, .long (1 <<< ((nI c).toInt64 &&& 63))), (0, .ref 0), (1, .int (nI s))] [] (z_uj (tkS μ s c q 1 t c u1 u2 u3 c1 c2 c3) 0 18 (1 <<< ((nI c).toInt64 &&& 63)))
        refine z_rcs hc hH 1 (pc' := 70) (lv' := [(2, .long (1 <<< ((nI c).toInt64 &&& 63))), (0, .ref 0), (1, .int (nI s))]) (st' := [.int 1]) (μ' := z_uj (tkS μ s c q 1 t c u1 u2 u3 c1 c2 c3) 0 18 (1 <<< ((nI c).toInt64 &&& 63))) (by rfl) ?_
        exact hr 0 70 _ _ _ (some (.int 1)) (by decide +kernel) (by rfl) (⟨(by first | rfl | simp only [h1, h2, h3, cond_true, cond_false]), (by simp only [h1, h2, h3, cond_true, cond_false])⟩)
      · have h3 : (ko) = false := nB_z.mp (cn_ne.mp h3)
        refine z_rcs hc hH 1 (pc' := 53) (lv' := [(2, .long (1 <<< ((nI c).toInt64 &&& 63))), (0, .ref 0), (1, .int (nI s))]) (st' := [.int 0]) (μ' := μ) (by rfl) ?_
        exact hr 0 53 _ _ _ (some (.int 0)) (by decide +kernel) (by rfl) (⟨(by first | rfl | simp only [h1, h2, h3, cond_true, cond_false]), (by simp only [h1, h2, h3, cond_true, cond_false])⟩)
    · have h2 : (decide (2 ≤ (fr μ (20 + 8 * s) (nI c)))) = false := decide_eq_false (cn_ge.mp h2)
      refine z_rcs hc hH 1 (pc' := 28) (lv' := [(0, .ref 0), (1, .int (nI s))]) (st' := [.int 0]) (μ' := μ) (by rfl) ?_
      exact hr 0 28 _ _ _ (some (.int 0)) (by decide +kernel) (by rfl) (⟨(by first | rfl | simp only [h1, h2, cond_true, cond_false]), (by simp only [h1, h2, cond_true, cond_false])⟩)

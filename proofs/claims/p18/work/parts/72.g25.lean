/-! the game: nine, a hand without a winner, of the class -/
set_option maxRecDepth 8000
noncomputable def eHB (μ : zM) (ds ow bk : Bool) (dl e b : Nat) : zM := bif ds then eH1 μ ow bk dl e b else eH0 μ ow bk dl e b
theorem gc_endHandB (d : Nat) (hd : 3 ≤ d) (μ : zM) (ds ow : Bool) (dl e : Nat) (hdl : μ.1 0 9 = nI dl) (hdl4 : dl < 4) (he : (dl + 1) % 4 = e) : z_C d mi_X6_endHand [.ref 0, .int (nB ds), .int (nB ow)] μ (fun r μ' => r = none ∧ μ' = eHB μ ds ow (xBk μ) dl e (rcM μ)) := by
  cases ds
  · exact gc_endHand0 d hd μ ow _ dl e _ rfl hdl hdl4 he (rcB_lt _ _ _ _) rfl
  · exact gc_endHand1 d hd μ ow _ dl e _ rfl hdl hdl4 he (rcB_lt _ _ _ _) rfl
theorem TE_cat {μ μ1 : zM} (h : TE μ μ1) : TE μ μ1 := h
theorem gc_nine (d : Nat) (hd : 4 ≤ d) (μ : zM) (t : Nat) (ht4 : t < 4) (ht : μ.1 0 8 = nI t) (dl e : Nat) (hdl : μ.1 0 9 = nI dl) (hdl4 : dl < 4) (he : (dl + 1) % 4 = e) (ks : Int64) (hks : ∀ d, 1 ≤ d → z_C d mi_X3_kinds [.ref (19 + 8 * t)] μ (zR μ (.long ks))) (bc : Int32) (hbc : ∀ d, 1 ≤ d → z_C d mi_J13_bitCount_95d88 [.long (ks &&& 17113154305)] μ (zR μ (.int bc))) : z_C d mi_X6_nine [.ref 0] μ (fun r μ' => r = some ((bif decide ((μ.1 0 7) = 1) then (bif decide ((μ.1 0 17) = 0) then (bif decide ((μ.1 (18 + 8 * t) 2) ≤ 0) then (bif decide (9 ≤ bc) then .int 1 else .int 0) else .int 0) else .int 0) else .int 0)) ∧ μ' = (bif decide ((μ.1 0 7) = 1) then (bif decide ((μ.1 0 17) = 0) then (bif decide ((μ.1 (18 + 8 * t) 2) ≤ 0) then (bif decide (9 ≤ bc) then eHB μ true false (xBk μ) dl e (rcM μ) else μ) else μ) else μ) else μ)) := by
  refine z_C_in (by decide) (by omega) (fun d' Z ed hc hr => ?_)
  have hH : zH mi_X6_nine zt_X6_nine 79 6 1 := hh_X6_nine
  refine z_rcs hc hH 1 (pc' := 1) (lv' := [(0, .ref 0)]) (st' := [.ref 0]) (μ' := μ) (by rfl) ?_
  refine zq_gfi hc hH (by rfl) (ci := 5) (f := 7) (by rfl) (by decide +kernel) (by rfl) ?_
  refine z_rcs hc hH 1 (pc' := 5) (lv' := [(0, .ref 0)]) (st' := [.int 1, .int (μ.1 0 7)]) (μ' := μ) (by rfl) ?_
  refine zq_ic hc hH (by rfl) (tg := 29) (by rfl) (fun h1 => ?_) (fun h1 => ?_)
  · have h1 : (decide ((μ.1 0 7) = 1)) = false := decide_eq_false (cm_ne.mp h1)
    refine z_rcs hc hH 1 (pc' := 30) (lv' := [(0, .ref 0)]) (st' := [.int 0]) (μ' := μ) (by rfl) ?_
    exact hr 0 30 _ _ _ (some (.int 0)) (by decide +kernel) (z_rx_ok hH (by rfl)) (⟨(by first | with_reducible rfl | (simp only [h1, cond_true, cond_false]; done) | rfl), (by simp only [h1, cond_true, cond_false])⟩)
  · have h1 : (decide ((μ.1 0 7) = 1)) = true := decide_eq_true (cn_ne.mp h1)
    refine z_rcs hc hH 1 (pc' := 9) (lv' := [(0, .ref 0)]) (st' := [.ref 0]) (μ' := μ) (by rfl) ?_
    refine zq_gfi hc hH (by rfl) (ci := 5) (f := 17) (by rfl) (by decide +kernel) (by rfl) ?_
    refine zq_if hc hH (by rfl) (tg := 29) (by rfl) (fun h2 => ?_) (fun h2 => ?_)
    · have h2 : (decide ((μ.1 0 17) = 0)) = false := decide_eq_false (cm_ne.mp h2)
      refine z_rcs hc hH 1 (pc' := 30) (lv' := [(0, .ref 0)]) (st' := [.int 0]) (μ' := μ) (by rfl) ?_
      exact hr 0 30 _ _ _ (some (.int 0)) (by decide +kernel) (z_rx_ok hH (by rfl)) (⟨(by first | with_reducible rfl | (simp only [h1, h2, cond_true, cond_false]; done) | rfl), (by simp only [h1, h2, cond_true, cond_false])⟩)
    · have h2 : (decide ((μ.1 0 17) = 0)) = true := decide_eq_true (cn_ne.mp h2)
      refine z_rcs hc hH 2 (pc' := 17) (lv' := [(0, .ref 0)]) (st' := [.ref 0, .ref 0]) (μ' := μ) (by rfl) ?_
      refine zq_gfi hc hH (by rfl) (ci := 5) (f := 8) (by rfl) (by decide +kernel) (by rfl) ?_
      rw [ht]
      refine zq_call hc (z_cx_ok hH (by rfl)) (gc_at4 d' (by omega) μ t ht4) (by decide +kernel) (fun r9 μ9 hq => ?_)
      obtain ⟨hμ9, rfl⟩ := hq
      rw [hμ9]
      clear hμ9 μ9
      show Z 0 23 [(0, .ref 0)] [.ref (18 + 8 * t)] μ
      refine zq_gfi hc hH (by rfl) (ci := 1) (f := 2) (by rfl) (sj (P := fun i => okf 79 1 2 (18 + 8 * i)) ht4 (by decide +kernel)) (by rfl) ?_
      refine zq_if hc hH (by rfl) (tg := 31) (by rfl) (fun h3 => ?_) (fun h3 => ?_)
      · have h3 : (decide ((μ.1 (18 + 8 * t) 2) ≤ 0)) = true := decide_eq_true (cm_le.mp h3)
        refine z_rcs hc hH 2 (pc' := 33) (lv' := [(0, .ref 0)]) (st' := [.ref 0, .ref 0]) (μ' := μ) (by rfl) ?_
        refine zq_gfi hc hH (by rfl) (ci := 5) (f := 8) (by rfl) (by decide +kernel) (by rfl) ?_
        rw [ht]
        refine zq_call hc (z_cx_ok hH (by rfl)) (gc_at4 d' (by omega) μ t ht4) (by decide +kernel) (fun r9 μ9 hq => ?_)
        obtain ⟨hμ9, rfl⟩ := hq
        rw [hμ9]
        clear hμ9 μ9
        show Z 0 39 [(0, .ref 0)] [.ref (18 + 8 * t)] μ
        refine zq_gfr hc hH (by rfl) (ci := 1) (f := 0) (q := 19 + 8 * t) (by rfl) (sj (P := fun i => okf 79 1 0 (18 + 8 * i)) ht4 (by decide +kernel)) (by rfl) (sj (P := fun i => Nat.beq (z_gr (18 + 8 * i) 0) (19 + 8 * i)) ht4 (by decide +kernel)) ?_
        refine zq_call hc (z_clv9 hH (by rfl) (by rfl) (by rfl) (by rfl) (sj (P := fun i => okr 79 2 (19 + 8 * i)) ht4 (by decide +kernel)) (by rfl) (by rfl)) (hks d' (by omega)) (by decide +kernel) (fun r9 μ9 hq => ?_)
        obtain ⟨hμ9, rfl⟩ := hq
        rw [hμ9]
        clear hμ9 μ9
        show Z 0 45 [(0, .ref 0)] [.long ks] μ
        refine z_rcs hc hH 2 (pc' := 49) (lv' := [(0, .ref 0)]) (st' := [.long (ks &&& 17113154305)]) (μ' := μ) (by rfl) ?_
        refine zq_call hc (z_cx_ok hH (by rfl)) (hbc d' (by omega)) (by decide +kernel) (fun r9 μ9 hq => ?_)
        obtain ⟨hμ9, rfl⟩ := hq
        rw [hμ9]
        clear hμ9 μ9
        show Z 0 52 [(0, .ref 0)] [.int bc] μ
        refine z_rcs hc hH 1 (pc' := 54) (lv' := [(0, .ref 0)]) (st' := [.int 9, .int bc]) (μ' := μ) (by rfl) ?_
        refine zq_ic hc hH (by rfl) (tg := 59) (by rfl) (fun h4 => ?_) (fun h4 => ?_)
        · have h4 : (decide (9 ≤ bc)) = true := decide_eq_true (cm_ge.mp h4)
          refine z_rcs hc hH 3 (pc' := 62) (lv' := [(0, .ref 0)]) (st' := [.int 0, .int 1, .ref 0]) (μ' := μ) (by rfl) ?_
          refine zq_call hc (z_cx_ok hH (by rfl)) (gc_endHandB d' (by omega) μ true false dl e hdl hdl4 he) (by decide +kernel) (fun r9 μ9 hq => ?_)
          obtain ⟨rfl, rfl⟩ := hq
          show Z 0 65 [(0, .ref 0)] [] (eHB μ true false (xBk μ) dl e (rcM μ))
          refine z_rcs0 hc hH 1 (pc' := 66) (lv' := [(0, .ref 0)]) (st' := [.int 1]) (by rfl) ?_
          exact hr 0 66 _ _ _ (some (.int 1)) (by decide +kernel) (z_rx_ok hH (by rfl)) (⟨(by first | with_reducible rfl | (simp only [h1, h2, h3, h4, cond_true, cond_false]; done) | rfl), (by simp only [h1, h2, h3, h4, cond_true, cond_false])⟩)
        · have h4 : (decide (9 ≤ bc)) = false := decide_eq_false (cn_ge.mp h4)
          refine z_rcs hc hH 1 (pc' := 58) (lv' := [(0, .ref 0)]) (st' := [.int 0]) (μ' := μ) (by rfl) ?_
          exact hr 0 58 _ _ _ (some (.int 0)) (by decide +kernel) (z_rx_ok hH (by rfl)) (⟨(by first | with_reducible rfl | (simp only [h1, h2, h3, h4, cond_true, cond_false]; done) | rfl), (by simp only [h1, h2, h3, h4, cond_true, cond_false])⟩)
      · have h3 : (decide ((μ.1 (18 + 8 * t) 2) ≤ 0)) = false := decide_eq_false (cn_le.mp h3)
        refine z_rcs hc hH 1 (pc' := 30) (lv' := [(0, .ref 0)]) (st' := [.int 0]) (μ' := μ) (by rfl) ?_
        exact hr 0 30 _ _ _ (some (.int 0)) (by decide +kernel) (z_rx_ok hH (by rfl)) (⟨(by first | with_reducible rfl | (simp only [h1, h2, h3, cond_true, cond_false]; done) | rfl), (by simp only [h1, h2, h3, cond_true, cond_false])⟩)
theorem gc_endUnwon0000 (d : Nat) (hd : 8 ≤ d) (μ : zM) (dl e : Nat) (hdl : μ.1 0 9 = nI dl) (hdl4 : dl < 4) (he : (dl + 1) % 4 = e) (w0 : Int64) (hw0 : ∀ μ1, TE μ μ1 → ∀ d, 7 ≤ d → z_C d mi_X3_waiting [.ref 19] μ1 (zR μ1 (.long w0))) (w1 : Int64) (hw1 : ∀ μ1, TE μ μ1 → ∀ d, 7 ≤ d → z_C d mi_X3_waiting [.ref 27] μ1 (zR μ1 (.long w1))) (w2 : Int64) (hw2 : ∀ μ1, TE μ μ1 → ∀ d, 7 ≤ d → z_C d mi_X3_waiting [.ref 35] μ1 (zR μ1 (.long w2))) (w3 : Int64) (hw3 : ∀ μ1, TE μ μ1 → ∀ d, 7 ≤ d → z_C d mi_X3_waiting [.ref 43] μ1 (zR μ1 (.long w3))) (wd : Int64) (hwd : ∀ μ1, TE μ μ1 → ∀ d, 7 ≤ d → z_C d mi_X3_waiting [.ref (19 + 8 * dl)] μ1 (zR μ1 (.long wd))) (hb0 : decide (lg_cmp w0 0 = 0) = true) (hb1 : decide (lg_cmp w1 0 = 0) = true) (hb2 : decide (lg_cmp w2 0 = 0) = true) (hb3 : decide (lg_cmp w3 0 = 0) = true) : z_C d mi_X6_endUnwon [.ref 0] μ (fun r μ' => r = none ∧ μ' = eHB μ (!(decide ((lg_cmp wd 0) = 0))) false (xBk μ) dl e (rcM μ)) := by
  refine z_C_in (by decide) (by omega) (fun d' Z ed hc hr => ?_)
  have hH : zH mi_X6_endUnwon zt_X6_endUnwon 79 6 6 := hh_X6_endUnwon
  refine z_rcs hc hH 9 (pc' := 11) (lv' := [(2, .int 0), (1, .int 0), (0, .ref 0)]) (st' := [.int 0, .ref 0]) (μ' := μ) (by rfl) ?_
  refine zq_call hc (z_cx_ok hH (by rfl)) (gc_at d' (by omega) μ 0 (by decide)) (by decide +kernel) (fun r9 μ9 hq => ?_)
  obtain ⟨hμ9, rfl⟩ := hq
  rw [hμ9]
  clear hμ9 μ9
  show Z 0 14 [(2, .int 0), (1, .int 0), (0, .ref 0)] [.ref 18] μ
  refine zq_gfr hc hH (by rfl) (ci := 1) (f := 0) (q := 19) (by rfl) (by decide +kernel) (by rfl) (by decide +kernel) ?_
  refine zq_call hc (z_cx_ok hH (by rfl)) (hw0 _ (TE_rf _) d' (by omega)) (by decide +kernel) (fun r9 μ9 hq => ?_)
  obtain ⟨hμ9, rfl⟩ := hq
  rw [hμ9]
  clear hμ9 μ9
  show Z 0 20 [(2, .int 0), (1, .int 0), (0, .ref 0)] [.long w0] μ
  refine z_rcs hc hH 2 (pc' := 22) (lv' := [(2, .int 0), (1, .int 0), (0, .ref 0)]) (st' := [.int (lg_cmp w0 0)]) (μ' := μ) (by rfl) ?_
  refine zq_if hc hH (by rfl) (tg := 28) (by rfl) (fun h1 => ?_) (fun h1 => ?_)
  · have h1 : (decide ((lg_cmp w0 0) = 0)) = true := decide_eq_true (cm_eq9.mp h1)
    refine z_rcs hc hH 7 (pc' := 11) (lv' := [(2, .int 1), (1, .int 0), (0, .ref 0)]) (st' := [.int 1, .ref 0]) (μ' := μ) (by rfl) ?_
    refine zq_call hc (z_cx_ok hH (by rfl)) (gc_at d' (by omega) μ 1 (by decide)) (by decide +kernel) (fun r9 μ9 hq => ?_)
    obtain ⟨hμ9, rfl⟩ := hq
    rw [hμ9]
    clear hμ9 μ9
    show Z 0 14 [(2, .int 1), (1, .int 0), (0, .ref 0)] [.ref 26] μ
    refine zq_gfr hc hH (by rfl) (ci := 1) (f := 0) (q := 27) (by rfl) (by decide +kernel) (by rfl) (by decide +kernel) ?_
    refine zq_call hc (z_cx_ok hH (by rfl)) (hw1 _ (TE_rf _) d' (by omega)) (by decide +kernel) (fun r9 μ9 hq => ?_)
    obtain ⟨hμ9, rfl⟩ := hq
    rw [hμ9]
    clear hμ9 μ9
    show Z 0 20 [(2, .int 1), (1, .int 0), (0, .ref 0)] [.long w1] μ
    refine z_rcs hc hH 2 (pc' := 22) (lv' := [(2, .int 1), (1, .int 0), (0, .ref 0)]) (st' := [.int (lg_cmp w1 0)]) (μ' := μ) (by rfl) ?_
    refine zq_if hc hH (by rfl) (tg := 28) (by rfl) (fun h2 => ?_) (fun h2 => ?_)
    · have h2 : (decide ((lg_cmp w1 0) = 0)) = true := decide_eq_true (cm_eq9.mp h2)
      refine z_rcs hc hH 7 (pc' := 11) (lv' := [(2, .int 2), (1, .int 0), (0, .ref 0)]) (st' := [.int 2, .ref 0]) (μ' := μ) (by rfl) ?_
      refine zq_call hc (z_cx_ok hH (by rfl)) (gc_at d' (by omega) μ 2 (by decide)) (by decide +kernel) (fun r9 μ9 hq => ?_)
      obtain ⟨hμ9, rfl⟩ := hq
      rw [hμ9]
      clear hμ9 μ9
      show Z 0 14 [(2, .int 2), (1, .int 0), (0, .ref 0)] [.ref 34] μ
      refine zq_gfr hc hH (by rfl) (ci := 1) (f := 0) (q := 35) (by rfl) (by decide +kernel) (by rfl) (by decide +kernel) ?_
      refine zq_call hc (z_cx_ok hH (by rfl)) (hw2 _ (TE_rf _) d' (by omega)) (by decide +kernel) (fun r9 μ9 hq => ?_)
      obtain ⟨hμ9, rfl⟩ := hq
      rw [hμ9]
      clear hμ9 μ9
      show Z 0 20 [(2, .int 2), (1, .int 0), (0, .ref 0)] [.long w2] μ
      refine z_rcs hc hH 2 (pc' := 22) (lv' := [(2, .int 2), (1, .int 0), (0, .ref 0)]) (st' := [.int (lg_cmp w2 0)]) (μ' := μ) (by rfl) ?_
      refine zq_if hc hH (by rfl) (tg := 28) (by rfl) (fun h3 => ?_) (fun h3 => ?_)
      · have h3 : (decide ((lg_cmp w2 0) = 0)) = true := decide_eq_true (cm_eq9.mp h3)
        refine z_rcs hc hH 7 (pc' := 11) (lv' := [(2, .int 3), (1, .int 0), (0, .ref 0)]) (st' := [.int 3, .ref 0]) (μ' := μ) (by rfl) ?_
        refine zq_call hc (z_cx_ok hH (by rfl)) (gc_at d' (by omega) μ 3 (by decide)) (by decide +kernel) (fun r9 μ9 hq => ?_)
        obtain ⟨hμ9, rfl⟩ := hq
        rw [hμ9]
        clear hμ9 μ9
        show Z 0 14 [(2, .int 3), (1, .int 0), (0, .ref 0)] [.ref 42] μ
        refine zq_gfr hc hH (by rfl) (ci := 1) (f := 0) (q := 43) (by rfl) (by decide +kernel) (by rfl) (by decide +kernel) ?_
        refine zq_call hc (z_cx_ok hH (by rfl)) (hw3 _ (TE_rf _) d' (by omega)) (by decide +kernel) (fun r9 μ9 hq => ?_)
        obtain ⟨hμ9, rfl⟩ := hq
        rw [hμ9]
        clear hμ9 μ9
        show Z 0 20 [(2, .int 3), (1, .int 0), (0, .ref 0)] [.long w3] μ
        refine z_rcs hc hH 2 (pc' := 22) (lv' := [(2, .int 3), (1, .int 0), (0, .ref 0)]) (st' := [.int (lg_cmp w3 0)]) (μ' := μ) (by rfl) ?_
        refine zq_if hc hH (by rfl) (tg := 28) (by rfl) (fun h4 => ?_) (fun h4 => ?_)
        · have h4 : (decide ((lg_cmp w3 0) = 0)) = true := decide_eq_true (cm_eq9.mp h4)
          refine z_rcs hc hH 7 (pc' := 36) (lv' := [(2, .int 4), (1, .int 0), (0, .ref 0)]) (st' := [.ref 0, .ref 0]) (μ' := μ) (by rfl) ?_
          refine zq_gfi hc hH (by rfl) (ci := 5) (f := 9) (by rfl) (by decide +kernel) (by rfl) ?_
          rw [hdl]
          refine zq_call hc (z_cx_ok hH (by rfl)) (gc_at4 d' (by omega) μ dl hdl4) (by decide +kernel) (fun r9 μ9 hq => ?_)
          obtain ⟨hμ9, rfl⟩ := hq
          rw [hμ9]
          clear hμ9 μ9
          show Z 0 42 [(2, .int 4), (1, .int 0), (0, .ref 0)] [.ref (18 + 8 * dl)] μ
          refine zq_gfr hc hH (by rfl) (ci := 1) (f := 0) (q := 19 + 8 * dl) (by rfl) (sj (P := fun i => okf 79 1 0 (18 + 8 * i)) hdl4 (by decide +kernel)) (by rfl) (sj (P := fun i => Nat.beq (z_gr (18 + 8 * i) 0) (19 + 8 * i)) hdl4 (by decide +kernel)) ?_
          refine zq_call hc (z_clv9 hH (by rfl) (by rfl) (by rfl) (by rfl) (sj (P := fun i => okr 79 2 (19 + 8 * i)) hdl4 (by decide +kernel)) (by rfl) (by rfl)) ((hwd _ (TE_rf _) d' (by omega))) (by decide +kernel) (fun r9 μ9 hq => ?_)
          obtain ⟨hμ9, rfl⟩ := hq
          rw [hμ9]
          clear hμ9 μ9
          show Z 0 48 [(2, .int 4), (1, .int 0), (0, .ref 0)] [.long wd] μ
          refine z_rcs hc hH 2 (pc' := 50) (lv' := [(2, .int 4), (1, .int 0), (0, .ref 0)]) (st' := [.int (lg_cmp wd 0)]) (μ' := μ) (by rfl) ?_
          have hJ5 : Z 0 58 [(2, .int 4), (1, .int 0), (0, .ref 0)] [.int (nB (!(decide ((lg_cmp wd 0) = 0))))] μ := by
            refine z_rcs hc hH 6 (pc' := 139) (lv' := [(2, .int (nB (!(decide ((lg_cmp wd 0) = 0))))), (1, .int 0), (0, .ref 0)]) (st' := [.int 0, .int (nB (!(decide ((lg_cmp wd 0) = 0)))), .ref 0]) (μ' := μ) (by rfl) ?_
            refine zq_call hc (z_cx_ok hH (by rfl)) (gc_endHandB d' (by omega) μ (!(decide ((lg_cmp wd 0) = 0))) false dl e hdl hdl4 he) (by decide +kernel) (fun r9 μ9 hq => ?_)
            obtain ⟨rfl, rfl⟩ := hq
            show Z 0 142 [(2, .int (nB (!(decide ((lg_cmp wd 0) = 0))))), (1, .int 0), (0, .ref 0)] [] (eHB μ (!(decide ((lg_cmp wd 0) = 0))) false (xBk μ) dl e (rcM μ))
            exact hr 0 142 _ _ _ none (by decide +kernel) (by rfl) (⟨rfl, rfl⟩)
          refine zq_if hc hH (by rfl) (tg := 57) (by rfl) (fun h6 => ?_) (fun h6 => ?_)
          · have h6 : (decide ((lg_cmp wd 0) = 0)) = true := decide_eq_true (cm_eq9.mp h6)
            refine z_rcs hc hH 1 (pc' := 58) (lv' := [(2, .int 4), (1, .int 0), (0, .ref 0)]) (st' := [.int 0]) (μ' := μ) (by rfl) ?_
            exact zJ hJ5 rfl (by first | with_reducible rfl | (simp only [h6, lb_f, Int64.or_zero, Int32.add_zero, nB_t, nB_f, Bool.not_true, Bool.not_false, Bool.and_true, Bool.true_and, Bool.false_and, Bool.and_false, Bool.or_true, Bool.true_or, Bool.false_or, Bool.or_false, cond_true, cond_false]; done) | rfl) rfl
          · have h6 : (decide ((lg_cmp wd 0) = 0)) = false := decide_eq_false (cn_eq.mp h6)
            refine z_rcs hc hH 2 (pc' := 58) (lv' := [(2, .int 4), (1, .int 0), (0, .ref 0)]) (st' := [.int 1]) (μ' := μ) (by rfl) ?_
            exact zJ hJ5 rfl (by first | with_reducible rfl | (simp only [h6, lb_f, Int64.or_zero, Int32.add_zero, nB_t, nB_f, Bool.not_true, Bool.not_false, Bool.and_true, Bool.true_and, Bool.false_and, Bool.and_false, Bool.or_true, Bool.true_or, Bool.false_or, Bool.or_false, cond_true, cond_false]; done) | rfl) rfl
        · have h4 : (decide ((lg_cmp w3 0) = 0)) = false := decide_eq_false (cn_eq.mp h4)
          exact absurd (Eq.trans (Eq.symm (hb3)) h4) (by decide)
      · have h3 : (decide ((lg_cmp w2 0) = 0)) = false := decide_eq_false (cn_eq.mp h3)
        exact absurd (Eq.trans (Eq.symm (hb2)) h3) (by decide)
    · have h2 : (decide ((lg_cmp w1 0) = 0)) = false := decide_eq_false (cn_eq.mp h2)
      exact absurd (Eq.trans (Eq.symm (hb1)) h2) (by decide)
  · have h1 : (decide ((lg_cmp w0 0) = 0)) = false := decide_eq_false (cn_eq.mp h1)
    exact absurd (Eq.trans (Eq.symm (hb0)) h1) (by decide)
theorem gc_endUnwon0001 (d : Nat) (hd : 8 ≤ d) (μ : zM) (dl e : Nat) (hdl : μ.1 0 9 = nI dl) (hdl4 : dl < 4) (he : (dl + 1) % 4 = e) (w0 : Int64) (hw0 : ∀ μ1, TE μ μ1 → ∀ d, 7 ≤ d → z_C d mi_X3_waiting [.ref 19] μ1 (zR μ1 (.long w0))) (w1 : Int64) (hw1 : ∀ μ1, TE μ μ1 → ∀ d, 7 ≤ d → z_C d mi_X3_waiting [.ref 27] μ1 (zR μ1 (.long w1))) (w2 : Int64) (hw2 : ∀ μ1, TE μ μ1 → ∀ d, 7 ≤ d → z_C d mi_X3_waiting [.ref 35] μ1 (zR μ1 (.long w2))) (w3 : Int64) (hw3 : ∀ μ1, TE μ μ1 → ∀ d, 7 ≤ d → z_C d mi_X3_waiting [.ref 43] μ1 (zR μ1 (.long w3))) (wd : Int64) (hwd : ∀ μ1, TE μ μ1 → ∀ d, 7 ≤ d → z_C d mi_X3_waiting [.ref (19 + 8 * dl)] μ1 (zR μ1 (.long wd))) (hb0 : decide (lg_cmp w0 0 = 0) = true) (hb1 : decide (lg_cmp w1 0 = 0) = true) (hb2 : decide (lg_cmp w2 0 = 0) = true) (hb3 : decide (lg_cmp w3 0 = 0) = false) : z_C d mi_X6_endUnwon [.ref 0] μ (fun r μ' => r = none ∧ μ' = eHB (z_ui (z_ui (z_ui (z_ui μ 18 4 ((μ.1 18 4) + (-1000))) 26 4 ((μ.1 26 4) + (-1000))) 34 4 ((μ.1 34 4) + (-1000))) 42 4 ((μ.1 42 4) + 3000)) (!(decide ((lg_cmp wd 0) = 0))) false (xBk (z_ui (z_ui (z_ui (z_ui μ 18 4 ((μ.1 18 4) + (-1000))) 26 4 ((μ.1 26 4) + (-1000))) 34 4 ((μ.1 34 4) + (-1000))) 42 4 ((μ.1 42 4) + 3000))) dl e (rcM (z_ui (z_ui (z_ui (z_ui μ 18 4 ((μ.1 18 4) + (-1000))) 26 4 ((μ.1 26 4) + (-1000))) 34 4 ((μ.1 34 4) + (-1000))) 42 4 ((μ.1 42 4) + 3000)))) := by
  refine z_C_in (by decide) (by omega) (fun d' Z ed hc hr => ?_)
  have hH : zH mi_X6_endUnwon zt_X6_endUnwon 79 6 6 := hh_X6_endUnwon
  refine z_rcs hc hH 9 (pc' := 11) (lv' := [(2, .int 0), (1, .int 0), (0, .ref 0)]) (st' := [.int 0, .ref 0]) (μ' := μ) (by rfl) ?_
  refine zq_call hc (z_cx_ok hH (by rfl)) (gc_at d' (by omega) μ 0 (by decide)) (by decide +kernel) (fun r9 μ9 hq => ?_)
  obtain ⟨hμ9, rfl⟩ := hq
  rw [hμ9]
  clear hμ9 μ9
  show Z 0 14 [(2, .int 0), (1, .int 0), (0, .ref 0)] [.ref 18] μ
  refine zq_gfr hc hH (by rfl) (ci := 1) (f := 0) (q := 19) (by rfl) (by decide +kernel) (by rfl) (by decide +kernel) ?_
  refine zq_call hc (z_cx_ok hH (by rfl)) (hw0 _ (TE_rf _) d' (by omega)) (by decide +kernel) (fun r9 μ9 hq => ?_)
  obtain ⟨hμ9, rfl⟩ := hq
  rw [hμ9]
  clear hμ9 μ9
  show Z 0 20 [(2, .int 0), (1, .int 0), (0, .ref 0)] [.long w0] μ
  refine z_rcs hc hH 2 (pc' := 22) (lv' := [(2, .int 0), (1, .int 0), (0, .ref 0)]) (st' := [.int (lg_cmp w0 0)]) (μ' := μ) (by rfl) ?_
  refine zq_if hc hH (by rfl) (tg := 28) (by rfl) (fun h1 => ?_) (fun h1 => ?_)
  · have h1 : (decide ((lg_cmp w0 0) = 0)) = true := decide_eq_true (cm_eq9.mp h1)
    refine z_rcs hc hH 7 (pc' := 11) (lv' := [(2, .int 1), (1, .int 0), (0, .ref 0)]) (st' := [.int 1, .ref 0]) (μ' := μ) (by rfl) ?_
    refine zq_call hc (z_cx_ok hH (by rfl)) (gc_at d' (by omega) μ 1 (by decide)) (by decide +kernel) (fun r9 μ9 hq => ?_)
    obtain ⟨hμ9, rfl⟩ := hq
    rw [hμ9]
    clear hμ9 μ9
    show Z 0 14 [(2, .int 1), (1, .int 0), (0, .ref 0)] [.ref 26] μ
    refine zq_gfr hc hH (by rfl) (ci := 1) (f := 0) (q := 27) (by rfl) (by decide +kernel) (by rfl) (by decide +kernel) ?_
    refine zq_call hc (z_cx_ok hH (by rfl)) (hw1 _ (TE_rf _) d' (by omega)) (by decide +kernel) (fun r9 μ9 hq => ?_)
    obtain ⟨hμ9, rfl⟩ := hq
    rw [hμ9]
    clear hμ9 μ9
    show Z 0 20 [(2, .int 1), (1, .int 0), (0, .ref 0)] [.long w1] μ
    refine z_rcs hc hH 2 (pc' := 22) (lv' := [(2, .int 1), (1, .int 0), (0, .ref 0)]) (st' := [.int (lg_cmp w1 0)]) (μ' := μ) (by rfl) ?_
    refine zq_if hc hH (by rfl) (tg := 28) (by rfl) (fun h2 => ?_) (fun h2 => ?_)
    · have h2 : (decide ((lg_cmp w1 0) = 0)) = true := decide_eq_true (cm_eq9.mp h2)
      refine z_rcs hc hH 7 (pc' := 11) (lv' := [(2, .int 2), (1, .int 0), (0, .ref 0)]) (st' := [.int 2, .ref 0]) (μ' := μ) (by rfl) ?_
      refine zq_call hc (z_cx_ok hH (by rfl)) (gc_at d' (by omega) μ 2 (by decide)) (by decide +kernel) (fun r9 μ9 hq => ?_)
      obtain ⟨hμ9, rfl⟩ := hq
      rw [hμ9]
      clear hμ9 μ9
      show Z 0 14 [(2, .int 2), (1, .int 0), (0, .ref 0)] [.ref 34] μ
      refine zq_gfr hc hH (by rfl) (ci := 1) (f := 0) (q := 35) (by rfl) (by decide +kernel) (by rfl) (by decide +kernel) ?_
      refine zq_call hc (z_cx_ok hH (by rfl)) (hw2 _ (TE_rf _) d' (by omega)) (by decide +kernel) (fun r9 μ9 hq => ?_)
      obtain ⟨hμ9, rfl⟩ := hq
      rw [hμ9]
      clear hμ9 μ9
      show Z 0 20 [(2, .int 2), (1, .int 0), (0, .ref 0)] [.long w2] μ
      refine z_rcs hc hH 2 (pc' := 22) (lv' := [(2, .int 2), (1, .int 0), (0, .ref 0)]) (st' := [.int (lg_cmp w2 0)]) (μ' := μ) (by rfl) ?_
      refine zq_if hc hH (by rfl) (tg := 28) (by rfl) (fun h3 => ?_) (fun h3 => ?_)
      · have h3 : (decide ((lg_cmp w2 0) = 0)) = true := decide_eq_true (cm_eq9.mp h3)
        refine z_rcs hc hH 7 (pc' := 11) (lv' := [(2, .int 3), (1, .int 0), (0, .ref 0)]) (st' := [.int 3, .ref 0]) (μ' := μ) (by rfl) ?_
        refine zq_call hc (z_cx_ok hH (by rfl)) (gc_at d' (by omega) μ 3 (by decide)) (by decide +kernel) (fun r9 μ9 hq => ?_)
        obtain ⟨hμ9, rfl⟩ := hq
        rw [hμ9]
        clear hμ9 μ9
        show Z 0 14 [(2, .int 3), (1, .int 0), (0, .ref 0)] [.ref 42] μ
        refine zq_gfr hc hH (by rfl) (ci := 1) (f := 0) (q := 43) (by rfl) (by decide +kernel) (by rfl) (by decide +kernel) ?_
        refine zq_call hc (z_cx_ok hH (by rfl)) (hw3 _ (TE_rf _) d' (by omega)) (by decide +kernel) (fun r9 μ9 hq => ?_)
        obtain ⟨hμ9, rfl⟩ := hq
        rw [hμ9]
        clear hμ9 μ9
        show Z 0 20 [(2, .int 3), (1, .int 0), (0, .ref 0)] [.long w3] μ
        refine z_rcs hc hH 2 (pc' := 22) (lv' := [(2, .int 3), (1, .int 0), (0, .ref 0)]) (st' := [.int (lg_cmp w3 0)]) (μ' := μ) (by rfl) ?_
        refine zq_if hc hH (by rfl) (tg := 28) (by rfl) (fun h4 => ?_) (fun h4 => ?_)
        · have h4 : (decide ((lg_cmp w3 0) = 0)) = true := decide_eq_true (cm_eq9.mp h4)
          exact absurd (Eq.trans (Eq.symm (hb3)) h4) (by decide)
        · have h4 : (decide ((lg_cmp w3 0) = 0)) = false := decide_eq_false (cn_eq.mp h4)
          refine z_rcs hc hH 8 (pc' := 36) (lv' := [(2, .int 4), (1, .int 1), (0, .ref 0)]) (st' := [.ref 0, .ref 0]) (μ' := μ) (by rfl) ?_
          refine zq_gfi hc hH (by rfl) (ci := 5) (f := 9) (by rfl) (by decide +kernel) (by rfl) ?_
          rw [hdl]
          refine zq_call hc (z_cx_ok hH (by rfl)) (gc_at4 d' (by omega) μ dl hdl4) (by decide +kernel) (fun r9 μ9 hq => ?_)
          obtain ⟨hμ9, rfl⟩ := hq
          rw [hμ9]
          clear hμ9 μ9
          show Z 0 42 [(2, .int 4), (1, .int 1), (0, .ref 0)] [.ref (18 + 8 * dl)] μ
          refine zq_gfr hc hH (by rfl) (ci := 1) (f := 0) (q := 19 + 8 * dl) (by rfl) (sj (P := fun i => okf 79 1 0 (18 + 8 * i)) hdl4 (by decide +kernel)) (by rfl) (sj (P := fun i => Nat.beq (z_gr (18 + 8 * i) 0) (19 + 8 * i)) hdl4 (by decide +kernel)) ?_
          refine zq_call hc (z_clv9 hH (by rfl) (by rfl) (by rfl) (by rfl) (sj (P := fun i => okr 79 2 (19 + 8 * i)) hdl4 (by decide +kernel)) (by rfl) (by rfl)) ((hwd _ (TE_rf _) d' (by omega))) (by decide +kernel) (fun r9 μ9 hq => ?_)
          obtain ⟨hμ9, rfl⟩ := hq
          rw [hμ9]
          clear hμ9 μ9
          show Z 0 48 [(2, .int 4), (1, .int 1), (0, .ref 0)] [.long wd] μ
          refine z_rcs hc hH 2 (pc' := 50) (lv' := [(2, .int 4), (1, .int 1), (0, .ref 0)]) (st' := [.int (lg_cmp wd 0)]) (μ' := μ) (by rfl) ?_
          have hJ5 : Z 0 58 [(2, .int 4), (1, .int 1), (0, .ref 0)] [.int (nB (!(decide ((lg_cmp wd 0) = 0))))] μ := by
            refine z_rcs hc hH 23 (pc' := 95) (lv' := [(5, .int 0), (4, .int 1000), (3, .int 3000), (2, .int (nB (!(decide ((lg_cmp wd 0) = 0))))), (1, .int 1), (0, .ref 0)]) (st' := [.int 0, .ref 0]) (μ' := μ) (by rfl) ?_
            refine zq_call hc (z_cx_ok hH (by rfl)) (gc_at d' (by omega) μ 0 (by decide)) (by decide +kernel) (fun r9 μ9 hq => ?_)
            obtain ⟨hμ9, rfl⟩ := hq
            rw [hμ9]
            clear hμ9 μ9
            show Z 0 98 [(5, .int 0), (4, .int 1000), (3, .int 3000), (2, .int (nB (!(decide ((lg_cmp wd 0) = 0))))), (1, .int 1), (0, .ref 0)] [.ref 18] μ
            refine z_rcs hc hH 1 (pc' := 99) (lv' := [(5, .int 0), (4, .int 1000), (3, .int 3000), (2, .int (nB (!(decide ((lg_cmp wd 0) = 0))))), (1, .int 1), (0, .ref 0)]) (st' := [.ref 18, .ref 18]) (μ' := μ) (by rfl) ?_
            refine zq_gfi hc hH (by rfl) (ci := 1) (f := 4) (by rfl) (by decide +kernel) (by rfl) ?_
            refine z_rcs hc hH 2 (pc' := 105) (lv' := [(5, .int 0), (4, .int 1000), (3, .int 3000), (2, .int (nB (!(decide ((lg_cmp wd 0) = 0))))), (1, .int 1), (0, .ref 0)]) (st' := [.int 0, .ref 0, .int (μ.1 18 4), .ref 18]) (μ' := μ) (by rfl) ?_
            refine zq_call hc (z_cx_ok hH (by rfl)) (gc_at d' (by omega) μ 0 (by decide)) (by decide +kernel) (fun r9 μ9 hq => ?_)
            obtain ⟨hμ9, rfl⟩ := hq
            rw [hμ9]
            clear hμ9 μ9
            show Z 0 108 [(5, .int 0), (4, .int 1000), (3, .int 3000), (2, .int (nB (!(decide ((lg_cmp wd 0) = 0))))), (1, .int 1), (0, .ref 0)] [.ref 18, .int (μ.1 18 4), .ref 18] μ
            refine zq_gfr hc hH (by rfl) (ci := 1) (f := 0) (q := 19) (by rfl) (by decide +kernel) (by rfl) (by decide +kernel) ?_
            refine zq_call hc (z_cx_ok hH (by rfl)) (hw0 _ (TE_rf _) d' (by omega)) (by decide +kernel) (fun r9 μ9 hq => ?_)
            obtain ⟨hμ9, rfl⟩ := hq
            rw [hμ9]
            clear hμ9 μ9
            show Z 0 114 [(5, .int 0), (4, .int 1000), (3, .int 3000), (2, .int (nB (!(decide ((lg_cmp wd 0) = 0))))), (1, .int 1), (0, .ref 0)] [.long w0, .int (μ.1 18 4), .ref 18] μ
            refine z_rcs hc hH 2 (pc' := 116) (lv' := [(5, .int 0), (4, .int 1000), (3, .int 3000), (2, .int (nB (!(decide ((lg_cmp wd 0) = 0))))), (1, .int 1), (0, .ref 0)]) (st' := [.int (lg_cmp w0 0), .int (μ.1 18 4), .ref 18]) (μ' := μ) (by rfl) ?_
            refine zq_if hc hH (by rfl) (tg := 123) (by rfl) (fun h6 => ?_) (fun h6 => ?_)
            · have h6 : (decide ((lg_cmp w0 0) = 0)) = true := decide_eq_true (cm_eq9.mp h6)
              refine z_rcs hc hH 3 (pc' := 127) (lv' := [(5, .int 0), (4, .int 1000), (3, .int 3000), (2, .int (nB (!(decide ((lg_cmp wd 0) = 0))))), (1, .int 1), (0, .ref 0)]) (st' := [.int ((μ.1 18 4) + (-1000)), .ref 18]) (μ' := μ) (by rfl) ?_
              refine zq_pfi hc hH (by rfl) (ci := 1) (f := 4) (by rfl) (by decide +kernel) (by rfl) ?_
              show Z 0 130 [(5, .int 0), (4, .int 1000), (3, .int 3000), (2, .int (nB (!(decide ((lg_cmp wd 0) = 0))))), (1, .int 1), (0, .ref 0)] [] (z_ui μ 18 4 ((μ.1 18 4) + (-1000)))
              refine z_rcs0 hc hH 7 (pc' := 95) (lv' := [(5, .int 1), (4, .int 1000), (3, .int 3000), (2, .int (nB (!(decide ((lg_cmp wd 0) = 0))))), (1, .int 1), (0, .ref 0)]) (st' := [.int 1, .ref 0]) (by rfl) ?_
              refine zq_call hc (z_cx_ok hH (by rfl)) (gc_at d' (by omega) (z_ui μ 18 4 ((μ.1 18 4) + (-1000))) 1 (by decide)) (by decide +kernel) (fun r9 μ9 hq => ?_)
              obtain ⟨hμ9, rfl⟩ := hq
              rw [hμ9]
              clear hμ9 μ9
              show Z 0 98 [(5, .int 1), (4, .int 1000), (3, .int 3000), (2, .int (nB (!(decide ((lg_cmp wd 0) = 0))))), (1, .int 1), (0, .ref 0)] [.ref 26] _
              refine z_rcs0 hc hH 1 (pc' := 99) (lv' := [(5, .int 1), (4, .int 1000), (3, .int 3000), (2, .int (nB (!(decide ((lg_cmp wd 0) = 0))))), (1, .int 1), (0, .ref 0)]) (st' := [.ref 26, .ref 26]) (by rfl) ?_
              refine zq_gfi hc hH (by rfl) (ci := 1) (f := 4) (by rfl) (by decide +kernel) (by rfl) ?_
              refine zV1 (Z := Z) (ui_o (by first | decide | omega)) ?_
              refine z_rcs0 hc hH 2 (pc' := 105) (lv' := [(5, .int 1), (4, .int 1000), (3, .int 3000), (2, .int (nB (!(decide ((lg_cmp wd 0) = 0))))), (1, .int 1), (0, .ref 0)]) (st' := [.int 1, .ref 0, .int (μ.1 26 4), .ref 26]) (by rfl) ?_
              refine zq_call hc (z_cx_ok hH (by rfl)) (gc_at d' (by omega) (z_ui μ 18 4 ((μ.1 18 4) + (-1000))) 1 (by decide)) (by decide +kernel) (fun r9 μ9 hq => ?_)
              obtain ⟨hμ9, rfl⟩ := hq
              rw [hμ9]
              clear hμ9 μ9
              show Z 0 108 [(5, .int 1), (4, .int 1000), (3, .int 3000), (2, .int (nB (!(decide ((lg_cmp wd 0) = 0))))), (1, .int 1), (0, .ref 0)] [.ref 26, .int (μ.1 26 4), .ref 26] _
              refine zq_gfr hc hH (by rfl) (ci := 1) (f := 0) (q := 27) (by rfl) (by decide +kernel) (by rfl) (by decide +kernel) ?_
              refine zq_call hc (z_cx_ok hH (by rfl)) (hw1 _ (TE_ui (TE_rf _) (by intro i a hi h1 h2; omega)) d' (by omega)) (by decide +kernel) (fun r9 μ9 hq => ?_)
              obtain ⟨hμ9, rfl⟩ := hq
              rw [hμ9]
              clear hμ9 μ9
              show Z 0 114 [(5, .int 1), (4, .int 1000), (3, .int 3000), (2, .int (nB (!(decide ((lg_cmp wd 0) = 0))))), (1, .int 1), (0, .ref 0)] [.long w1, .int (μ.1 26 4), .ref 26] _
              refine z_rcs0 hc hH 2 (pc' := 116) (lv' := [(5, .int 1), (4, .int 1000), (3, .int 3000), (2, .int (nB (!(decide ((lg_cmp wd 0) = 0))))), (1, .int 1), (0, .ref 0)]) (st' := [.int (lg_cmp w1 0), .int (μ.1 26 4), .ref 26]) (by rfl) ?_
              refine zq_if hc hH (by rfl) (tg := 123) (by rfl) (fun h7 => ?_) (fun h7 => ?_)
              · have h7 : (decide ((lg_cmp w1 0) = 0)) = true := decide_eq_true (cm_eq9.mp h7)
                refine z_rcs0 hc hH 3 (pc' := 127) (lv' := [(5, .int 1), (4, .int 1000), (3, .int 3000), (2, .int (nB (!(decide ((lg_cmp wd 0) = 0))))), (1, .int 1), (0, .ref 0)]) (st' := [.int ((μ.1 26 4) + (-1000)), .ref 26]) (by rfl) ?_
                refine zq_pfi hc hH (by rfl) (ci := 1) (f := 4) (by rfl) (by decide +kernel) (by rfl) ?_
                show Z 0 130 [(5, .int 1), (4, .int 1000), (3, .int 3000), (2, .int (nB (!(decide ((lg_cmp wd 0) = 0))))), (1, .int 1), (0, .ref 0)] [] (z_ui (z_ui μ 18 4 ((μ.1 18 4) + (-1000))) 26 4 ((μ.1 26 4) + (-1000)))
                refine z_rcs0 hc hH 7 (pc' := 95) (lv' := [(5, .int 2), (4, .int 1000), (3, .int 3000), (2, .int (nB (!(decide ((lg_cmp wd 0) = 0))))), (1, .int 1), (0, .ref 0)]) (st' := [.int 2, .ref 0]) (by rfl) ?_
                refine zq_call hc (z_cx_ok hH (by rfl)) (gc_at d' (by omega) (z_ui (z_ui μ 18 4 ((μ.1 18 4) + (-1000))) 26 4 ((μ.1 26 4) + (-1000))) 2 (by decide)) (by decide +kernel) (fun r9 μ9 hq => ?_)
                obtain ⟨hμ9, rfl⟩ := hq
                rw [hμ9]
                clear hμ9 μ9
                show Z 0 98 [(5, .int 2), (4, .int 1000), (3, .int 3000), (2, .int (nB (!(decide ((lg_cmp wd 0) = 0))))), (1, .int 1), (0, .ref 0)] [.ref 34] _
                refine z_rcs0 hc hH 1 (pc' := 99) (lv' := [(5, .int 2), (4, .int 1000), (3, .int 3000), (2, .int (nB (!(decide ((lg_cmp wd 0) = 0))))), (1, .int 1), (0, .ref 0)]) (st' := [.ref 34, .ref 34]) (by rfl) ?_
                refine zq_gfi hc hH (by rfl) (ci := 1) (f := 4) (by rfl) (by decide +kernel) (by rfl) ?_
                refine zV1 (Z := Z) (Eq.trans (ui_o (by first | decide | omega)) (ui_o (by first | decide | omega))) ?_
                refine z_rcs0 hc hH 2 (pc' := 105) (lv' := [(5, .int 2), (4, .int 1000), (3, .int 3000), (2, .int (nB (!(decide ((lg_cmp wd 0) = 0))))), (1, .int 1), (0, .ref 0)]) (st' := [.int 2, .ref 0, .int (μ.1 34 4), .ref 34]) (by rfl) ?_
                refine zq_call hc (z_cx_ok hH (by rfl)) (gc_at d' (by omega) (z_ui (z_ui μ 18 4 ((μ.1 18 4) + (-1000))) 26 4 ((μ.1 26 4) + (-1000))) 2 (by decide)) (by decide +kernel) (fun r9 μ9 hq => ?_)
                obtain ⟨hμ9, rfl⟩ := hq
                rw [hμ9]
                clear hμ9 μ9
                show Z 0 108 [(5, .int 2), (4, .int 1000), (3, .int 3000), (2, .int (nB (!(decide ((lg_cmp wd 0) = 0))))), (1, .int 1), (0, .ref 0)] [.ref 34, .int (μ.1 34 4), .ref 34] _
                refine zq_gfr hc hH (by rfl) (ci := 1) (f := 0) (q := 35) (by rfl) (by decide +kernel) (by rfl) (by decide +kernel) ?_
                refine zq_call hc (z_cx_ok hH (by rfl)) (hw2 _ (TE_ui (TE_ui (TE_rf _) (by intro i a hi h1 h2; omega)) (by intro i a hi h1 h2; omega)) d' (by omega)) (by decide +kernel) (fun r9 μ9 hq => ?_)
                obtain ⟨hμ9, rfl⟩ := hq
                rw [hμ9]
                clear hμ9 μ9
                show Z 0 114 [(5, .int 2), (4, .int 1000), (3, .int 3000), (2, .int (nB (!(decide ((lg_cmp wd 0) = 0))))), (1, .int 1), (0, .ref 0)] [.long w2, .int (μ.1 34 4), .ref 34] _
                refine z_rcs0 hc hH 2 (pc' := 116) (lv' := [(5, .int 2), (4, .int 1000), (3, .int 3000), (2, .int (nB (!(decide ((lg_cmp wd 0) = 0))))), (1, .int 1), (0, .ref 0)]) (st' := [.int (lg_cmp w2 0), .int (μ.1 34 4), .ref 34]) (by rfl) ?_
                refine zq_if hc hH (by rfl) (tg := 123) (by rfl) (fun h8 => ?_) (fun h8 => ?_)
                · have h8 : (decide ((lg_cmp w2 0) = 0)) = true := decide_eq_true (cm_eq9.mp h8)
                  refine z_rcs0 hc hH 3 (pc' := 127) (lv' := [(5, .int 2), (4, .int 1000), (3, .int 3000), (2, .int (nB (!(decide ((lg_cmp wd 0) = 0))))), (1, .int 1), (0, .ref 0)]) (st' := [.int ((μ.1 34 4) + (-1000)), .ref 34]) (by rfl) ?_
                  refine zq_pfi hc hH (by rfl) (ci := 1) (f := 4) (by rfl) (by decide +kernel) (by rfl) ?_
                  show Z 0 130 [(5, .int 2), (4, .int 1000), (3, .int 3000), (2, .int (nB (!(decide ((lg_cmp wd 0) = 0))))), (1, .int 1), (0, .ref 0)] [] (z_ui (z_ui (z_ui μ 18 4 ((μ.1 18 4) + (-1000))) 26 4 ((μ.1 26 4) + (-1000))) 34 4 ((μ.1 34 4) + (-1000)))
                  refine z_rcs0 hc hH 7 (pc' := 95) (lv' := [(5, .int 3), (4, .int 1000), (3, .int 3000), (2, .int (nB (!(decide ((lg_cmp wd 0) = 0))))), (1, .int 1), (0, .ref 0)]) (st' := [.int 3, .ref 0]) (by rfl) ?_
                  refine zq_call hc (z_cx_ok hH (by rfl)) (gc_at d' (by omega) (z_ui (z_ui (z_ui μ 18 4 ((μ.1 18 4) + (-1000))) 26 4 ((μ.1 26 4) + (-1000))) 34 4 ((μ.1 34 4) + (-1000))) 3 (by decide)) (by decide +kernel) (fun r9 μ9 hq => ?_)
                  obtain ⟨hμ9, rfl⟩ := hq
                  rw [hμ9]
                  clear hμ9 μ9
                  show Z 0 98 [(5, .int 3), (4, .int 1000), (3, .int 3000), (2, .int (nB (!(decide ((lg_cmp wd 0) = 0))))), (1, .int 1), (0, .ref 0)] [.ref 42] _
                  refine z_rcs0 hc hH 1 (pc' := 99) (lv' := [(5, .int 3), (4, .int 1000), (3, .int 3000), (2, .int (nB (!(decide ((lg_cmp wd 0) = 0))))), (1, .int 1), (0, .ref 0)]) (st' := [.ref 42, .ref 42]) (by rfl) ?_
                  refine zq_gfi hc hH (by rfl) (ci := 1) (f := 4) (by rfl) (by decide +kernel) (by rfl) ?_
                  refine zV1 (Z := Z) (Eq.trans (ui_o (by first | decide | omega)) (Eq.trans (ui_o (by first | decide | omega)) (ui_o (by first | decide | omega)))) ?_
                  refine z_rcs0 hc hH 2 (pc' := 105) (lv' := [(5, .int 3), (4, .int 1000), (3, .int 3000), (2, .int (nB (!(decide ((lg_cmp wd 0) = 0))))), (1, .int 1), (0, .ref 0)]) (st' := [.int 3, .ref 0, .int (μ.1 42 4), .ref 42]) (by rfl) ?_
                  refine zq_call hc (z_cx_ok hH (by rfl)) (gc_at d' (by omega) (z_ui (z_ui (z_ui μ 18 4 ((μ.1 18 4) + (-1000))) 26 4 ((μ.1 26 4) + (-1000))) 34 4 ((μ.1 34 4) + (-1000))) 3 (by decide)) (by decide +kernel) (fun r9 μ9 hq => ?_)
                  obtain ⟨hμ9, rfl⟩ := hq
                  rw [hμ9]
                  clear hμ9 μ9
                  show Z 0 108 [(5, .int 3), (4, .int 1000), (3, .int 3000), (2, .int (nB (!(decide ((lg_cmp wd 0) = 0))))), (1, .int 1), (0, .ref 0)] [.ref 42, .int (μ.1 42 4), .ref 42] _
                  refine zq_gfr hc hH (by rfl) (ci := 1) (f := 0) (q := 43) (by rfl) (by decide +kernel) (by rfl) (by decide +kernel) ?_
                  refine zq_call hc (z_cx_ok hH (by rfl)) (hw3 _ (TE_ui (TE_ui (TE_ui (TE_rf _) (by intro i a hi h1 h2; omega)) (by intro i a hi h1 h2; omega)) (by intro i a hi h1 h2; omega)) d' (by omega)) (by decide +kernel) (fun r9 μ9 hq => ?_)
                  obtain ⟨hμ9, rfl⟩ := hq
                  rw [hμ9]
                  clear hμ9 μ9
                  show Z 0 114 [(5, .int 3), (4, .int 1000), (3, .int 3000), (2, .int (nB (!(decide ((lg_cmp wd 0) = 0))))), (1, .int 1), (0, .ref 0)] [.long w3, .int (μ.1 42 4), .ref 42] _
                  refine z_rcs0 hc hH 2 (pc' := 116) (lv' := [(5, .int 3), (4, .int 1000), (3, .int 3000), (2, .int (nB (!(decide ((lg_cmp wd 0) = 0))))), (1, .int 1), (0, .ref 0)]) (st' := [.int (lg_cmp w3 0), .int (μ.1 42 4), .ref 42]) (by rfl) ?_
                  refine zq_if hc hH (by rfl) (tg := 123) (by rfl) (fun h9 => ?_) (fun h9 => ?_)
                  · have h9 : (decide ((lg_cmp w3 0) = 0)) = true := decide_eq_true (cm_eq9.mp h9)
                    exact absurd (Eq.trans (Eq.symm (hb3)) h9) (by decide)
                  · have h9 : (decide ((lg_cmp w3 0) = 0)) = false := decide_eq_false (cn_eq.mp h9)
                    refine z_rcs0 hc hH 3 (pc' := 127) (lv' := [(5, .int 3), (4, .int 1000), (3, .int 3000), (2, .int (nB (!(decide ((lg_cmp wd 0) = 0))))), (1, .int 1), (0, .ref 0)]) (st' := [.int ((μ.1 42 4) + 3000), .ref 42]) (by rfl) ?_
                    refine zq_pfi hc hH (by rfl) (ci := 1) (f := 4) (by rfl) (by decide +kernel) (by rfl) ?_
                    show Z 0 130 [(5, .int 3), (4, .int 1000), (3, .int 3000), (2, .int (nB (!(decide ((lg_cmp wd 0) = 0))))), (1, .int 1), (0, .ref 0)] [] (z_ui (z_ui (z_ui (z_ui μ 18 4 ((μ.1 18 4) + (-1000))) 26 4 ((μ.1 26 4) + (-1000))) 34 4 ((μ.1 34 4) + (-1000))) 42 4 ((μ.1 42 4) + 3000))
                    refine z_rcs0 hc hH 8 (pc' := 139) (lv' := [(5, .int 4), (4, .int 1000), (3, .int 3000), (2, .int (nB (!(decide ((lg_cmp wd 0) = 0))))), (1, .int 1), (0, .ref 0)]) (st' := [.int 0, .int (nB (!(decide ((lg_cmp wd 0) = 0)))), .ref 0]) (by rfl) ?_
                    refine zq_call hc (z_cx_ok hH (by rfl)) (gc_endHandB d' (by omega) (z_ui (z_ui (z_ui (z_ui μ 18 4 ((μ.1 18 4) + (-1000))) 26 4 ((μ.1 26 4) + (-1000))) 34 4 ((μ.1 34 4) + (-1000))) 42 4 ((μ.1 42 4) + 3000)) (!(decide ((lg_cmp wd 0) = 0))) false dl e (by rw [ui_o (by first | decide | omega), ui_o (by first | decide | omega), ui_o (by first | decide | omega), ui_o (by first | decide | omega)]; exact hdl) hdl4 he) (by decide +kernel) (fun r9 μ9 hq => ?_)
                    obtain ⟨rfl, rfl⟩ := hq
                    show Z 0 142 [(5, .int 4), (4, .int 1000), (3, .int 3000), (2, .int (nB (!(decide ((lg_cmp wd 0) = 0))))), (1, .int 1), (0, .ref 0)] [] (eHB (z_ui (z_ui (z_ui (z_ui μ 18 4 ((μ.1 18 4) + (-1000))) 26 4 ((μ.1 26 4) + (-1000))) 34 4 ((μ.1 34 4) + (-1000))) 42 4 ((μ.1 42 4) + 3000)) (!(decide ((lg_cmp wd 0) = 0))) false (xBk (z_ui (z_ui (z_ui (z_ui μ 18 4 ((μ.1 18 4) + (-1000))) 26 4 ((μ.1 26 4) + (-1000))) 34 4 ((μ.1 34 4) + (-1000))) 42 4 ((μ.1 42 4) + 3000))) dl e (rcM (z_ui (z_ui (z_ui (z_ui μ 18 4 ((μ.1 18 4) + (-1000))) 26 4 ((μ.1 26 4) + (-1000))) 34 4 ((μ.1 34 4) + (-1000))) 42 4 ((μ.1 42 4) + 3000))))
                    exact hr 0 142 _ _ _ none (by decide +kernel) (by rfl) (⟨rfl, rfl⟩)
                · have h8 : (decide ((lg_cmp w2 0) = 0)) = false := decide_eq_false (cn_eq.mp h8)
                  exact absurd (Eq.trans (Eq.symm (hb2)) h8) (by decide)
              · have h7 : (decide ((lg_cmp w1 0) = 0)) = false := decide_eq_false (cn_eq.mp h7)
                exact absurd (Eq.trans (Eq.symm (hb1)) h7) (by decide)
            · have h6 : (decide ((lg_cmp w0 0) = 0)) = false := decide_eq_false (cn_eq.mp h6)
              exact absurd (Eq.trans (Eq.symm (hb0)) h6) (by decide)
          refine zq_if hc hH (by rfl) (tg := 57) (by rfl) (fun h10 => ?_) (fun h10 => ?_)
          · have h10 : (decide ((lg_cmp wd 0) = 0)) = true := decide_eq_true (cm_eq9.mp h10)
            refine z_rcs hc hH 1 (pc' := 58) (lv' := [(2, .int 4), (1, .int 1), (0, .ref 0)]) (st' := [.int 0]) (μ' := μ) (by rfl) ?_
            exact zJ hJ5 rfl (by first | with_reducible rfl | (simp only [h10, lb_f, Int64.or_zero, Int32.add_zero, nB_t, nB_f, Bool.not_true, Bool.not_false, Bool.and_true, Bool.true_and, Bool.false_and, Bool.and_false, Bool.or_true, Bool.true_or, Bool.false_or, Bool.or_false, cond_true, cond_false]; done) | rfl) rfl
          · have h10 : (decide ((lg_cmp wd 0) = 0)) = false := decide_eq_false (cn_eq.mp h10)
            refine z_rcs hc hH 2 (pc' := 58) (lv' := [(2, .int 4), (1, .int 1), (0, .ref 0)]) (st' := [.int 1]) (μ' := μ) (by rfl) ?_
            exact zJ hJ5 rfl (by first | with_reducible rfl | (simp only [h10, lb_f, Int64.or_zero, Int32.add_zero, nB_t, nB_f, Bool.not_true, Bool.not_false, Bool.and_true, Bool.true_and, Bool.false_and, Bool.and_false, Bool.or_true, Bool.true_or, Bool.false_or, Bool.or_false, cond_true, cond_false]; done) | rfl) rfl
      · have h3 : (decide ((lg_cmp w2 0) = 0)) = false := decide_eq_false (cn_eq.mp h3)
        exact absurd (Eq.trans (Eq.symm (hb2)) h3) (by decide)
    · have h2 : (decide ((lg_cmp w1 0) = 0)) = false := decide_eq_false (cn_eq.mp h2)
      exact absurd (Eq.trans (Eq.symm (hb1)) h2) (by decide)
  · have h1 : (decide ((lg_cmp w0 0) = 0)) = false := decide_eq_false (cn_eq.mp h1)
    exact absurd (Eq.trans (Eq.symm (hb0)) h1) (by decide)
theorem gc_endUnwon0010 (d : Nat) (hd : 8 ≤ d) (μ : zM) (dl e : Nat) (hdl : μ.1 0 9 = nI dl) (hdl4 : dl < 4) (he : (dl + 1) % 4 = e) (w0 : Int64) (hw0 : ∀ μ1, TE μ μ1 → ∀ d, 7 ≤ d → z_C d mi_X3_waiting [.ref 19] μ1 (zR μ1 (.long w0))) (w1 : Int64) (hw1 : ∀ μ1, TE μ μ1 → ∀ d, 7 ≤ d → z_C d mi_X3_waiting [.ref 27] μ1 (zR μ1 (.long w1))) (w2 : Int64) (hw2 : ∀ μ1, TE μ μ1 → ∀ d, 7 ≤ d → z_C d mi_X3_waiting [.ref 35] μ1 (zR μ1 (.long w2))) (w3 : Int64) (hw3 : ∀ μ1, TE μ μ1 → ∀ d, 7 ≤ d → z_C d mi_X3_waiting [.ref 43] μ1 (zR μ1 (.long w3))) (wd : Int64) (hwd : ∀ μ1, TE μ μ1 → ∀ d, 7 ≤ d → z_C d mi_X3_waiting [.ref (19 + 8 * dl)] μ1 (zR μ1 (.long wd))) (hb0 : decide (lg_cmp w0 0 = 0) = true) (hb1 : decide (lg_cmp w1 0 = 0) = true) (hb2 : decide (lg_cmp w2 0 = 0) = false) (hb3 : decide (lg_cmp w3 0 = 0) = true) : z_C d mi_X6_endUnwon [.ref 0] μ (fun r μ' => r = none ∧ μ' = eHB (z_ui (z_ui (z_ui (z_ui μ 18 4 ((μ.1 18 4) + (-1000))) 26 4 ((μ.1 26 4) + (-1000))) 34 4 ((μ.1 34 4) + 3000)) 42 4 ((μ.1 42 4) + (-1000))) (!(decide ((lg_cmp wd 0) = 0))) false (xBk (z_ui (z_ui (z_ui (z_ui μ 18 4 ((μ.1 18 4) + (-1000))) 26 4 ((μ.1 26 4) + (-1000))) 34 4 ((μ.1 34 4) + 3000)) 42 4 ((μ.1 42 4) + (-1000)))) dl e (rcM (z_ui (z_ui (z_ui (z_ui μ 18 4 ((μ.1 18 4) + (-1000))) 26 4 ((μ.1 26 4) + (-1000))) 34 4 ((μ.1 34 4) + 3000)) 42 4 ((μ.1 42 4) + (-1000))))) := by
  refine z_C_in (by decide) (by omega) (fun d' Z ed hc hr => ?_)
  have hH : zH mi_X6_endUnwon zt_X6_endUnwon 79 6 6 := hh_X6_endUnwon
  refine z_rcs hc hH 9 (pc' := 11) (lv' := [(2, .int 0), (1, .int 0), (0, .ref 0)]) (st' := [.int 0, .ref 0]) (μ' := μ) (by rfl) ?_
  refine zq_call hc (z_cx_ok hH (by rfl)) (gc_at d' (by omega) μ 0 (by decide)) (by decide +kernel) (fun r9 μ9 hq => ?_)
  obtain ⟨hμ9, rfl⟩ := hq
  rw [hμ9]
  clear hμ9 μ9
  show Z 0 14 [(2, .int 0), (1, .int 0), (0, .ref 0)] [.ref 18] μ
  refine zq_gfr hc hH (by rfl) (ci := 1) (f := 0) (q := 19) (by rfl) (by decide +kernel) (by rfl) (by decide +kernel) ?_
  refine zq_call hc (z_cx_ok hH (by rfl)) (hw0 _ (TE_rf _) d' (by omega)) (by decide +kernel) (fun r9 μ9 hq => ?_)
  obtain ⟨hμ9, rfl⟩ := hq
  rw [hμ9]
  clear hμ9 μ9
  show Z 0 20 [(2, .int 0), (1, .int 0), (0, .ref 0)] [.long w0] μ
  refine z_rcs hc hH 2 (pc' := 22) (lv' := [(2, .int 0), (1, .int 0), (0, .ref 0)]) (st' := [.int (lg_cmp w0 0)]) (μ' := μ) (by rfl) ?_
  refine zq_if hc hH (by rfl) (tg := 28) (by rfl) (fun h1 => ?_) (fun h1 => ?_)
  · have h1 : (decide ((lg_cmp w0 0) = 0)) = true := decide_eq_true (cm_eq9.mp h1)
    refine z_rcs hc hH 7 (pc' := 11) (lv' := [(2, .int 1), (1, .int 0), (0, .ref 0)]) (st' := [.int 1, .ref 0]) (μ' := μ) (by rfl) ?_
    refine zq_call hc (z_cx_ok hH (by rfl)) (gc_at d' (by omega) μ 1 (by decide)) (by decide +kernel) (fun r9 μ9 hq => ?_)
    obtain ⟨hμ9, rfl⟩ := hq
    rw [hμ9]
    clear hμ9 μ9
    show Z 0 14 [(2, .int 1), (1, .int 0), (0, .ref 0)] [.ref 26] μ
    refine zq_gfr hc hH (by rfl) (ci := 1) (f := 0) (q := 27) (by rfl) (by decide +kernel) (by rfl) (by decide +kernel) ?_
    refine zq_call hc (z_cx_ok hH (by rfl)) (hw1 _ (TE_rf _) d' (by omega)) (by decide +kernel) (fun r9 μ9 hq => ?_)
    obtain ⟨hμ9, rfl⟩ := hq
    rw [hμ9]
    clear hμ9 μ9
    show Z 0 20 [(2, .int 1), (1, .int 0), (0, .ref 0)] [.long w1] μ
    refine z_rcs hc hH 2 (pc' := 22) (lv' := [(2, .int 1), (1, .int 0), (0, .ref 0)]) (st' := [.int (lg_cmp w1 0)]) (μ' := μ) (by rfl) ?_
    refine zq_if hc hH (by rfl) (tg := 28) (by rfl) (fun h2 => ?_) (fun h2 => ?_)
    · have h2 : (decide ((lg_cmp w1 0) = 0)) = true := decide_eq_true (cm_eq9.mp h2)
      refine z_rcs hc hH 7 (pc' := 11) (lv' := [(2, .int 2), (1, .int 0), (0, .ref 0)]) (st' := [.int 2, .ref 0]) (μ' := μ) (by rfl) ?_
      refine zq_call hc (z_cx_ok hH (by rfl)) (gc_at d' (by omega) μ 2 (by decide)) (by decide +kernel) (fun r9 μ9 hq => ?_)
      obtain ⟨hμ9, rfl⟩ := hq
      rw [hμ9]
      clear hμ9 μ9
      show Z 0 14 [(2, .int 2), (1, .int 0), (0, .ref 0)] [.ref 34] μ
      refine zq_gfr hc hH (by rfl) (ci := 1) (f := 0) (q := 35) (by rfl) (by decide +kernel) (by rfl) (by decide +kernel) ?_
      refine zq_call hc (z_cx_ok hH (by rfl)) (hw2 _ (TE_rf _) d' (by omega)) (by decide +kernel) (fun r9 μ9 hq => ?_)
      obtain ⟨hμ9, rfl⟩ := hq
      rw [hμ9]
      clear hμ9 μ9
      show Z 0 20 [(2, .int 2), (1, .int 0), (0, .ref 0)] [.long w2] μ
      refine z_rcs hc hH 2 (pc' := 22) (lv' := [(2, .int 2), (1, .int 0), (0, .ref 0)]) (st' := [.int (lg_cmp w2 0)]) (μ' := μ) (by rfl) ?_
      refine zq_if hc hH (by rfl) (tg := 28) (by rfl) (fun h3 => ?_) (fun h3 => ?_)
      · have h3 : (decide ((lg_cmp w2 0) = 0)) = true := decide_eq_true (cm_eq9.mp h3)
        exact absurd (Eq.trans (Eq.symm (hb2)) h3) (by decide)
      · have h3 : (decide ((lg_cmp w2 0) = 0)) = false := decide_eq_false (cn_eq.mp h3)
        refine z_rcs hc hH 8 (pc' := 11) (lv' := [(2, .int 3), (1, .int 1), (0, .ref 0)]) (st' := [.int 3, .ref 0]) (μ' := μ) (by rfl) ?_
        refine zq_call hc (z_cx_ok hH (by rfl)) (gc_at d' (by omega) μ 3 (by decide)) (by decide +kernel) (fun r9 μ9 hq => ?_)
        obtain ⟨hμ9, rfl⟩ := hq
        rw [hμ9]
        clear hμ9 μ9
        show Z 0 14 [(2, .int 3), (1, .int 1), (0, .ref 0)] [.ref 42] μ
        refine zq_gfr hc hH (by rfl) (ci := 1) (f := 0) (q := 43) (by rfl) (by decide +kernel) (by rfl) (by decide +kernel) ?_
        refine zq_call hc (z_cx_ok hH (by rfl)) (hw3 _ (TE_rf _) d' (by omega)) (by decide +kernel) (fun r9 μ9 hq => ?_)
        obtain ⟨hμ9, rfl⟩ := hq
        rw [hμ9]
        clear hμ9 μ9
        show Z 0 20 [(2, .int 3), (1, .int 1), (0, .ref 0)] [.long w3] μ
        refine z_rcs hc hH 2 (pc' := 22) (lv' := [(2, .int 3), (1, .int 1), (0, .ref 0)]) (st' := [.int (lg_cmp w3 0)]) (μ' := μ) (by rfl) ?_
        refine zq_if hc hH (by rfl) (tg := 28) (by rfl) (fun h4 => ?_) (fun h4 => ?_)
        · have h4 : (decide ((lg_cmp w3 0) = 0)) = true := decide_eq_true (cm_eq9.mp h4)
          refine z_rcs hc hH 7 (pc' := 36) (lv' := [(2, .int 4), (1, .int 1), (0, .ref 0)]) (st' := [.ref 0, .ref 0]) (μ' := μ) (by rfl) ?_
          refine zq_gfi hc hH (by rfl) (ci := 5) (f := 9) (by rfl) (by decide +kernel) (by rfl) ?_
          rw [hdl]
          refine zq_call hc (z_cx_ok hH (by rfl)) (gc_at4 d' (by omega) μ dl hdl4) (by decide +kernel) (fun r9 μ9 hq => ?_)
          obtain ⟨hμ9, rfl⟩ := hq
          rw [hμ9]
          clear hμ9 μ9
          show Z 0 42 [(2, .int 4), (1, .int 1), (0, .ref 0)] [.ref (18 + 8 * dl)] μ
          refine zq_gfr hc hH (by rfl) (ci := 1) (f := 0) (q := 19 + 8 * dl) (by rfl) (sj (P := fun i => okf 79 1 0 (18 + 8 * i)) hdl4 (by decide +kernel)) (by rfl) (sj (P := fun i => Nat.beq (z_gr (18 + 8 * i) 0) (19 + 8 * i)) hdl4 (by decide +kernel)) ?_
          refine zq_call hc (z_clv9 hH (by rfl) (by rfl) (by rfl) (by rfl) (sj (P := fun i => okr 79 2 (19 + 8 * i)) hdl4 (by decide +kernel)) (by rfl) (by rfl)) ((hwd _ (TE_rf _) d' (by omega))) (by decide +kernel) (fun r9 μ9 hq => ?_)
          obtain ⟨hμ9, rfl⟩ := hq
          rw [hμ9]
          clear hμ9 μ9
          show Z 0 48 [(2, .int 4), (1, .int 1), (0, .ref 0)] [.long wd] μ
          refine z_rcs hc hH 2 (pc' := 50) (lv' := [(2, .int 4), (1, .int 1), (0, .ref 0)]) (st' := [.int (lg_cmp wd 0)]) (μ' := μ) (by rfl) ?_
          have hJ5 : Z 0 58 [(2, .int 4), (1, .int 1), (0, .ref 0)] [.int (nB (!(decide ((lg_cmp wd 0) = 0))))] μ := by
            refine z_rcs hc hH 23 (pc' := 95) (lv' := [(5, .int 0), (4, .int 1000), (3, .int 3000), (2, .int (nB (!(decide ((lg_cmp wd 0) = 0))))), (1, .int 1), (0, .ref 0)]) (st' := [.int 0, .ref 0]) (μ' := μ) (by rfl) ?_
            refine zq_call hc (z_cx_ok hH (by rfl)) (gc_at d' (by omega) μ 0 (by decide)) (by decide +kernel) (fun r9 μ9 hq => ?_)
            obtain ⟨hμ9, rfl⟩ := hq
            rw [hμ9]
            clear hμ9 μ9
            show Z 0 98 [(5, .int 0), (4, .int 1000), (3, .int 3000), (2, .int (nB (!(decide ((lg_cmp wd 0) = 0))))), (1, .int 1), (0, .ref 0)] [.ref 18] μ
            refine z_rcs hc hH 1 (pc' := 99) (lv' := [(5, .int 0), (4, .int 1000), (3, .int 3000), (2, .int (nB (!(decide ((lg_cmp wd 0) = 0))))), (1, .int 1), (0, .ref 0)]) (st' := [.ref 18, .ref 18]) (μ' := μ) (by rfl) ?_
            refine zq_gfi hc hH (by rfl) (ci := 1) (f := 4) (by rfl) (by decide +kernel) (by rfl) ?_
            refine z_rcs hc hH 2 (pc' := 105) (lv' := [(5, .int 0), (4, .int 1000), (3, .int 3000), (2, .int (nB (!(decide ((lg_cmp wd 0) = 0))))), (1, .int 1), (0, .ref 0)]) (st' := [.int 0, .ref 0, .int (μ.1 18 4), .ref 18]) (μ' := μ) (by rfl) ?_
            refine zq_call hc (z_cx_ok hH (by rfl)) (gc_at d' (by omega) μ 0 (by decide)) (by decide +kernel) (fun r9 μ9 hq => ?_)
            obtain ⟨hμ9, rfl⟩ := hq
            rw [hμ9]
            clear hμ9 μ9
            show Z 0 108 [(5, .int 0), (4, .int 1000), (3, .int 3000), (2, .int (nB (!(decide ((lg_cmp wd 0) = 0))))), (1, .int 1), (0, .ref 0)] [.ref 18, .int (μ.1 18 4), .ref 18] μ
            refine zq_gfr hc hH (by rfl) (ci := 1) (f := 0) (q := 19) (by rfl) (by decide +kernel) (by rfl) (by decide +kernel) ?_
            refine zq_call hc (z_cx_ok hH (by rfl)) (hw0 _ (TE_rf _) d' (by omega)) (by decide +kernel) (fun r9 μ9 hq => ?_)
            obtain ⟨hμ9, rfl⟩ := hq
            rw [hμ9]
            clear hμ9 μ9
            show Z 0 114 [(5, .int 0), (4, .int 1000), (3, .int 3000), (2, .int (nB (!(decide ((lg_cmp wd 0) = 0))))), (1, .int 1), (0, .ref 0)] [.long w0, .int (μ.1 18 4), .ref 18] μ
            refine z_rcs hc hH 2 (pc' := 116) (lv' := [(5, .int 0), (4, .int 1000), (3, .int 3000), (2, .int (nB (!(decide ((lg_cmp wd 0) = 0))))), (1, .int 1), (0, .ref 0)]) (st' := [.int (lg_cmp w0 0), .int (μ.1 18 4), .ref 18]) (μ' := μ) (by rfl) ?_
            refine zq_if hc hH (by rfl) (tg := 123) (by rfl) (fun h6 => ?_) (fun h6 => ?_)
            · have h6 : (decide ((lg_cmp w0 0) = 0)) = true := decide_eq_true (cm_eq9.mp h6)
              refine z_rcs hc hH 3 (pc' := 127) (lv' := [(5, .int 0), (4, .int 1000), (3, .int 3000), (2, .int (nB (!(decide ((lg_cmp wd 0) = 0))))), (1, .int 1), (0, .ref 0)]) (st' := [.int ((μ.1 18 4) + (-1000)), .ref 18]) (μ' := μ) (by rfl) ?_
              refine zq_pfi hc hH (by rfl) (ci := 1) (f := 4) (by rfl) (by decide +kernel) (by rfl) ?_
              show Z 0 130 [(5, .int 0), (4, .int 1000), (3, .int 3000), (2, .int (nB (!(decide ((lg_cmp wd 0) = 0))))), (1, .int 1), (0, .ref 0)] [] (z_ui μ 18 4 ((μ.1 18 4) + (-1000)))
              refine z_rcs0 hc hH 7 (pc' := 95) (lv' := [(5, .int 1), (4, .int 1000), (3, .int 3000), (2, .int (nB (!(decide ((lg_cmp wd 0) = 0))))), (1, .int 1), (0, .ref 0)]) (st' := [.int 1, .ref 0]) (by rfl) ?_
              refine zq_call hc (z_cx_ok hH (by rfl)) (gc_at d' (by omega) (z_ui μ 18 4 ((μ.1 18 4) + (-1000))) 1 (by decide)) (by decide +kernel) (fun r9 μ9 hq => ?_)
              obtain ⟨hμ9, rfl⟩ := hq
              rw [hμ9]
              clear hμ9 μ9
              show Z 0 98 [(5, .int 1), (4, .int 1000), (3, .int 3000), (2, .int (nB (!(decide ((lg_cmp wd 0) = 0))))), (1, .int 1), (0, .ref 0)] [.ref 26] _
              refine z_rcs0 hc hH 1 (pc' := 99) (lv' := [(5, .int 1), (4, .int 1000), (3, .int 3000), (2, .int (nB (!(decide ((lg_cmp wd 0) = 0))))), (1, .int 1), (0, .ref 0)]) (st' := [.ref 26, .ref 26]) (by rfl) ?_
              refine zq_gfi hc hH (by rfl) (ci := 1) (f := 4) (by rfl) (by decide +kernel) (by rfl) ?_
              refine zV1 (Z := Z) (ui_o (by first | decide | omega)) ?_
              refine z_rcs0 hc hH 2 (pc' := 105) (lv' := [(5, .int 1), (4, .int 1000), (3, .int 3000), (2, .int (nB (!(decide ((lg_cmp wd 0) = 0))))), (1, .int 1), (0, .ref 0)]) (st' := [.int 1, .ref 0, .int (μ.1 26 4), .ref 26]) (by rfl) ?_
              refine zq_call hc (z_cx_ok hH (by rfl)) (gc_at d' (by omega) (z_ui μ 18 4 ((μ.1 18 4) + (-1000))) 1 (by decide)) (by decide +kernel) (fun r9 μ9 hq => ?_)
              obtain ⟨hμ9, rfl⟩ := hq
              rw [hμ9]
              clear hμ9 μ9
              show Z 0 108 [(5, .int 1), (4, .int 1000), (3, .int 3000), (2, .int (nB (!(decide ((lg_cmp wd 0) = 0))))), (1, .int 1), (0, .ref 0)] [.ref 26, .int (μ.1 26 4), .ref 26] _
              refine zq_gfr hc hH (by rfl) (ci := 1) (f := 0) (q := 27) (by rfl) (by decide +kernel) (by rfl) (by decide +kernel) ?_
              refine zq_call hc (z_cx_ok hH (by rfl)) (hw1 _ (TE_ui (TE_rf _) (by intro i a hi h1 h2; omega)) d' (by omega)) (by decide +kernel) (fun r9 μ9 hq => ?_)
              obtain ⟨hμ9, rfl⟩ := hq
              rw [hμ9]
              clear hμ9 μ9
              show Z 0 114 [(5, .int 1), (4, .int 1000), (3, .int 3000), (2, .int (nB (!(decide ((lg_cmp wd 0) = 0))))), (1, .int 1), (0, .ref 0)] [.long w1, .int (μ.1 26 4), .ref 26] _
              refine z_rcs0 hc hH 2 (pc' := 116) (lv' := [(5, .int 1), (4, .int 1000), (3, .int 3000), (2, .int (nB (!(decide ((lg_cmp wd 0) = 0))))), (1, .int 1), (0, .ref 0)]) (st' := [.int (lg_cmp w1 0), .int (μ.1 26 4), .ref 26]) (by rfl) ?_
              refine zq_if hc hH (by rfl) (tg := 123) (by rfl) (fun h7 => ?_) (fun h7 => ?_)
              · have h7 : (decide ((lg_cmp w1 0) = 0)) = true := decide_eq_true (cm_eq9.mp h7)
                refine z_rcs0 hc hH 3 (pc' := 127) (lv' := [(5, .int 1), (4, .int 1000), (3, .int 3000), (2, .int (nB (!(decide ((lg_cmp wd 0) = 0))))), (1, .int 1), (0, .ref 0)]) (st' := [.int ((μ.1 26 4) + (-1000)), .ref 26]) (by rfl) ?_
                refine zq_pfi hc hH (by rfl) (ci := 1) (f := 4) (by rfl) (by decide +kernel) (by rfl) ?_
                show Z 0 130 [(5, .int 1), (4, .int 1000), (3, .int 3000), (2, .int (nB (!(decide ((lg_cmp wd 0) = 0))))), (1, .int 1), (0, .ref 0)] [] (z_ui (z_ui μ 18 4 ((μ.1 18 4) + (-1000))) 26 4 ((μ.1 26 4) + (-1000)))
                refine z_rcs0 hc hH 7 (pc' := 95) (lv' := [(5, .int 2), (4, .int 1000), (3, .int 3000), (2, .int (nB (!(decide ((lg_cmp wd 0) = 0))))), (1, .int 1), (0, .ref 0)]) (st' := [.int 2, .ref 0]) (by rfl) ?_
                refine zq_call hc (z_cx_ok hH (by rfl)) (gc_at d' (by omega) (z_ui (z_ui μ 18 4 ((μ.1 18 4) + (-1000))) 26 4 ((μ.1 26 4) + (-1000))) 2 (by decide)) (by decide +kernel) (fun r9 μ9 hq => ?_)
                obtain ⟨hμ9, rfl⟩ := hq
                rw [hμ9]
                clear hμ9 μ9
                show Z 0 98 [(5, .int 2), (4, .int 1000), (3, .int 3000), (2, .int (nB (!(decide ((lg_cmp wd 0) = 0))))), (1, .int 1), (0, .ref 0)] [.ref 34] _
                refine z_rcs0 hc hH 1 (pc' := 99) (lv' := [(5, .int 2), (4, .int 1000), (3, .int 3000), (2, .int (nB (!(decide ((lg_cmp wd 0) = 0))))), (1, .int 1), (0, .ref 0)]) (st' := [.ref 34, .ref 34]) (by rfl) ?_
                refine zq_gfi hc hH (by rfl) (ci := 1) (f := 4) (by rfl) (by decide +kernel) (by rfl) ?_
                refine zV1 (Z := Z) (Eq.trans (ui_o (by first | decide | omega)) (ui_o (by first | decide | omega))) ?_
                refine z_rcs0 hc hH 2 (pc' := 105) (lv' := [(5, .int 2), (4, .int 1000), (3, .int 3000), (2, .int (nB (!(decide ((lg_cmp wd 0) = 0))))), (1, .int 1), (0, .ref 0)]) (st' := [.int 2, .ref 0, .int (μ.1 34 4), .ref 34]) (by rfl) ?_
                refine zq_call hc (z_cx_ok hH (by rfl)) (gc_at d' (by omega) (z_ui (z_ui μ 18 4 ((μ.1 18 4) + (-1000))) 26 4 ((μ.1 26 4) + (-1000))) 2 (by decide)) (by decide +kernel) (fun r9 μ9 hq => ?_)
                obtain ⟨hμ9, rfl⟩ := hq
                rw [hμ9]
                clear hμ9 μ9
                show Z 0 108 [(5, .int 2), (4, .int 1000), (3, .int 3000), (2, .int (nB (!(decide ((lg_cmp wd 0) = 0))))), (1, .int 1), (0, .ref 0)] [.ref 34, .int (μ.1 34 4), .ref 34] _
                refine zq_gfr hc hH (by rfl) (ci := 1) (f := 0) (q := 35) (by rfl) (by decide +kernel) (by rfl) (by decide +kernel) ?_
                refine zq_call hc (z_cx_ok hH (by rfl)) (hw2 _ (TE_ui (TE_ui (TE_rf _) (by intro i a hi h1 h2; omega)) (by intro i a hi h1 h2; omega)) d' (by omega)) (by decide +kernel) (fun r9 μ9 hq => ?_)
                obtain ⟨hμ9, rfl⟩ := hq
                rw [hμ9]
                clear hμ9 μ9
                show Z 0 114 [(5, .int 2), (4, .int 1000), (3, .int 3000), (2, .int (nB (!(decide ((lg_cmp wd 0) = 0))))), (1, .int 1), (0, .ref 0)] [.long w2, .int (μ.1 34 4), .ref 34] _
                refine z_rcs0 hc hH 2 (pc' := 116) (lv' := [(5, .int 2), (4, .int 1000), (3, .int 3000), (2, .int (nB (!(decide ((lg_cmp wd 0) = 0))))), (1, .int 1), (0, .ref 0)]) (st' := [.int (lg_cmp w2 0), .int (μ.1 34 4), .ref 34]) (by rfl) ?_
                refine zq_if hc hH (by rfl) (tg := 123) (by rfl) (fun h8 => ?_) (fun h8 => ?_)
                · have h8 : (decide ((lg_cmp w2 0) = 0)) = true := decide_eq_true (cm_eq9.mp h8)
                  exact absurd (Eq.trans (Eq.symm (hb2)) h8) (by decide)
                · have h8 : (decide ((lg_cmp w2 0) = 0)) = false := decide_eq_false (cn_eq.mp h8)
                  refine z_rcs0 hc hH 3 (pc' := 127) (lv' := [(5, .int 2), (4, .int 1000), (3, .int 3000), (2, .int (nB (!(decide ((lg_cmp wd 0) = 0))))), (1, .int 1), (0, .ref 0)]) (st' := [.int ((μ.1 34 4) + 3000), .ref 34]) (by rfl) ?_
                  refine zq_pfi hc hH (by rfl) (ci := 1) (f := 4) (by rfl) (by decide +kernel) (by rfl) ?_
                  show Z 0 130 [(5, .int 2), (4, .int 1000), (3, .int 3000), (2, .int (nB (!(decide ((lg_cmp wd 0) = 0))))), (1, .int 1), (0, .ref 0)] [] (z_ui (z_ui (z_ui μ 18 4 ((μ.1 18 4) + (-1000))) 26 4 ((μ.1 26 4) + (-1000))) 34 4 ((μ.1 34 4) + 3000))
                  refine z_rcs0 hc hH 7 (pc' := 95) (lv' := [(5, .int 3), (4, .int 1000), (3, .int 3000), (2, .int (nB (!(decide ((lg_cmp wd 0) = 0))))), (1, .int 1), (0, .ref 0)]) (st' := [.int 3, .ref 0]) (by rfl) ?_
                  refine zq_call hc (z_cx_ok hH (by rfl)) (gc_at d' (by omega) (z_ui (z_ui (z_ui μ 18 4 ((μ.1 18 4) + (-1000))) 26 4 ((μ.1 26 4) + (-1000))) 34 4 ((μ.1 34 4) + 3000)) 3 (by decide)) (by decide +kernel) (fun r9 μ9 hq => ?_)
                  obtain ⟨hμ9, rfl⟩ := hq
                  rw [hμ9]
                  clear hμ9 μ9
                  show Z 0 98 [(5, .int 3), (4, .int 1000), (3, .int 3000), (2, .int (nB (!(decide ((lg_cmp wd 0) = 0))))), (1, .int 1), (0, .ref 0)] [.ref 42] _
                  refine z_rcs0 hc hH 1 (pc' := 99) (lv' := [(5, .int 3), (4, .int 1000), (3, .int 3000), (2, .int (nB (!(decide ((lg_cmp wd 0) = 0))))), (1, .int 1), (0, .ref 0)]) (st' := [.ref 42, .ref 42]) (by rfl) ?_
                  refine zq_gfi hc hH (by rfl) (ci := 1) (f := 4) (by rfl) (by decide +kernel) (by rfl) ?_
                  refine zV1 (Z := Z) (Eq.trans (ui_o (by first | decide | omega)) (Eq.trans (ui_o (by first | decide | omega)) (ui_o (by first | decide | omega)))) ?_
                  refine z_rcs0 hc hH 2 (pc' := 105) (lv' := [(5, .int 3), (4, .int 1000), (3, .int 3000), (2, .int (nB (!(decide ((lg_cmp wd 0) = 0))))), (1, .int 1), (0, .ref 0)]) (st' := [.int 3, .ref 0, .int (μ.1 42 4), .ref 42]) (by rfl) ?_
                  refine zq_call hc (z_cx_ok hH (by rfl)) (gc_at d' (by omega) (z_ui (z_ui (z_ui μ 18 4 ((μ.1 18 4) + (-1000))) 26 4 ((μ.1 26 4) + (-1000))) 34 4 ((μ.1 34 4) + 3000)) 3 (by decide)) (by decide +kernel) (fun r9 μ9 hq => ?_)
                  obtain ⟨hμ9, rfl⟩ := hq
                  rw [hμ9]
                  clear hμ9 μ9
                  show Z 0 108 [(5, .int 3), (4, .int 1000), (3, .int 3000), (2, .int (nB (!(decide ((lg_cmp wd 0) = 0))))), (1, .int 1), (0, .ref 0)] [.ref 42, .int (μ.1 42 4), .ref 42] _
                  refine zq_gfr hc hH (by rfl) (ci := 1) (f := 0) (q := 43) (by rfl) (by decide +kernel) (by rfl) (by decide +kernel) ?_
                  refine zq_call hc (z_cx_ok hH (by rfl)) (hw3 _ (TE_ui (TE_ui (TE_ui (TE_rf _) (by intro i a hi h1 h2; omega)) (by intro i a hi h1 h2; omega)) (by intro i a hi h1 h2; omega)) d' (by omega)) (by decide +kernel) (fun r9 μ9 hq => ?_)
                  obtain ⟨hμ9, rfl⟩ := hq
                  rw [hμ9]
                  clear hμ9 μ9
                  show Z 0 114 [(5, .int 3), (4, .int 1000), (3, .int 3000), (2, .int (nB (!(decide ((lg_cmp wd 0) = 0))))), (1, .int 1), (0, .ref 0)] [.long w3, .int (μ.1 42 4), .ref 42] _
                  refine z_rcs0 hc hH 2 (pc' := 116) (lv' := [(5, .int 3), (4, .int 1000), (3, .int 3000), (2, .int (nB (!(decide ((lg_cmp wd 0) = 0))))), (1, .int 1), (0, .ref 0)]) (st' := [.int (lg_cmp w3 0), .int (μ.1 42 4), .ref 42]) (by rfl) ?_
                  refine zq_if hc hH (by rfl) (tg := 123) (by rfl) (fun h9 => ?_) (fun h9 => ?_)
                  · have h9 : (decide ((lg_cmp w3 0) = 0)) = true := decide_eq_true (cm_eq9.mp h9)
                    refine z_rcs0 hc hH 3 (pc' := 127) (lv' := [(5, .int 3), (4, .int 1000), (3, .int 3000), (2, .int (nB (!(decide ((lg_cmp wd 0) = 0))))), (1, .int 1), (0, .ref 0)]) (st' := [.int ((μ.1 42 4) + (-1000)), .ref 42]) (by rfl) ?_
                    refine zq_pfi hc hH (by rfl) (ci := 1) (f := 4) (by rfl) (by decide +kernel) (by rfl) ?_
                    show Z 0 130 [(5, .int 3), (4, .int 1000), (3, .int 3000), (2, .int (nB (!(decide ((lg_cmp wd 0) = 0))))), (1, .int 1), (0, .ref 0)] [] (z_ui (z_ui (z_ui (z_ui μ 18 4 ((μ.1 18 4) + (-1000))) 26 4 ((μ.1 26 4) + (-1000))) 34 4 ((μ.1 34 4) + 3000)) 42 4 ((μ.1 42 4) + (-1000)))
                    refine z_rcs0 hc hH 8 (pc' := 139) (lv' := [(5, .int 4), (4, .int 1000), (3, .int 3000), (2, .int (nB (!(decide ((lg_cmp wd 0) = 0))))), (1, .int 1), (0, .ref 0)]) (st' := [.int 0, .int (nB (!(decide ((lg_cmp wd 0) = 0)))), .ref 0]) (by rfl) ?_
                    refine zq_call hc (z_cx_ok hH (by rfl)) (gc_endHandB d' (by omega) (z_ui (z_ui (z_ui (z_ui μ 18 4 ((μ.1 18 4) + (-1000))) 26 4 ((μ.1 26 4) + (-1000))) 34 4 ((μ.1 34 4) + 3000)) 42 4 ((μ.1 42 4) + (-1000))) (!(decide ((lg_cmp wd 0) = 0))) false dl e (by rw [ui_o (by first | decide | omega), ui_o (by first | decide | omega), ui_o (by first | decide | omega), ui_o (by first | decide | omega)]; exact hdl) hdl4 he) (by decide +kernel) (fun r9 μ9 hq => ?_)
                    obtain ⟨rfl, rfl⟩ := hq
                    show Z 0 142 [(5, .int 4), (4, .int 1000), (3, .int 3000), (2, .int (nB (!(decide ((lg_cmp wd 0) = 0))))), (1, .int 1), (0, .ref 0)] [] (eHB (z_ui (z_ui (z_ui (z_ui μ 18 4 ((μ.1 18 4) + (-1000))) 26 4 ((μ.1 26 4) + (-1000))) 34 4 ((μ.1 34 4) + 3000)) 42 4 ((μ.1 42 4) + (-1000))) (!(decide ((lg_cmp wd 0) = 0))) false (xBk (z_ui (z_ui (z_ui (z_ui μ 18 4 ((μ.1 18 4) + (-1000))) 26 4 ((μ.1 26 4) + (-1000))) 34 4 ((μ.1 34 4) + 3000)) 42 4 ((μ.1 42 4) + (-1000)))) dl e (rcM (z_ui (z_ui (z_ui (z_ui μ 18 4 ((μ.1 18 4) + (-1000))) 26 4 ((μ.1 26 4) + (-1000))) 34 4 ((μ.1 34 4) + 3000)) 42 4 ((μ.1 42 4) + (-1000)))))
                    exact hr 0 142 _ _ _ none (by decide +kernel) (by rfl) (⟨rfl, rfl⟩)
                  · have h9 : (decide ((lg_cmp w3 0) = 0)) = false := decide_eq_false (cn_eq.mp h9)
                    exact absurd (Eq.trans (Eq.symm (hb3)) h9) (by decide)
              · have h7 : (decide ((lg_cmp w1 0) = 0)) = false := decide_eq_false (cn_eq.mp h7)
                exact absurd (Eq.trans (Eq.symm (hb1)) h7) (by decide)
            · have h6 : (decide ((lg_cmp w0 0) = 0)) = false := decide_eq_false (cn_eq.mp h6)
              exact absurd (Eq.trans (Eq.symm (hb0)) h6) (by decide)
          refine zq_if hc hH (by rfl) (tg := 57) (by rfl) (fun h10 => ?_) (fun h10 => ?_)
          · have h10 : (decide ((lg_cmp wd 0) = 0)) = true := decide_eq_true (cm_eq9.mp h10)
            refine z_rcs hc hH 1 (pc' := 58) (lv' := [(2, .int 4), (1, .int 1), (0, .ref 0)]) (st' := [.int 0]) (μ' := μ) (by rfl) ?_
            exact zJ hJ5 rfl (by first | with_reducible rfl | (simp only [h10, lb_f, Int64.or_zero, Int32.add_zero, nB_t, nB_f, Bool.not_true, Bool.not_false, Bool.and_true, Bool.true_and, Bool.false_and, Bool.and_false, Bool.or_true, Bool.true_or, Bool.false_or, Bool.or_false, cond_true, cond_false]; done) | rfl) rfl
          · have h10 : (decide ((lg_cmp wd 0) = 0)) = false := decide_eq_false (cn_eq.mp h10)
            refine z_rcs hc hH 2 (pc' := 58) (lv' := [(2, .int 4), (1, .int 1), (0, .ref 0)]) (st' := [.int 1]) (μ' := μ) (by rfl) ?_
            exact zJ hJ5 rfl (by first | with_reducible rfl | (simp only [h10, lb_f, Int64.or_zero, Int32.add_zero, nB_t, nB_f, Bool.not_true, Bool.not_false, Bool.and_true, Bool.true_and, Bool.false_and, Bool.and_false, Bool.or_true, Bool.true_or, Bool.false_or, Bool.or_false, cond_true, cond_false]; done) | rfl) rfl
        · have h4 : (decide ((lg_cmp w3 0) = 0)) = false := decide_eq_false (cn_eq.mp h4)
          exact absurd (Eq.trans (Eq.symm (hb3)) h4) (by decide)
    · have h2 : (decide ((lg_cmp w1 0) = 0)) = false := decide_eq_false (cn_eq.mp h2)
      exact absurd (Eq.trans (Eq.symm (hb1)) h2) (by decide)
  · have h1 : (decide ((lg_cmp w0 0) = 0)) = false := decide_eq_false (cn_eq.mp h1)
    exact absurd (Eq.trans (Eq.symm (hb0)) h1) (by decide)
theorem gc_endUnwon0011 (d : Nat) (hd : 8 ≤ d) (μ : zM) (dl e : Nat) (hdl : μ.1 0 9 = nI dl) (hdl4 : dl < 4) (he : (dl + 1) % 4 = e) (w0 : Int64) (hw0 : ∀ μ1, TE μ μ1 → ∀ d, 7 ≤ d → z_C d mi_X3_waiting [.ref 19] μ1 (zR μ1 (.long w0))) (w1 : Int64) (hw1 : ∀ μ1, TE μ μ1 → ∀ d, 7 ≤ d → z_C d mi_X3_waiting [.ref 27] μ1 (zR μ1 (.long w1))) (w2 : Int64) (hw2 : ∀ μ1, TE μ μ1 → ∀ d, 7 ≤ d → z_C d mi_X3_waiting [.ref 35] μ1 (zR μ1 (.long w2))) (w3 : Int64) (hw3 : ∀ μ1, TE μ μ1 → ∀ d, 7 ≤ d → z_C d mi_X3_waiting [.ref 43] μ1 (zR μ1 (.long w3))) (wd : Int64) (hwd : ∀ μ1, TE μ μ1 → ∀ d, 7 ≤ d → z_C d mi_X3_waiting [.ref (19 + 8 * dl)] μ1 (zR μ1 (.long wd))) (hb0 : decide (lg_cmp w0 0 = 0) = true) (hb1 : decide (lg_cmp w1 0 = 0) = true) (hb2 : decide (lg_cmp w2 0 = 0) = false) (hb3 : decide (lg_cmp w3 0 = 0) = false) : z_C d mi_X6_endUnwon [.ref 0] μ (fun r μ' => r = none ∧ μ' = eHB (z_ui (z_ui (z_ui (z_ui μ 18 4 ((μ.1 18 4) + (-1500))) 26 4 ((μ.1 26 4) + (-1500))) 34 4 ((μ.1 34 4) + 1500)) 42 4 ((μ.1 42 4) + 1500)) (!(decide ((lg_cmp wd 0) = 0))) false (xBk (z_ui (z_ui (z_ui (z_ui μ 18 4 ((μ.1 18 4) + (-1500))) 26 4 ((μ.1 26 4) + (-1500))) 34 4 ((μ.1 34 4) + 1500)) 42 4 ((μ.1 42 4) + 1500))) dl e (rcM (z_ui (z_ui (z_ui (z_ui μ 18 4 ((μ.1 18 4) + (-1500))) 26 4 ((μ.1 26 4) + (-1500))) 34 4 ((μ.1 34 4) + 1500)) 42 4 ((μ.1 42 4) + 1500)))) := by
  refine z_C_in (by decide) (by omega) (fun d' Z ed hc hr => ?_)
  have hH : zH mi_X6_endUnwon zt_X6_endUnwon 79 6 6 := hh_X6_endUnwon
  refine z_rcs hc hH 9 (pc' := 11) (lv' := [(2, .int 0), (1, .int 0), (0, .ref 0)]) (st' := [.int 0, .ref 0]) (μ' := μ) (by rfl) ?_
  refine zq_call hc (z_cx_ok hH (by rfl)) (gc_at d' (by omega) μ 0 (by decide)) (by decide +kernel) (fun r9 μ9 hq => ?_)
  obtain ⟨hμ9, rfl⟩ := hq
  rw [hμ9]
  clear hμ9 μ9
  show Z 0 14 [(2, .int 0), (1, .int 0), (0, .ref 0)] [.ref 18] μ
  refine zq_gfr hc hH (by rfl) (ci := 1) (f := 0) (q := 19) (by rfl) (by decide +kernel) (by rfl) (by decide +kernel) ?_
  refine zq_call hc (z_cx_ok hH (by rfl)) (hw0 _ (TE_rf _) d' (by omega)) (by decide +kernel) (fun r9 μ9 hq => ?_)
  obtain ⟨hμ9, rfl⟩ := hq
  rw [hμ9]
  clear hμ9 μ9
  show Z 0 20 [(2, .int 0), (1, .int 0), (0, .ref 0)] [.long w0] μ
  refine z_rcs hc hH 2 (pc' := 22) (lv' := [(2, .int 0), (1, .int 0), (0, .ref 0)]) (st' := [.int (lg_cmp w0 0)]) (μ' := μ) (by rfl) ?_
  refine zq_if hc hH (by rfl) (tg := 28) (by rfl) (fun h1 => ?_) (fun h1 => ?_)
  · have h1 : (decide ((lg_cmp w0 0) = 0)) = true := decide_eq_true (cm_eq9.mp h1)
    refine z_rcs hc hH 7 (pc' := 11) (lv' := [(2, .int 1), (1, .int 0), (0, .ref 0)]) (st' := [.int 1, .ref 0]) (μ' := μ) (by rfl) ?_
    refine zq_call hc (z_cx_ok hH (by rfl)) (gc_at d' (by omega) μ 1 (by decide)) (by decide +kernel) (fun r9 μ9 hq => ?_)
    obtain ⟨hμ9, rfl⟩ := hq
    rw [hμ9]
    clear hμ9 μ9
    show Z 0 14 [(2, .int 1), (1, .int 0), (0, .ref 0)] [.ref 26] μ
    refine zq_gfr hc hH (by rfl) (ci := 1) (f := 0) (q := 27) (by rfl) (by decide +kernel) (by rfl) (by decide +kernel) ?_
    refine zq_call hc (z_cx_ok hH (by rfl)) (hw1 _ (TE_rf _) d' (by omega)) (by decide +kernel) (fun r9 μ9 hq => ?_)
    obtain ⟨hμ9, rfl⟩ := hq
    rw [hμ9]
    clear hμ9 μ9
    show Z 0 20 [(2, .int 1), (1, .int 0), (0, .ref 0)] [.long w1] μ
    refine z_rcs hc hH 2 (pc' := 22) (lv' := [(2, .int 1), (1, .int 0), (0, .ref 0)]) (st' := [.int (lg_cmp w1 0)]) (μ' := μ) (by rfl) ?_
    refine zq_if hc hH (by rfl) (tg := 28) (by rfl) (fun h2 => ?_) (fun h2 => ?_)
    · have h2 : (decide ((lg_cmp w1 0) = 0)) = true := decide_eq_true (cm_eq9.mp h2)
      refine z_rcs hc hH 7 (pc' := 11) (lv' := [(2, .int 2), (1, .int 0), (0, .ref 0)]) (st' := [.int 2, .ref 0]) (μ' := μ) (by rfl) ?_
      refine zq_call hc (z_cx_ok hH (by rfl)) (gc_at d' (by omega) μ 2 (by decide)) (by decide +kernel) (fun r9 μ9 hq => ?_)
      obtain ⟨hμ9, rfl⟩ := hq
      rw [hμ9]
      clear hμ9 μ9
      show Z 0 14 [(2, .int 2), (1, .int 0), (0, .ref 0)] [.ref 34] μ
      refine zq_gfr hc hH (by rfl) (ci := 1) (f := 0) (q := 35) (by rfl) (by decide +kernel) (by rfl) (by decide +kernel) ?_
      refine zq_call hc (z_cx_ok hH (by rfl)) (hw2 _ (TE_rf _) d' (by omega)) (by decide +kernel) (fun r9 μ9 hq => ?_)
      obtain ⟨hμ9, rfl⟩ := hq
      rw [hμ9]
      clear hμ9 μ9
      show Z 0 20 [(2, .int 2), (1, .int 0), (0, .ref 0)] [.long w2] μ
      refine z_rcs hc hH 2 (pc' := 22) (lv' := [(2, .int 2), (1, .int 0), (0, .ref 0)]) (st' := [.int (lg_cmp w2 0)]) (μ' := μ) (by rfl) ?_
      refine zq_if hc hH (by rfl) (tg := 28) (by rfl) (fun h3 => ?_) (fun h3 => ?_)
      · have h3 : (decide ((lg_cmp w2 0) = 0)) = true := decide_eq_true (cm_eq9.mp h3)
        exact absurd (Eq.trans (Eq.symm (hb2)) h3) (by decide)
      · have h3 : (decide ((lg_cmp w2 0) = 0)) = false := decide_eq_false (cn_eq.mp h3)
        refine z_rcs hc hH 8 (pc' := 11) (lv' := [(2, .int 3), (1, .int 1), (0, .ref 0)]) (st' := [.int 3, .ref 0]) (μ' := μ) (by rfl) ?_
        refine zq_call hc (z_cx_ok hH (by rfl)) (gc_at d' (by omega) μ 3 (by decide)) (by decide +kernel) (fun r9 μ9 hq => ?_)
        obtain ⟨hμ9, rfl⟩ := hq
        rw [hμ9]
        clear hμ9 μ9
        show Z 0 14 [(2, .int 3), (1, .int 1), (0, .ref 0)] [.ref 42] μ
        refine zq_gfr hc hH (by rfl) (ci := 1) (f := 0) (q := 43) (by rfl) (by decide +kernel) (by rfl) (by decide +kernel) ?_
        refine zq_call hc (z_cx_ok hH (by rfl)) (hw3 _ (TE_rf _) d' (by omega)) (by decide +kernel) (fun r9 μ9 hq => ?_)
        obtain ⟨hμ9, rfl⟩ := hq
        rw [hμ9]
        clear hμ9 μ9
        show Z 0 20 [(2, .int 3), (1, .int 1), (0, .ref 0)] [.long w3] μ
        refine z_rcs hc hH 2 (pc' := 22) (lv' := [(2, .int 3), (1, .int 1), (0, .ref 0)]) (st' := [.int (lg_cmp w3 0)]) (μ' := μ) (by rfl) ?_
        refine zq_if hc hH (by rfl) (tg := 28) (by rfl) (fun h4 => ?_) (fun h4 => ?_)
        · have h4 : (decide ((lg_cmp w3 0) = 0)) = true := decide_eq_true (cm_eq9.mp h4)
          exact absurd (Eq.trans (Eq.symm (hb3)) h4) (by decide)
        · have h4 : (decide ((lg_cmp w3 0) = 0)) = false := decide_eq_false (cn_eq.mp h4)
          refine z_rcs hc hH 8 (pc' := 36) (lv' := [(2, .int 4), (1, .int 2), (0, .ref 0)]) (st' := [.ref 0, .ref 0]) (μ' := μ) (by rfl) ?_
          refine zq_gfi hc hH (by rfl) (ci := 5) (f := 9) (by rfl) (by decide +kernel) (by rfl) ?_
          rw [hdl]
          refine zq_call hc (z_cx_ok hH (by rfl)) (gc_at4 d' (by omega) μ dl hdl4) (by decide +kernel) (fun r9 μ9 hq => ?_)
          obtain ⟨hμ9, rfl⟩ := hq
          rw [hμ9]
          clear hμ9 μ9
          show Z 0 42 [(2, .int 4), (1, .int 2), (0, .ref 0)] [.ref (18 + 8 * dl)] μ
          refine zq_gfr hc hH (by rfl) (ci := 1) (f := 0) (q := 19 + 8 * dl) (by rfl) (sj (P := fun i => okf 79 1 0 (18 + 8 * i)) hdl4 (by decide +kernel)) (by rfl) (sj (P := fun i => Nat.beq (z_gr (18 + 8 * i) 0) (19 + 8 * i)) hdl4 (by decide +kernel)) ?_
          refine zq_call hc (z_clv9 hH (by rfl) (by rfl) (by rfl) (by rfl) (sj (P := fun i => okr 79 2 (19 + 8 * i)) hdl4 (by decide +kernel)) (by rfl) (by rfl)) ((hwd _ (TE_rf _) d' (by omega))) (by decide +kernel) (fun r9 μ9 hq => ?_)
          obtain ⟨hμ9, rfl⟩ := hq
          rw [hμ9]
          clear hμ9 μ9
          show Z 0 48 [(2, .int 4), (1, .int 2), (0, .ref 0)] [.long wd] μ
          refine z_rcs hc hH 2 (pc' := 50) (lv' := [(2, .int 4), (1, .int 2), (0, .ref 0)]) (st' := [.int (lg_cmp wd 0)]) (μ' := μ) (by rfl) ?_
          have hJ5 : Z 0 58 [(2, .int 4), (1, .int 2), (0, .ref 0)] [.int (nB (!(decide ((lg_cmp wd 0) = 0))))] μ := by
            refine z_rcs hc hH 23 (pc' := 95) (lv' := [(5, .int 0), (4, .int 1500), (3, .int 1500), (2, .int (nB (!(decide ((lg_cmp wd 0) = 0))))), (1, .int 2), (0, .ref 0)]) (st' := [.int 0, .ref 0]) (μ' := μ) (by rfl) ?_
            refine zq_call hc (z_cx_ok hH (by rfl)) (gc_at d' (by omega) μ 0 (by decide)) (by decide +kernel) (fun r9 μ9 hq => ?_)
            obtain ⟨hμ9, rfl⟩ := hq
            rw [hμ9]
            clear hμ9 μ9
            show Z 0 98 [(5, .int 0), (4, .int 1500), (3, .int 1500), (2, .int (nB (!(decide ((lg_cmp wd 0) = 0))))), (1, .int 2), (0, .ref 0)] [.ref 18] μ
            refine z_rcs hc hH 1 (pc' := 99) (lv' := [(5, .int 0), (4, .int 1500), (3, .int 1500), (2, .int (nB (!(decide ((lg_cmp wd 0) = 0))))), (1, .int 2), (0, .ref 0)]) (st' := [.ref 18, .ref 18]) (μ' := μ) (by rfl) ?_
            refine zq_gfi hc hH (by rfl) (ci := 1) (f := 4) (by rfl) (by decide +kernel) (by rfl) ?_
            refine z_rcs hc hH 2 (pc' := 105) (lv' := [(5, .int 0), (4, .int 1500), (3, .int 1500), (2, .int (nB (!(decide ((lg_cmp wd 0) = 0))))), (1, .int 2), (0, .ref 0)]) (st' := [.int 0, .ref 0, .int (μ.1 18 4), .ref 18]) (μ' := μ) (by rfl) ?_
            refine zq_call hc (z_cx_ok hH (by rfl)) (gc_at d' (by omega) μ 0 (by decide)) (by decide +kernel) (fun r9 μ9 hq => ?_)
            obtain ⟨hμ9, rfl⟩ := hq
            rw [hμ9]
            clear hμ9 μ9
            show Z 0 108 [(5, .int 0), (4, .int 1500), (3, .int 1500), (2, .int (nB (!(decide ((lg_cmp wd 0) = 0))))), (1, .int 2), (0, .ref 0)] [.ref 18, .int (μ.1 18 4), .ref 18] μ
            refine zq_gfr hc hH (by rfl) (ci := 1) (f := 0) (q := 19) (by rfl) (by decide +kernel) (by rfl) (by decide +kernel) ?_
            refine zq_call hc (z_cx_ok hH (by rfl)) (hw0 _ (TE_rf _) d' (by omega)) (by decide +kernel) (fun r9 μ9 hq => ?_)
            obtain ⟨hμ9, rfl⟩ := hq
            rw [hμ9]
            clear hμ9 μ9
            show Z 0 114 [(5, .int 0), (4, .int 1500), (3, .int 1500), (2, .int (nB (!(decide ((lg_cmp wd 0) = 0))))), (1, .int 2), (0, .ref 0)] [.long w0, .int (μ.1 18 4), .ref 18] μ
            refine z_rcs hc hH 2 (pc' := 116) (lv' := [(5, .int 0), (4, .int 1500), (3, .int 1500), (2, .int (nB (!(decide ((lg_cmp wd 0) = 0))))), (1, .int 2), (0, .ref 0)]) (st' := [.int (lg_cmp w0 0), .int (μ.1 18 4), .ref 18]) (μ' := μ) (by rfl) ?_
            refine zq_if hc hH (by rfl) (tg := 123) (by rfl) (fun h6 => ?_) (fun h6 => ?_)
            · have h6 : (decide ((lg_cmp w0 0) = 0)) = true := decide_eq_true (cm_eq9.mp h6)
              refine z_rcs hc hH 3 (pc' := 127) (lv' := [(5, .int 0), (4, .int 1500), (3, .int 1500), (2, .int (nB (!(decide ((lg_cmp wd 0) = 0))))), (1, .int 2), (0, .ref 0)]) (st' := [.int ((μ.1 18 4) + (-1500)), .ref 18]) (μ' := μ) (by rfl) ?_
              refine zq_pfi hc hH (by rfl) (ci := 1) (f := 4) (by rfl) (by decide +kernel) (by rfl) ?_
              show Z 0 130 [(5, .int 0), (4, .int 1500), (3, .int 1500), (2, .int (nB (!(decide ((lg_cmp wd 0) = 0))))), (1, .int 2), (0, .ref 0)] [] (z_ui μ 18 4 ((μ.1 18 4) + (-1500)))
              refine z_rcs0 hc hH 7 (pc' := 95) (lv' := [(5, .int 1), (4, .int 1500), (3, .int 1500), (2, .int (nB (!(decide ((lg_cmp wd 0) = 0))))), (1, .int 2), (0, .ref 0)]) (st' := [.int 1, .ref 0]) (by rfl) ?_
              refine zq_call hc (z_cx_ok hH (by rfl)) (gc_at d' (by omega) (z_ui μ 18 4 ((μ.1 18 4) + (-1500))) 1 (by decide)) (by decide +kernel) (fun r9 μ9 hq => ?_)
              obtain ⟨hμ9, rfl⟩ := hq
              rw [hμ9]
              clear hμ9 μ9
              show Z 0 98 [(5, .int 1), (4, .int 1500), (3, .int 1500), (2, .int (nB (!(decide ((lg_cmp wd 0) = 0))))), (1, .int 2), (0, .ref 0)] [.ref 26] _
              refine z_rcs0 hc hH 1 (pc' := 99) (lv' := [(5, .int 1), (4, .int 1500), (3, .int 1500), (2, .int (nB (!(decide ((lg_cmp wd 0) = 0))))), (1, .int 2), (0, .ref 0)]) (st' := [.ref 26, .ref 26]) (by rfl) ?_
              refine zq_gfi hc hH (by rfl) (ci := 1) (f := 4) (by rfl) (by decide +kernel) (by rfl) ?_
              refine zV1 (Z := Z) (ui_o (by first | decide | omega)) ?_
              refine z_rcs0 hc hH 2 (pc' := 105) (lv' := [(5, .int 1), (4, .int 1500), (3, .int 1500), (2, .int (nB (!(decide ((lg_cmp wd 0) = 0))))), (1, .int 2), (0, .ref 0)]) (st' := [.int 1, .ref 0, .int (μ.1 26 4), .ref 26]) (by rfl) ?_
              refine zq_call hc (z_cx_ok hH (by rfl)) (gc_at d' (by omega) (z_ui μ 18 4 ((μ.1 18 4) + (-1500))) 1 (by decide)) (by decide +kernel) (fun r9 μ9 hq => ?_)
              obtain ⟨hμ9, rfl⟩ := hq
              rw [hμ9]
              clear hμ9 μ9
              show Z 0 108 [(5, .int 1), (4, .int 1500), (3, .int 1500), (2, .int (nB (!(decide ((lg_cmp wd 0) = 0))))), (1, .int 2), (0, .ref 0)] [.ref 26, .int (μ.1 26 4), .ref 26] _
              refine zq_gfr hc hH (by rfl) (ci := 1) (f := 0) (q := 27) (by rfl) (by decide +kernel) (by rfl) (by decide +kernel) ?_
              refine zq_call hc (z_cx_ok hH (by rfl)) (hw1 _ (TE_ui (TE_rf _) (by intro i a hi h1 h2; omega)) d' (by omega)) (by decide +kernel) (fun r9 μ9 hq => ?_)
              obtain ⟨hμ9, rfl⟩ := hq
              rw [hμ9]
              clear hμ9 μ9
              show Z 0 114 [(5, .int 1), (4, .int 1500), (3, .int 1500), (2, .int (nB (!(decide ((lg_cmp wd 0) = 0))))), (1, .int 2), (0, .ref 0)] [.long w1, .int (μ.1 26 4), .ref 26] _
              refine z_rcs0 hc hH 2 (pc' := 116) (lv' := [(5, .int 1), (4, .int 1500), (3, .int 1500), (2, .int (nB (!(decide ((lg_cmp wd 0) = 0))))), (1, .int 2), (0, .ref 0)]) (st' := [.int (lg_cmp w1 0), .int (μ.1 26 4), .ref 26]) (by rfl) ?_
              refine zq_if hc hH (by rfl) (tg := 123) (by rfl) (fun h7 => ?_) (fun h7 => ?_)
              · have h7 : (decide ((lg_cmp w1 0) = 0)) = true := decide_eq_true (cm_eq9.mp h7)
                refine z_rcs0 hc hH 3 (pc' := 127) (lv' := [(5, .int 1), (4, .int 1500), (3, .int 1500), (2, .int (nB (!(decide ((lg_cmp wd 0) = 0))))), (1, .int 2), (0, .ref 0)]) (st' := [.int ((μ.1 26 4) + (-1500)), .ref 26]) (by rfl) ?_
                refine zq_pfi hc hH (by rfl) (ci := 1) (f := 4) (by rfl) (by decide +kernel) (by rfl) ?_
                show Z 0 130 [(5, .int 1), (4, .int 1500), (3, .int 1500), (2, .int (nB (!(decide ((lg_cmp wd 0) = 0))))), (1, .int 2), (0, .ref 0)] [] (z_ui (z_ui μ 18 4 ((μ.1 18 4) + (-1500))) 26 4 ((μ.1 26 4) + (-1500)))
                refine z_rcs0 hc hH 7 (pc' := 95) (lv' := [(5, .int 2), (4, .int 1500), (3, .int 1500), (2, .int (nB (!(decide ((lg_cmp wd 0) = 0))))), (1, .int 2), (0, .ref 0)]) (st' := [.int 2, .ref 0]) (by rfl) ?_
                refine zq_call hc (z_cx_ok hH (by rfl)) (gc_at d' (by omega) (z_ui (z_ui μ 18 4 ((μ.1 18 4) + (-1500))) 26 4 ((μ.1 26 4) + (-1500))) 2 (by decide)) (by decide +kernel) (fun r9 μ9 hq => ?_)
                obtain ⟨hμ9, rfl⟩ := hq
                rw [hμ9]
                clear hμ9 μ9
                show Z 0 98 [(5, .int 2), (4, .int 1500), (3, .int 1500), (2, .int (nB (!(decide ((lg_cmp wd 0) = 0))))), (1, .int 2), (0, .ref 0)] [.ref 34] _
                refine z_rcs0 hc hH 1 (pc' := 99) (lv' := [(5, .int 2), (4, .int 1500), (3, .int 1500), (2, .int (nB (!(decide ((lg_cmp wd 0) = 0))))), (1, .int 2), (0, .ref 0)]) (st' := [.ref 34, .ref 34]) (by rfl) ?_
                refine zq_gfi hc hH (by rfl) (ci := 1) (f := 4) (by rfl) (by decide +kernel) (by rfl) ?_
                refine zV1 (Z := Z) (Eq.trans (ui_o (by first | decide | omega)) (ui_o (by first | decide | omega))) ?_
                refine z_rcs0 hc hH 2 (pc' := 105) (lv' := [(5, .int 2), (4, .int 1500), (3, .int 1500), (2, .int (nB (!(decide ((lg_cmp wd 0) = 0))))), (1, .int 2), (0, .ref 0)]) (st' := [.int 2, .ref 0, .int (μ.1 34 4), .ref 34]) (by rfl) ?_
                refine zq_call hc (z_cx_ok hH (by rfl)) (gc_at d' (by omega) (z_ui (z_ui μ 18 4 ((μ.1 18 4) + (-1500))) 26 4 ((μ.1 26 4) + (-1500))) 2 (by decide)) (by decide +kernel) (fun r9 μ9 hq => ?_)
                obtain ⟨hμ9, rfl⟩ := hq
                rw [hμ9]
                clear hμ9 μ9
                show Z 0 108 [(5, .int 2), (4, .int 1500), (3, .int 1500), (2, .int (nB (!(decide ((lg_cmp wd 0) = 0))))), (1, .int 2), (0, .ref 0)] [.ref 34, .int (μ.1 34 4), .ref 34] _
                refine zq_gfr hc hH (by rfl) (ci := 1) (f := 0) (q := 35) (by rfl) (by decide +kernel) (by rfl) (by decide +kernel) ?_
                refine zq_call hc (z_cx_ok hH (by rfl)) (hw2 _ (TE_ui (TE_ui (TE_rf _) (by intro i a hi h1 h2; omega)) (by intro i a hi h1 h2; omega)) d' (by omega)) (by decide +kernel) (fun r9 μ9 hq => ?_)
                obtain ⟨hμ9, rfl⟩ := hq
                rw [hμ9]
                clear hμ9 μ9
                show Z 0 114 [(5, .int 2), (4, .int 1500), (3, .int 1500), (2, .int (nB (!(decide ((lg_cmp wd 0) = 0))))), (1, .int 2), (0, .ref 0)] [.long w2, .int (μ.1 34 4), .ref 34] _
                refine z_rcs0 hc hH 2 (pc' := 116) (lv' := [(5, .int 2), (4, .int 1500), (3, .int 1500), (2, .int (nB (!(decide ((lg_cmp wd 0) = 0))))), (1, .int 2), (0, .ref 0)]) (st' := [.int (lg_cmp w2 0), .int (μ.1 34 4), .ref 34]) (by rfl) ?_
                refine zq_if hc hH (by rfl) (tg := 123) (by rfl) (fun h8 => ?_) (fun h8 => ?_)
                · have h8 : (decide ((lg_cmp w2 0) = 0)) = true := decide_eq_true (cm_eq9.mp h8)
                  exact absurd (Eq.trans (Eq.symm (hb2)) h8) (by decide)
                · have h8 : (decide ((lg_cmp w2 0) = 0)) = false := decide_eq_false (cn_eq.mp h8)
                  refine z_rcs0 hc hH 3 (pc' := 127) (lv' := [(5, .int 2), (4, .int 1500), (3, .int 1500), (2, .int (nB (!(decide ((lg_cmp wd 0) = 0))))), (1, .int 2), (0, .ref 0)]) (st' := [.int ((μ.1 34 4) + 1500), .ref 34]) (by rfl) ?_
                  refine zq_pfi hc hH (by rfl) (ci := 1) (f := 4) (by rfl) (by decide +kernel) (by rfl) ?_
                  show Z 0 130 [(5, .int 2), (4, .int 1500), (3, .int 1500), (2, .int (nB (!(decide ((lg_cmp wd 0) = 0))))), (1, .int 2), (0, .ref 0)] [] (z_ui (z_ui (z_ui μ 18 4 ((μ.1 18 4) + (-1500))) 26 4 ((μ.1 26 4) + (-1500))) 34 4 ((μ.1 34 4) + 1500))
                  refine z_rcs0 hc hH 7 (pc' := 95) (lv' := [(5, .int 3), (4, .int 1500), (3, .int 1500), (2, .int (nB (!(decide ((lg_cmp wd 0) = 0))))), (1, .int 2), (0, .ref 0)]) (st' := [.int 3, .ref 0]) (by rfl) ?_
                  refine zq_call hc (z_cx_ok hH (by rfl)) (gc_at d' (by omega) (z_ui (z_ui (z_ui μ 18 4 ((μ.1 18 4) + (-1500))) 26 4 ((μ.1 26 4) + (-1500))) 34 4 ((μ.1 34 4) + 1500)) 3 (by decide)) (by decide +kernel) (fun r9 μ9 hq => ?_)
                  obtain ⟨hμ9, rfl⟩ := hq
                  rw [hμ9]
                  clear hμ9 μ9
                  show Z 0 98 [(5, .int 3), (4, .int 1500), (3, .int 1500), (2, .int (nB (!(decide ((lg_cmp wd 0) = 0))))), (1, .int 2), (0, .ref 0)] [.ref 42] _
                  refine z_rcs0 hc hH 1 (pc' := 99) (lv' := [(5, .int 3), (4, .int 1500), (3, .int 1500), (2, .int (nB (!(decide ((lg_cmp wd 0) = 0))))), (1, .int 2), (0, .ref 0)]) (st' := [.ref 42, .ref 42]) (by rfl) ?_
                  refine zq_gfi hc hH (by rfl) (ci := 1) (f := 4) (by rfl) (by decide +kernel) (by rfl) ?_
                  refine zV1 (Z := Z) (Eq.trans (ui_o (by first | decide | omega)) (Eq.trans (ui_o (by first | decide | omega)) (ui_o (by first | decide | omega)))) ?_
                  refine z_rcs0 hc hH 2 (pc' := 105) (lv' := [(5, .int 3), (4, .int 1500), (3, .int 1500), (2, .int (nB (!(decide ((lg_cmp wd 0) = 0))))), (1, .int 2), (0, .ref 0)]) (st' := [.int 3, .ref 0, .int (μ.1 42 4), .ref 42]) (by rfl) ?_
                  refine zq_call hc (z_cx_ok hH (by rfl)) (gc_at d' (by omega) (z_ui (z_ui (z_ui μ 18 4 ((μ.1 18 4) + (-1500))) 26 4 ((μ.1 26 4) + (-1500))) 34 4 ((μ.1 34 4) + 1500)) 3 (by decide)) (by decide +kernel) (fun r9 μ9 hq => ?_)
                  obtain ⟨hμ9, rfl⟩ := hq
                  rw [hμ9]
                  clear hμ9 μ9
                  show Z 0 108 [(5, .int 3), (4, .int 1500), (3, .int 1500), (2, .int (nB (!(decide ((lg_cmp wd 0) = 0))))), (1, .int 2), (0, .ref 0)] [.ref 42, .int (μ.1 42 4), .ref 42] _
                  refine zq_gfr hc hH (by rfl) (ci := 1) (f := 0) (q := 43) (by rfl) (by decide +kernel) (by rfl) (by decide +kernel) ?_
                  refine zq_call hc (z_cx_ok hH (by rfl)) (hw3 _ (TE_ui (TE_ui (TE_ui (TE_rf _) (by intro i a hi h1 h2; omega)) (by intro i a hi h1 h2; omega)) (by intro i a hi h1 h2; omega)) d' (by omega)) (by decide +kernel) (fun r9 μ9 hq => ?_)
                  obtain ⟨hμ9, rfl⟩ := hq
                  rw [hμ9]
                  clear hμ9 μ9
                  show Z 0 114 [(5, .int 3), (4, .int 1500), (3, .int 1500), (2, .int (nB (!(decide ((lg_cmp wd 0) = 0))))), (1, .int 2), (0, .ref 0)] [.long w3, .int (μ.1 42 4), .ref 42] _
                  refine z_rcs0 hc hH 2 (pc' := 116) (lv' := [(5, .int 3), (4, .int 1500), (3, .int 1500), (2, .int (nB (!(decide ((lg_cmp wd 0) = 0))))), (1, .int 2), (0, .ref 0)]) (st' := [.int (lg_cmp w3 0), .int (μ.1 42 4), .ref 42]) (by rfl) ?_
                  refine zq_if hc hH (by rfl) (tg := 123) (by rfl) (fun h9 => ?_) (fun h9 => ?_)
                  · have h9 : (decide ((lg_cmp w3 0) = 0)) = true := decide_eq_true (cm_eq9.mp h9)
                    exact absurd (Eq.trans (Eq.symm (hb3)) h9) (by decide)
                  · have h9 : (decide ((lg_cmp w3 0) = 0)) = false := decide_eq_false (cn_eq.mp h9)
                    refine z_rcs0 hc hH 3 (pc' := 127) (lv' := [(5, .int 3), (4, .int 1500), (3, .int 1500), (2, .int (nB (!(decide ((lg_cmp wd 0) = 0))))), (1, .int 2), (0, .ref 0)]) (st' := [.int ((μ.1 42 4) + 1500), .ref 42]) (by rfl) ?_
                    refine zq_pfi hc hH (by rfl) (ci := 1) (f := 4) (by rfl) (by decide +kernel) (by rfl) ?_
                    show Z 0 130 [(5, .int 3), (4, .int 1500), (3, .int 1500), (2, .int (nB (!(decide ((lg_cmp wd 0) = 0))))), (1, .int 2), (0, .ref 0)] [] (z_ui (z_ui (z_ui (z_ui μ 18 4 ((μ.1 18 4) + (-1500))) 26 4 ((μ.1 26 4) + (-1500))) 34 4 ((μ.1 34 4) + 1500)) 42 4 ((μ.1 42 4) + 1500))
                    refine z_rcs0 hc hH 8 (pc' := 139) (lv' := [(5, .int 4), (4, .int 1500), (3, .int 1500), (2, .int (nB (!(decide ((lg_cmp wd 0) = 0))))), (1, .int 2), (0, .ref 0)]) (st' := [.int 0, .int (nB (!(decide ((lg_cmp wd 0) = 0)))), .ref 0]) (by rfl) ?_
                    refine zq_call hc (z_cx_ok hH (by rfl)) (gc_endHandB d' (by omega) (z_ui (z_ui (z_ui (z_ui μ 18 4 ((μ.1 18 4) + (-1500))) 26 4 ((μ.1 26 4) + (-1500))) 34 4 ((μ.1 34 4) + 1500)) 42 4 ((μ.1 42 4) + 1500)) (!(decide ((lg_cmp wd 0) = 0))) false dl e (by rw [ui_o (by first | decide | omega), ui_o (by first | decide | omega), ui_o (by first | decide | omega), ui_o (by first | decide | omega)]; exact hdl) hdl4 he) (by decide +kernel) (fun r9 μ9 hq => ?_)
                    obtain ⟨rfl, rfl⟩ := hq
                    show Z 0 142 [(5, .int 4), (4, .int 1500), (3, .int 1500), (2, .int (nB (!(decide ((lg_cmp wd 0) = 0))))), (1, .int 2), (0, .ref 0)] [] (eHB (z_ui (z_ui (z_ui (z_ui μ 18 4 ((μ.1 18 4) + (-1500))) 26 4 ((μ.1 26 4) + (-1500))) 34 4 ((μ.1 34 4) + 1500)) 42 4 ((μ.1 42 4) + 1500)) (!(decide ((lg_cmp wd 0) = 0))) false (xBk (z_ui (z_ui (z_ui (z_ui μ 18 4 ((μ.1 18 4) + (-1500))) 26 4 ((μ.1 26 4) + (-1500))) 34 4 ((μ.1 34 4) + 1500)) 42 4 ((μ.1 42 4) + 1500))) dl e (rcM (z_ui (z_ui (z_ui (z_ui μ 18 4 ((μ.1 18 4) + (-1500))) 26 4 ((μ.1 26 4) + (-1500))) 34 4 ((μ.1 34 4) + 1500)) 42 4 ((μ.1 42 4) + 1500))))
                    exact hr 0 142 _ _ _ none (by decide +kernel) (by rfl) (⟨rfl, rfl⟩)
              · have h7 : (decide ((lg_cmp w1 0) = 0)) = false := decide_eq_false (cn_eq.mp h7)
                exact absurd (Eq.trans (Eq.symm (hb1)) h7) (by decide)
            · have h6 : (decide ((lg_cmp w0 0) = 0)) = false := decide_eq_false (cn_eq.mp h6)
              exact absurd (Eq.trans (Eq.symm (hb0)) h6) (by decide)
          refine zq_if hc hH (by rfl) (tg := 57) (by rfl) (fun h10 => ?_) (fun h10 => ?_)
          · have h10 : (decide ((lg_cmp wd 0) = 0)) = true := decide_eq_true (cm_eq9.mp h10)
            refine z_rcs hc hH 1 (pc' := 58) (lv' := [(2, .int 4), (1, .int 2), (0, .ref 0)]) (st' := [.int 0]) (μ' := μ) (by rfl) ?_
            exact zJ hJ5 rfl (by first | with_reducible rfl | (simp only [h10, lb_f, Int64.or_zero, Int32.add_zero, nB_t, nB_f, Bool.not_true, Bool.not_false, Bool.and_true, Bool.true_and, Bool.false_and, Bool.and_false, Bool.or_true, Bool.true_or, Bool.false_or, Bool.or_false, cond_true, cond_false]; done) | rfl) rfl
          · have h10 : (decide ((lg_cmp wd 0) = 0)) = false := decide_eq_false (cn_eq.mp h10)
            refine z_rcs hc hH 2 (pc' := 58) (lv' := [(2, .int 4), (1, .int 2), (0, .ref 0)]) (st' := [.int 1]) (μ' := μ) (by rfl) ?_
            exact zJ hJ5 rfl (by first | with_reducible rfl | (simp only [h10, lb_f, Int64.or_zero, Int32.add_zero, nB_t, nB_f, Bool.not_true, Bool.not_false, Bool.and_true, Bool.true_and, Bool.false_and, Bool.and_false, Bool.or_true, Bool.true_or, Bool.false_or, Bool.or_false, cond_true, cond_false]; done) | rfl) rfl
    · have h2 : (decide ((lg_cmp w1 0) = 0)) = false := decide_eq_false (cn_eq.mp h2)
      exact absurd (Eq.trans (Eq.symm (hb1)) h2) (by decide)
  · have h1 : (decide ((lg_cmp w0 0) = 0)) = false := decide_eq_false (cn_eq.mp h1)
    exact absurd (Eq.trans (Eq.symm (hb0)) h1) (by decide)
theorem gc_endUnwon0100 (d : Nat) (hd : 8 ≤ d) (μ : zM) (dl e : Nat) (hdl : μ.1 0 9 = nI dl) (hdl4 : dl < 4) (he : (dl + 1) % 4 = e) (w0 : Int64) (hw0 : ∀ μ1, TE μ μ1 → ∀ d, 7 ≤ d → z_C d mi_X3_waiting [.ref 19] μ1 (zR μ1 (.long w0))) (w1 : Int64) (hw1 : ∀ μ1, TE μ μ1 → ∀ d, 7 ≤ d → z_C d mi_X3_waiting [.ref 27] μ1 (zR μ1 (.long w1))) (w2 : Int64) (hw2 : ∀ μ1, TE μ μ1 → ∀ d, 7 ≤ d → z_C d mi_X3_waiting [.ref 35] μ1 (zR μ1 (.long w2))) (w3 : Int64) (hw3 : ∀ μ1, TE μ μ1 → ∀ d, 7 ≤ d → z_C d mi_X3_waiting [.ref 43] μ1 (zR μ1 (.long w3))) (wd : Int64) (hwd : ∀ μ1, TE μ μ1 → ∀ d, 7 ≤ d → z_C d mi_X3_waiting [.ref (19 + 8 * dl)] μ1 (zR μ1 (.long wd))) (hb0 : decide (lg_cmp w0 0 = 0) = true) (hb1 : decide (lg_cmp w1 0 = 0) = false) (hb2 : decide (lg_cmp w2 0 = 0) = true) (hb3 : decide (lg_cmp w3 0 = 0) = true) : z_C d mi_X6_endUnwon [.ref 0] μ (fun r μ' => r = none ∧ μ' = eHB (z_ui (z_ui (z_ui (z_ui μ 18 4 ((μ.1 18 4) + (-1000))) 26 4 ((μ.1 26 4) + 3000)) 34 4 ((μ.1 34 4) + (-1000))) 42 4 ((μ.1 42 4) + (-1000))) (!(decide ((lg_cmp wd 0) = 0))) false (xBk (z_ui (z_ui (z_ui (z_ui μ 18 4 ((μ.1 18 4) + (-1000))) 26 4 ((μ.1 26 4) + 3000)) 34 4 ((μ.1 34 4) + (-1000))) 42 4 ((μ.1 42 4) + (-1000)))) dl e (rcM (z_ui (z_ui (z_ui (z_ui μ 18 4 ((μ.1 18 4) + (-1000))) 26 4 ((μ.1 26 4) + 3000)) 34 4 ((μ.1 34 4) + (-1000))) 42 4 ((μ.1 42 4) + (-1000))))) := by
  refine z_C_in (by decide) (by omega) (fun d' Z ed hc hr => ?_)
  have hH : zH mi_X6_endUnwon zt_X6_endUnwon 79 6 6 := hh_X6_endUnwon
  refine z_rcs hc hH 9 (pc' := 11) (lv' := [(2, .int 0), (1, .int 0), (0, .ref 0)]) (st' := [.int 0, .ref 0]) (μ' := μ) (by rfl) ?_
  refine zq_call hc (z_cx_ok hH (by rfl)) (gc_at d' (by omega) μ 0 (by decide)) (by decide +kernel) (fun r9 μ9 hq => ?_)
  obtain ⟨hμ9, rfl⟩ := hq
  rw [hμ9]
  clear hμ9 μ9
  show Z 0 14 [(2, .int 0), (1, .int 0), (0, .ref 0)] [.ref 18] μ
  refine zq_gfr hc hH (by rfl) (ci := 1) (f := 0) (q := 19) (by rfl) (by decide +kernel) (by rfl) (by decide +kernel) ?_
  refine zq_call hc (z_cx_ok hH (by rfl)) (hw0 _ (TE_rf _) d' (by omega)) (by decide +kernel) (fun r9 μ9 hq => ?_)
  obtain ⟨hμ9, rfl⟩ := hq
  rw [hμ9]
  clear hμ9 μ9
  show Z 0 20 [(2, .int 0), (1, .int 0), (0, .ref 0)] [.long w0] μ
  refine z_rcs hc hH 2 (pc' := 22) (lv' := [(2, .int 0), (1, .int 0), (0, .ref 0)]) (st' := [.int (lg_cmp w0 0)]) (μ' := μ) (by rfl) ?_
  refine zq_if hc hH (by rfl) (tg := 28) (by rfl) (fun h1 => ?_) (fun h1 => ?_)
  · have h1 : (decide ((lg_cmp w0 0) = 0)) = true := decide_eq_true (cm_eq9.mp h1)
    refine z_rcs hc hH 7 (pc' := 11) (lv' := [(2, .int 1), (1, .int 0), (0, .ref 0)]) (st' := [.int 1, .ref 0]) (μ' := μ) (by rfl) ?_
    refine zq_call hc (z_cx_ok hH (by rfl)) (gc_at d' (by omega) μ 1 (by decide)) (by decide +kernel) (fun r9 μ9 hq => ?_)
    obtain ⟨hμ9, rfl⟩ := hq
    rw [hμ9]
    clear hμ9 μ9
    show Z 0 14 [(2, .int 1), (1, .int 0), (0, .ref 0)] [.ref 26] μ
    refine zq_gfr hc hH (by rfl) (ci := 1) (f := 0) (q := 27) (by rfl) (by decide +kernel) (by rfl) (by decide +kernel) ?_
    refine zq_call hc (z_cx_ok hH (by rfl)) (hw1 _ (TE_rf _) d' (by omega)) (by decide +kernel) (fun r9 μ9 hq => ?_)
    obtain ⟨hμ9, rfl⟩ := hq
    rw [hμ9]
    clear hμ9 μ9
    show Z 0 20 [(2, .int 1), (1, .int 0), (0, .ref 0)] [.long w1] μ
    refine z_rcs hc hH 2 (pc' := 22) (lv' := [(2, .int 1), (1, .int 0), (0, .ref 0)]) (st' := [.int (lg_cmp w1 0)]) (μ' := μ) (by rfl) ?_
    refine zq_if hc hH (by rfl) (tg := 28) (by rfl) (fun h2 => ?_) (fun h2 => ?_)
    · have h2 : (decide ((lg_cmp w1 0) = 0)) = true := decide_eq_true (cm_eq9.mp h2)
      exact absurd (Eq.trans (Eq.symm (hb1)) h2) (by decide)
    · have h2 : (decide ((lg_cmp w1 0) = 0)) = false := decide_eq_false (cn_eq.mp h2)
      refine z_rcs hc hH 8 (pc' := 11) (lv' := [(2, .int 2), (1, .int 1), (0, .ref 0)]) (st' := [.int 2, .ref 0]) (μ' := μ) (by rfl) ?_
      refine zq_call hc (z_cx_ok hH (by rfl)) (gc_at d' (by omega) μ 2 (by decide)) (by decide +kernel) (fun r9 μ9 hq => ?_)
      obtain ⟨hμ9, rfl⟩ := hq
      rw [hμ9]
      clear hμ9 μ9
      show Z 0 14 [(2, .int 2), (1, .int 1), (0, .ref 0)] [.ref 34] μ
      refine zq_gfr hc hH (by rfl) (ci := 1) (f := 0) (q := 35) (by rfl) (by decide +kernel) (by rfl) (by decide +kernel) ?_
      refine zq_call hc (z_cx_ok hH (by rfl)) (hw2 _ (TE_rf _) d' (by omega)) (by decide +kernel) (fun r9 μ9 hq => ?_)
      obtain ⟨hμ9, rfl⟩ := hq
      rw [hμ9]
      clear hμ9 μ9
      show Z 0 20 [(2, .int 2), (1, .int 1), (0, .ref 0)] [.long w2] μ
      refine z_rcs hc hH 2 (pc' := 22) (lv' := [(2, .int 2), (1, .int 1), (0, .ref 0)]) (st' := [.int (lg_cmp w2 0)]) (μ' := μ) (by rfl) ?_
      refine zq_if hc hH (by rfl) (tg := 28) (by rfl) (fun h3 => ?_) (fun h3 => ?_)
      · have h3 : (decide ((lg_cmp w2 0) = 0)) = true := decide_eq_true (cm_eq9.mp h3)
        refine z_rcs hc hH 7 (pc' := 11) (lv' := [(2, .int 3), (1, .int 1), (0, .ref 0)]) (st' := [.int 3, .ref 0]) (μ' := μ) (by rfl) ?_
        refine zq_call hc (z_cx_ok hH (by rfl)) (gc_at d' (by omega) μ 3 (by decide)) (by decide +kernel) (fun r9 μ9 hq => ?_)
        obtain ⟨hμ9, rfl⟩ := hq
        rw [hμ9]
        clear hμ9 μ9
        show Z 0 14 [(2, .int 3), (1, .int 1), (0, .ref 0)] [.ref 42] μ
        refine zq_gfr hc hH (by rfl) (ci := 1) (f := 0) (q := 43) (by rfl) (by decide +kernel) (by rfl) (by decide +kernel) ?_
        refine zq_call hc (z_cx_ok hH (by rfl)) (hw3 _ (TE_rf _) d' (by omega)) (by decide +kernel) (fun r9 μ9 hq => ?_)
        obtain ⟨hμ9, rfl⟩ := hq
        rw [hμ9]
        clear hμ9 μ9
        show Z 0 20 [(2, .int 3), (1, .int 1), (0, .ref 0)] [.long w3] μ
        refine z_rcs hc hH 2 (pc' := 22) (lv' := [(2, .int 3), (1, .int 1), (0, .ref 0)]) (st' := [.int (lg_cmp w3 0)]) (μ' := μ) (by rfl) ?_
        refine zq_if hc hH (by rfl) (tg := 28) (by rfl) (fun h4 => ?_) (fun h4 => ?_)
        · have h4 : (decide ((lg_cmp w3 0) = 0)) = true := decide_eq_true (cm_eq9.mp h4)
          refine z_rcs hc hH 7 (pc' := 36) (lv' := [(2, .int 4), (1, .int 1), (0, .ref 0)]) (st' := [.ref 0, .ref 0]) (μ' := μ) (by rfl) ?_
          refine zq_gfi hc hH (by rfl) (ci := 5) (f := 9) (by rfl) (by decide +kernel) (by rfl) ?_
          rw [hdl]
          refine zq_call hc (z_cx_ok hH (by rfl)) (gc_at4 d' (by omega) μ dl hdl4) (by decide +kernel) (fun r9 μ9 hq => ?_)
          obtain ⟨hμ9, rfl⟩ := hq
          rw [hμ9]
          clear hμ9 μ9
          show Z 0 42 [(2, .int 4), (1, .int 1), (0, .ref 0)] [.ref (18 + 8 * dl)] μ
          refine zq_gfr hc hH (by rfl) (ci := 1) (f := 0) (q := 19 + 8 * dl) (by rfl) (sj (P := fun i => okf 79 1 0 (18 + 8 * i)) hdl4 (by decide +kernel)) (by rfl) (sj (P := fun i => Nat.beq (z_gr (18 + 8 * i) 0) (19 + 8 * i)) hdl4 (by decide +kernel)) ?_
          refine zq_call hc (z_clv9 hH (by rfl) (by rfl) (by rfl) (by rfl) (sj (P := fun i => okr 79 2 (19 + 8 * i)) hdl4 (by decide +kernel)) (by rfl) (by rfl)) ((hwd _ (TE_rf _) d' (by omega))) (by decide +kernel) (fun r9 μ9 hq => ?_)
          obtain ⟨hμ9, rfl⟩ := hq
          rw [hμ9]
          clear hμ9 μ9
          show Z 0 48 [(2, .int 4), (1, .int 1), (0, .ref 0)] [.long wd] μ
          refine z_rcs hc hH 2 (pc' := 50) (lv' := [(2, .int 4), (1, .int 1), (0, .ref 0)]) (st' := [.int (lg_cmp wd 0)]) (μ' := μ) (by rfl) ?_
          have hJ5 : Z 0 58 [(2, .int 4), (1, .int 1), (0, .ref 0)] [.int (nB (!(decide ((lg_cmp wd 0) = 0))))] μ := by
            refine z_rcs hc hH 23 (pc' := 95) (lv' := [(5, .int 0), (4, .int 1000), (3, .int 3000), (2, .int (nB (!(decide ((lg_cmp wd 0) = 0))))), (1, .int 1), (0, .ref 0)]) (st' := [.int 0, .ref 0]) (μ' := μ) (by rfl) ?_
            refine zq_call hc (z_cx_ok hH (by rfl)) (gc_at d' (by omega) μ 0 (by decide)) (by decide +kernel) (fun r9 μ9 hq => ?_)
            obtain ⟨hμ9, rfl⟩ := hq
            rw [hμ9]
            clear hμ9 μ9
            show Z 0 98 [(5, .int 0), (4, .int 1000), (3, .int 3000), (2, .int (nB (!(decide ((lg_cmp wd 0) = 0))))), (1, .int 1), (0, .ref 0)] [.ref 18] μ
            refine z_rcs hc hH 1 (pc' := 99) (lv' := [(5, .int 0), (4, .int 1000), (3, .int 3000), (2, .int (nB (!(decide ((lg_cmp wd 0) = 0))))), (1, .int 1), (0, .ref 0)]) (st' := [.ref 18, .ref 18]) (μ' := μ) (by rfl) ?_
            refine zq_gfi hc hH (by rfl) (ci := 1) (f := 4) (by rfl) (by decide +kernel) (by rfl) ?_
            refine z_rcs hc hH 2 (pc' := 105) (lv' := [(5, .int 0), (4, .int 1000), (3, .int 3000), (2, .int (nB (!(decide ((lg_cmp wd 0) = 0))))), (1, .int 1), (0, .ref 0)]) (st' := [.int 0, .ref 0, .int (μ.1 18 4), .ref 18]) (μ' := μ) (by rfl) ?_
            refine zq_call hc (z_cx_ok hH (by rfl)) (gc_at d' (by omega) μ 0 (by decide)) (by decide +kernel) (fun r9 μ9 hq => ?_)
            obtain ⟨hμ9, rfl⟩ := hq
            rw [hμ9]
            clear hμ9 μ9
            show Z 0 108 [(5, .int 0), (4, .int 1000), (3, .int 3000), (2, .int (nB (!(decide ((lg_cmp wd 0) = 0))))), (1, .int 1), (0, .ref 0)] [.ref 18, .int (μ.1 18 4), .ref 18] μ
            refine zq_gfr hc hH (by rfl) (ci := 1) (f := 0) (q := 19) (by rfl) (by decide +kernel) (by rfl) (by decide +kernel) ?_
            refine zq_call hc (z_cx_ok hH (by rfl)) (hw0 _ (TE_rf _) d' (by omega)) (by decide +kernel) (fun r9 μ9 hq => ?_)
            obtain ⟨hμ9, rfl⟩ := hq
            rw [hμ9]
            clear hμ9 μ9
            show Z 0 114 [(5, .int 0), (4, .int 1000), (3, .int 3000), (2, .int (nB (!(decide ((lg_cmp wd 0) = 0))))), (1, .int 1), (0, .ref 0)] [.long w0, .int (μ.1 18 4), .ref 18] μ
            refine z_rcs hc hH 2 (pc' := 116) (lv' := [(5, .int 0), (4, .int 1000), (3, .int 3000), (2, .int (nB (!(decide ((lg_cmp wd 0) = 0))))), (1, .int 1), (0, .ref 0)]) (st' := [.int (lg_cmp w0 0), .int (μ.1 18 4), .ref 18]) (μ' := μ) (by rfl) ?_
            refine zq_if hc hH (by rfl) (tg := 123) (by rfl) (fun h6 => ?_) (fun h6 => ?_)
            · have h6 : (decide ((lg_cmp w0 0) = 0)) = true := decide_eq_true (cm_eq9.mp h6)
              refine z_rcs hc hH 3 (pc' := 127) (lv' := [(5, .int 0), (4, .int 1000), (3, .int 3000), (2, .int (nB (!(decide ((lg_cmp wd 0) = 0))))), (1, .int 1), (0, .ref 0)]) (st' := [.int ((μ.1 18 4) + (-1000)), .ref 18]) (μ' := μ) (by rfl) ?_
              refine zq_pfi hc hH (by rfl) (ci := 1) (f := 4) (by rfl) (by decide +kernel) (by rfl) ?_
              show Z 0 130 [(5, .int 0), (4, .int 1000), (3, .int 3000), (2, .int (nB (!(decide ((lg_cmp wd 0) = 0))))), (1, .int 1), (0, .ref 0)] [] (z_ui μ 18 4 ((μ.1 18 4) + (-1000)))
              refine z_rcs0 hc hH 7 (pc' := 95) (lv' := [(5, .int 1), (4, .int 1000), (3, .int 3000), (2, .int (nB (!(decide ((lg_cmp wd 0) = 0))))), (1, .int 1), (0, .ref 0)]) (st' := [.int 1, .ref 0]) (by rfl) ?_
              refine zq_call hc (z_cx_ok hH (by rfl)) (gc_at d' (by omega) (z_ui μ 18 4 ((μ.1 18 4) + (-1000))) 1 (by decide)) (by decide +kernel) (fun r9 μ9 hq => ?_)
              obtain ⟨hμ9, rfl⟩ := hq
              rw [hμ9]
              clear hμ9 μ9
              show Z 0 98 [(5, .int 1), (4, .int 1000), (3, .int 3000), (2, .int (nB (!(decide ((lg_cmp wd 0) = 0))))), (1, .int 1), (0, .ref 0)] [.ref 26] _
              refine z_rcs0 hc hH 1 (pc' := 99) (lv' := [(5, .int 1), (4, .int 1000), (3, .int 3000), (2, .int (nB (!(decide ((lg_cmp wd 0) = 0))))), (1, .int 1), (0, .ref 0)]) (st' := [.ref 26, .ref 26]) (by rfl) ?_
              refine zq_gfi hc hH (by rfl) (ci := 1) (f := 4) (by rfl) (by decide +kernel) (by rfl) ?_
              refine zV1 (Z := Z) (ui_o (by first | decide | omega)) ?_
              refine z_rcs0 hc hH 2 (pc' := 105) (lv' := [(5, .int 1), (4, .int 1000), (3, .int 3000), (2, .int (nB (!(decide ((lg_cmp wd 0) = 0))))), (1, .int 1), (0, .ref 0)]) (st' := [.int 1, .ref 0, .int (μ.1 26 4), .ref 26]) (by rfl) ?_
              refine zq_call hc (z_cx_ok hH (by rfl)) (gc_at d' (by omega) (z_ui μ 18 4 ((μ.1 18 4) + (-1000))) 1 (by decide)) (by decide +kernel) (fun r9 μ9 hq => ?_)
              obtain ⟨hμ9, rfl⟩ := hq
              rw [hμ9]
              clear hμ9 μ9
              show Z 0 108 [(5, .int 1), (4, .int 1000), (3, .int 3000), (2, .int (nB (!(decide ((lg_cmp wd 0) = 0))))), (1, .int 1), (0, .ref 0)] [.ref 26, .int (μ.1 26 4), .ref 26] _
              refine zq_gfr hc hH (by rfl) (ci := 1) (f := 0) (q := 27) (by rfl) (by decide +kernel) (by rfl) (by decide +kernel) ?_
              refine zq_call hc (z_cx_ok hH (by rfl)) (hw1 _ (TE_ui (TE_rf _) (by intro i a hi h1 h2; omega)) d' (by omega)) (by decide +kernel) (fun r9 μ9 hq => ?_)
              obtain ⟨hμ9, rfl⟩ := hq
              rw [hμ9]
              clear hμ9 μ9
              show Z 0 114 [(5, .int 1), (4, .int 1000), (3, .int 3000), (2, .int (nB (!(decide ((lg_cmp wd 0) = 0))))), (1, .int 1), (0, .ref 0)] [.long w1, .int (μ.1 26 4), .ref 26] _
              refine z_rcs0 hc hH 2 (pc' := 116) (lv' := [(5, .int 1), (4, .int 1000), (3, .int 3000), (2, .int (nB (!(decide ((lg_cmp wd 0) = 0))))), (1, .int 1), (0, .ref 0)]) (st' := [.int (lg_cmp w1 0), .int (μ.1 26 4), .ref 26]) (by rfl) ?_
              refine zq_if hc hH (by rfl) (tg := 123) (by rfl) (fun h7 => ?_) (fun h7 => ?_)
              · have h7 : (decide ((lg_cmp w1 0) = 0)) = true := decide_eq_true (cm_eq9.mp h7)
                exact absurd (Eq.trans (Eq.symm (hb1)) h7) (by decide)
              · have h7 : (decide ((lg_cmp w1 0) = 0)) = false := decide_eq_false (cn_eq.mp h7)
                refine z_rcs0 hc hH 3 (pc' := 127) (lv' := [(5, .int 1), (4, .int 1000), (3, .int 3000), (2, .int (nB (!(decide ((lg_cmp wd 0) = 0))))), (1, .int 1), (0, .ref 0)]) (st' := [.int ((μ.1 26 4) + 3000), .ref 26]) (by rfl) ?_
                refine zq_pfi hc hH (by rfl) (ci := 1) (f := 4) (by rfl) (by decide +kernel) (by rfl) ?_
                show Z 0 130 [(5, .int 1), (4, .int 1000), (3, .int 3000), (2, .int (nB (!(decide ((lg_cmp wd 0) = 0))))), (1, .int 1), (0, .ref 0)] [] (z_ui (z_ui μ 18 4 ((μ.1 18 4) + (-1000))) 26 4 ((μ.1 26 4) + 3000))
                refine z_rcs0 hc hH 7 (pc' := 95) (lv' := [(5, .int 2), (4, .int 1000), (3, .int 3000), (2, .int (nB (!(decide ((lg_cmp wd 0) = 0))))), (1, .int 1), (0, .ref 0)]) (st' := [.int 2, .ref 0]) (by rfl) ?_
                refine zq_call hc (z_cx_ok hH (by rfl)) (gc_at d' (by omega) (z_ui (z_ui μ 18 4 ((μ.1 18 4) + (-1000))) 26 4 ((μ.1 26 4) + 3000)) 2 (by decide)) (by decide +kernel) (fun r9 μ9 hq => ?_)
                obtain ⟨hμ9, rfl⟩ := hq
                rw [hμ9]
                clear hμ9 μ9
                show Z 0 98 [(5, .int 2), (4, .int 1000), (3, .int 3000), (2, .int (nB (!(decide ((lg_cmp wd 0) = 0))))), (1, .int 1), (0, .ref 0)] [.ref 34] _
                refine z_rcs0 hc hH 1 (pc' := 99) (lv' := [(5, .int 2), (4, .int 1000), (3, .int 3000), (2, .int (nB (!(decide ((lg_cmp wd 0) = 0))))), (1, .int 1), (0, .ref 0)]) (st' := [.ref 34, .ref 34]) (by rfl) ?_
                refine zq_gfi hc hH (by rfl) (ci := 1) (f := 4) (by rfl) (by decide +kernel) (by rfl) ?_
                refine zV1 (Z := Z) (Eq.trans (ui_o (by first | decide | omega)) (ui_o (by first | decide | omega))) ?_
                refine z_rcs0 hc hH 2 (pc' := 105) (lv' := [(5, .int 2), (4, .int 1000), (3, .int 3000), (2, .int (nB (!(decide ((lg_cmp wd 0) = 0))))), (1, .int 1), (0, .ref 0)]) (st' := [.int 2, .ref 0, .int (μ.1 34 4), .ref 34]) (by rfl) ?_
                refine zq_call hc (z_cx_ok hH (by rfl)) (gc_at d' (by omega) (z_ui (z_ui μ 18 4 ((μ.1 18 4) + (-1000))) 26 4 ((μ.1 26 4) + 3000)) 2 (by decide)) (by decide +kernel) (fun r9 μ9 hq => ?_)
                obtain ⟨hμ9, rfl⟩ := hq
                rw [hμ9]
                clear hμ9 μ9
                show Z 0 108 [(5, .int 2), (4, .int 1000), (3, .int 3000), (2, .int (nB (!(decide ((lg_cmp wd 0) = 0))))), (1, .int 1), (0, .ref 0)] [.ref 34, .int (μ.1 34 4), .ref 34] _
                refine zq_gfr hc hH (by rfl) (ci := 1) (f := 0) (q := 35) (by rfl) (by decide +kernel) (by rfl) (by decide +kernel) ?_
                refine zq_call hc (z_cx_ok hH (by rfl)) (hw2 _ (TE_ui (TE_ui (TE_rf _) (by intro i a hi h1 h2; omega)) (by intro i a hi h1 h2; omega)) d' (by omega)) (by decide +kernel) (fun r9 μ9 hq => ?_)
                obtain ⟨hμ9, rfl⟩ := hq
                rw [hμ9]
                clear hμ9 μ9
                show Z 0 114 [(5, .int 2), (4, .int 1000), (3, .int 3000), (2, .int (nB (!(decide ((lg_cmp wd 0) = 0))))), (1, .int 1), (0, .ref 0)] [.long w2, .int (μ.1 34 4), .ref 34] _
                refine z_rcs0 hc hH 2 (pc' := 116) (lv' := [(5, .int 2), (4, .int 1000), (3, .int 3000), (2, .int (nB (!(decide ((lg_cmp wd 0) = 0))))), (1, .int 1), (0, .ref 0)]) (st' := [.int (lg_cmp w2 0), .int (μ.1 34 4), .ref 34]) (by rfl) ?_
                refine zq_if hc hH (by rfl) (tg := 123) (by rfl) (fun h8 => ?_) (fun h8 => ?_)
                · have h8 : (decide ((lg_cmp w2 0) = 0)) = true := decide_eq_true (cm_eq9.mp h8)
                  refine z_rcs0 hc hH 3 (pc' := 127) (lv' := [(5, .int 2), (4, .int 1000), (3, .int 3000), (2, .int (nB (!(decide ((lg_cmp wd 0) = 0))))), (1, .int 1), (0, .ref 0)]) (st' := [.int ((μ.1 34 4) + (-1000)), .ref 34]) (by rfl) ?_
                  refine zq_pfi hc hH (by rfl) (ci := 1) (f := 4) (by rfl) (by decide +kernel) (by rfl) ?_
                  show Z 0 130 [(5, .int 2), (4, .int 1000), (3, .int 3000), (2, .int (nB (!(decide ((lg_cmp wd 0) = 0))))), (1, .int 1), (0, .ref 0)] [] (z_ui (z_ui (z_ui μ 18 4 ((μ.1 18 4) + (-1000))) 26 4 ((μ.1 26 4) + 3000)) 34 4 ((μ.1 34 4) + (-1000)))
                  refine z_rcs0 hc hH 7 (pc' := 95) (lv' := [(5, .int 3), (4, .int 1000), (3, .int 3000), (2, .int (nB (!(decide ((lg_cmp wd 0) = 0))))), (1, .int 1), (0, .ref 0)]) (st' := [.int 3, .ref 0]) (by rfl) ?_
                  refine zq_call hc (z_cx_ok hH (by rfl)) (gc_at d' (by omega) (z_ui (z_ui (z_ui μ 18 4 ((μ.1 18 4) + (-1000))) 26 4 ((μ.1 26 4) + 3000)) 34 4 ((μ.1 34 4) + (-1000))) 3 (by decide)) (by decide +kernel) (fun r9 μ9 hq => ?_)
                  obtain ⟨hμ9, rfl⟩ := hq
                  rw [hμ9]
                  clear hμ9 μ9
                  show Z 0 98 [(5, .int 3), (4, .int 1000), (3, .int 3000), (2, .int (nB (!(decide ((lg_cmp wd 0) = 0))))), (1, .int 1), (0, .ref 0)] [.ref 42] _
                  refine z_rcs0 hc hH 1 (pc' := 99) (lv' := [(5, .int 3), (4, .int 1000), (3, .int 3000), (2, .int (nB (!(decide ((lg_cmp wd 0) = 0))))), (1, .int 1), (0, .ref 0)]) (st' := [.ref 42, .ref 42]) (by rfl) ?_
                  refine zq_gfi hc hH (by rfl) (ci := 1) (f := 4) (by rfl) (by decide +kernel) (by rfl) ?_
                  refine zV1 (Z := Z) (Eq.trans (ui_o (by first | decide | omega)) (Eq.trans (ui_o (by first | decide | omega)) (ui_o (by first | decide | omega)))) ?_
                  refine z_rcs0 hc hH 2 (pc' := 105) (lv' := [(5, .int 3), (4, .int 1000), (3, .int 3000), (2, .int (nB (!(decide ((lg_cmp wd 0) = 0))))), (1, .int 1), (0, .ref 0)]) (st' := [.int 3, .ref 0, .int (μ.1 42 4), .ref 42]) (by rfl) ?_
                  refine zq_call hc (z_cx_ok hH (by rfl)) (gc_at d' (by omega) (z_ui (z_ui (z_ui μ 18 4 ((μ.1 18 4) + (-1000))) 26 4 ((μ.1 26 4) + 3000)) 34 4 ((μ.1 34 4) + (-1000))) 3 (by decide)) (by decide +kernel) (fun r9 μ9 hq => ?_)
                  obtain ⟨hμ9, rfl⟩ := hq
                  rw [hμ9]
                  clear hμ9 μ9
                  show Z 0 108 [(5, .int 3), (4, .int 1000), (3, .int 3000), (2, .int (nB (!(decide ((lg_cmp wd 0) = 0))))), (1, .int 1), (0, .ref 0)] [.ref 42, .int (μ.1 42 4), .ref 42] _
                  refine zq_gfr hc hH (by rfl) (ci := 1) (f := 0) (q := 43) (by rfl) (by decide +kernel) (by rfl) (by decide +kernel) ?_
                  refine zq_call hc (z_cx_ok hH (by rfl)) (hw3 _ (TE_ui (TE_ui (TE_ui (TE_rf _) (by intro i a hi h1 h2; omega)) (by intro i a hi h1 h2; omega)) (by intro i a hi h1 h2; omega)) d' (by omega)) (by decide +kernel) (fun r9 μ9 hq => ?_)
                  obtain ⟨hμ9, rfl⟩ := hq
                  rw [hμ9]
                  clear hμ9 μ9
                  show Z 0 114 [(5, .int 3), (4, .int 1000), (3, .int 3000), (2, .int (nB (!(decide ((lg_cmp wd 0) = 0))))), (1, .int 1), (0, .ref 0)] [.long w3, .int (μ.1 42 4), .ref 42] _
                  refine z_rcs0 hc hH 2 (pc' := 116) (lv' := [(5, .int 3), (4, .int 1000), (3, .int 3000), (2, .int (nB (!(decide ((lg_cmp wd 0) = 0))))), (1, .int 1), (0, .ref 0)]) (st' := [.int (lg_cmp w3 0), .int (μ.1 42 4), .ref 42]) (by rfl) ?_
                  refine zq_if hc hH (by rfl) (tg := 123) (by rfl) (fun h9 => ?_) (fun h9 => ?_)
                  · have h9 : (decide ((lg_cmp w3 0) = 0)) = true := decide_eq_true (cm_eq9.mp h9)
                    refine z_rcs0 hc hH 3 (pc' := 127) (lv' := [(5, .int 3), (4, .int 1000), (3, .int 3000), (2, .int (nB (!(decide ((lg_cmp wd 0) = 0))))), (1, .int 1), (0, .ref 0)]) (st' := [.int ((μ.1 42 4) + (-1000)), .ref 42]) (by rfl) ?_
                    refine zq_pfi hc hH (by rfl) (ci := 1) (f := 4) (by rfl) (by decide +kernel) (by rfl) ?_
                    show Z 0 130 [(5, .int 3), (4, .int 1000), (3, .int 3000), (2, .int (nB (!(decide ((lg_cmp wd 0) = 0))))), (1, .int 1), (0, .ref 0)] [] (z_ui (z_ui (z_ui (z_ui μ 18 4 ((μ.1 18 4) + (-1000))) 26 4 ((μ.1 26 4) + 3000)) 34 4 ((μ.1 34 4) + (-1000))) 42 4 ((μ.1 42 4) + (-1000)))
                    refine z_rcs0 hc hH 8 (pc' := 139) (lv' := [(5, .int 4), (4, .int 1000), (3, .int 3000), (2, .int (nB (!(decide ((lg_cmp wd 0) = 0))))), (1, .int 1), (0, .ref 0)]) (st' := [.int 0, .int (nB (!(decide ((lg_cmp wd 0) = 0)))), .ref 0]) (by rfl) ?_
                    refine zq_call hc (z_cx_ok hH (by rfl)) (gc_endHandB d' (by omega) (z_ui (z_ui (z_ui (z_ui μ 18 4 ((μ.1 18 4) + (-1000))) 26 4 ((μ.1 26 4) + 3000)) 34 4 ((μ.1 34 4) + (-1000))) 42 4 ((μ.1 42 4) + (-1000))) (!(decide ((lg_cmp wd 0) = 0))) false dl e (by rw [ui_o (by first | decide | omega), ui_o (by first | decide | omega), ui_o (by first | decide | omega), ui_o (by first | decide | omega)]; exact hdl) hdl4 he) (by decide +kernel) (fun r9 μ9 hq => ?_)
                    obtain ⟨rfl, rfl⟩ := hq
                    show Z 0 142 [(5, .int 4), (4, .int 1000), (3, .int 3000), (2, .int (nB (!(decide ((lg_cmp wd 0) = 0))))), (1, .int 1), (0, .ref 0)] [] (eHB (z_ui (z_ui (z_ui (z_ui μ 18 4 ((μ.1 18 4) + (-1000))) 26 4 ((μ.1 26 4) + 3000)) 34 4 ((μ.1 34 4) + (-1000))) 42 4 ((μ.1 42 4) + (-1000))) (!(decide ((lg_cmp wd 0) = 0))) false (xBk (z_ui (z_ui (z_ui (z_ui μ 18 4 ((μ.1 18 4) + (-1000))) 26 4 ((μ.1 26 4) + 3000)) 34 4 ((μ.1 34 4) + (-1000))) 42 4 ((μ.1 42 4) + (-1000)))) dl e (rcM (z_ui (z_ui (z_ui (z_ui μ 18 4 ((μ.1 18 4) + (-1000))) 26 4 ((μ.1 26 4) + 3000)) 34 4 ((μ.1 34 4) + (-1000))) 42 4 ((μ.1 42 4) + (-1000)))))
                    exact hr 0 142 _ _ _ none (by decide +kernel) (by rfl) (⟨rfl, rfl⟩)
                  · have h9 : (decide ((lg_cmp w3 0) = 0)) = false := decide_eq_false (cn_eq.mp h9)
                    exact absurd (Eq.trans (Eq.symm (hb3)) h9) (by decide)
                · have h8 : (decide ((lg_cmp w2 0) = 0)) = false := decide_eq_false (cn_eq.mp h8)
                  exact absurd (Eq.trans (Eq.symm (hb2)) h8) (by decide)
            · have h6 : (decide ((lg_cmp w0 0) = 0)) = false := decide_eq_false (cn_eq.mp h6)
              exact absurd (Eq.trans (Eq.symm (hb0)) h6) (by decide)
          refine zq_if hc hH (by rfl) (tg := 57) (by rfl) (fun h10 => ?_) (fun h10 => ?_)
          · have h10 : (decide ((lg_cmp wd 0) = 0)) = true := decide_eq_true (cm_eq9.mp h10)
            refine z_rcs hc hH 1 (pc' := 58) (lv' := [(2, .int 4), (1, .int 1), (0, .ref 0)]) (st' := [.int 0]) (μ' := μ) (by rfl) ?_
            exact zJ hJ5 rfl (by first | with_reducible rfl | (simp only [h10, lb_f, Int64.or_zero, Int32.add_zero, nB_t, nB_f, Bool.not_true, Bool.not_false, Bool.and_true, Bool.true_and, Bool.false_and, Bool.and_false, Bool.or_true, Bool.true_or, Bool.false_or, Bool.or_false, cond_true, cond_false]; done) | rfl) rfl
          · have h10 : (decide ((lg_cmp wd 0) = 0)) = false := decide_eq_false (cn_eq.mp h10)
            refine z_rcs hc hH 2 (pc' := 58) (lv' := [(2, .int 4), (1, .int 1), (0, .ref 0)]) (st' := [.int 1]) (μ' := μ) (by rfl) ?_
            exact zJ hJ5 rfl (by first | with_reducible rfl | (simp only [h10, lb_f, Int64.or_zero, Int32.add_zero, nB_t, nB_f, Bool.not_true, Bool.not_false, Bool.and_true, Bool.true_and, Bool.false_and, Bool.and_false, Bool.or_true, Bool.true_or, Bool.false_or, Bool.or_false, cond_true, cond_false]; done) | rfl) rfl
        · have h4 : (decide ((lg_cmp w3 0) = 0)) = false := decide_eq_false (cn_eq.mp h4)
          exact absurd (Eq.trans (Eq.symm (hb3)) h4) (by decide)
      · have h3 : (decide ((lg_cmp w2 0) = 0)) = false := decide_eq_false (cn_eq.mp h3)
        exact absurd (Eq.trans (Eq.symm (hb2)) h3) (by decide)
  · have h1 : (decide ((lg_cmp w0 0) = 0)) = false := decide_eq_false (cn_eq.mp h1)
    exact absurd (Eq.trans (Eq.symm (hb0)) h1) (by decide)
theorem gc_endUnwon0101 (d : Nat) (hd : 8 ≤ d) (μ : zM) (dl e : Nat) (hdl : μ.1 0 9 = nI dl) (hdl4 : dl < 4) (he : (dl + 1) % 4 = e) (w0 : Int64) (hw0 : ∀ μ1, TE μ μ1 → ∀ d, 7 ≤ d → z_C d mi_X3_waiting [.ref 19] μ1 (zR μ1 (.long w0))) (w1 : Int64) (hw1 : ∀ μ1, TE μ μ1 → ∀ d, 7 ≤ d → z_C d mi_X3_waiting [.ref 27] μ1 (zR μ1 (.long w1))) (w2 : Int64) (hw2 : ∀ μ1, TE μ μ1 → ∀ d, 7 ≤ d → z_C d mi_X3_waiting [.ref 35] μ1 (zR μ1 (.long w2))) (w3 : Int64) (hw3 : ∀ μ1, TE μ μ1 → ∀ d, 7 ≤ d → z_C d mi_X3_waiting [.ref 43] μ1 (zR μ1 (.long w3))) (wd : Int64) (hwd : ∀ μ1, TE μ μ1 → ∀ d, 7 ≤ d → z_C d mi_X3_waiting [.ref (19 + 8 * dl)] μ1 (zR μ1 (.long wd))) (hb0 : decide (lg_cmp w0 0 = 0) = true) (hb1 : decide (lg_cmp w1 0 = 0) = false) (hb2 : decide (lg_cmp w2 0 = 0) = true) (hb3 : decide (lg_cmp w3 0 = 0) = false) : z_C d mi_X6_endUnwon [.ref 0] μ (fun r μ' => r = none ∧ μ' = eHB (z_ui (z_ui (z_ui (z_ui μ 18 4 ((μ.1 18 4) + (-1500))) 26 4 ((μ.1 26 4) + 1500)) 34 4 ((μ.1 34 4) + (-1500))) 42 4 ((μ.1 42 4) + 1500)) (!(decide ((lg_cmp wd 0) = 0))) false (xBk (z_ui (z_ui (z_ui (z_ui μ 18 4 ((μ.1 18 4) + (-1500))) 26 4 ((μ.1 26 4) + 1500)) 34 4 ((μ.1 34 4) + (-1500))) 42 4 ((μ.1 42 4) + 1500))) dl e (rcM (z_ui (z_ui (z_ui (z_ui μ 18 4 ((μ.1 18 4) + (-1500))) 26 4 ((μ.1 26 4) + 1500)) 34 4 ((μ.1 34 4) + (-1500))) 42 4 ((μ.1 42 4) + 1500)))) := by
  refine z_C_in (by decide) (by omega) (fun d' Z ed hc hr => ?_)
  have hH : zH mi_X6_endUnwon zt_X6_endUnwon 79 6 6 := hh_X6_endUnwon
  refine z_rcs hc hH 9 (pc' := 11) (lv' := [(2, .int 0), (1, .int 0), (0, .ref 0)]) (st' := [.int 0, .ref 0]) (μ' := μ) (by rfl) ?_
  refine zq_call hc (z_cx_ok hH (by rfl)) (gc_at d' (by omega) μ 0 (by decide)) (by decide +kernel) (fun r9 μ9 hq => ?_)
  obtain ⟨hμ9, rfl⟩ := hq
  rw [hμ9]
  clear hμ9 μ9
  show Z 0 14 [(2, .int 0), (1, .int 0), (0, .ref 0)] [.ref 18] μ
  refine zq_gfr hc hH (by rfl) (ci := 1) (f := 0) (q := 19) (by rfl) (by decide +kernel) (by rfl) (by decide +kernel) ?_
  refine zq_call hc (z_cx_ok hH (by rfl)) (hw0 _ (TE_rf _) d' (by omega)) (by decide +kernel) (fun r9 μ9 hq => ?_)
  obtain ⟨hμ9, rfl⟩ := hq
  rw [hμ9]
  clear hμ9 μ9
  show Z 0 20 [(2, .int 0), (1, .int 0), (0, .ref 0)] [.long w0] μ
  refine z_rcs hc hH 2 (pc' := 22) (lv' := [(2, .int 0), (1, .int 0), (0, .ref 0)]) (st' := [.int (lg_cmp w0 0)]) (μ' := μ) (by rfl) ?_
  refine zq_if hc hH (by rfl) (tg := 28) (by rfl) (fun h1 => ?_) (fun h1 => ?_)
  · have h1 : (decide ((lg_cmp w0 0) = 0)) = true := decide_eq_true (cm_eq9.mp h1)
    refine z_rcs hc hH 7 (pc' := 11) (lv' := [(2, .int 1), (1, .int 0), (0, .ref 0)]) (st' := [.int 1, .ref 0]) (μ' := μ) (by rfl) ?_
    refine zq_call hc (z_cx_ok hH (by rfl)) (gc_at d' (by omega) μ 1 (by decide)) (by decide +kernel) (fun r9 μ9 hq => ?_)
    obtain ⟨hμ9, rfl⟩ := hq
    rw [hμ9]
    clear hμ9 μ9
    show Z 0 14 [(2, .int 1), (1, .int 0), (0, .ref 0)] [.ref 26] μ
    refine zq_gfr hc hH (by rfl) (ci := 1) (f := 0) (q := 27) (by rfl) (by decide +kernel) (by rfl) (by decide +kernel) ?_
    refine zq_call hc (z_cx_ok hH (by rfl)) (hw1 _ (TE_rf _) d' (by omega)) (by decide +kernel) (fun r9 μ9 hq => ?_)
    obtain ⟨hμ9, rfl⟩ := hq
    rw [hμ9]
    clear hμ9 μ9
    show Z 0 20 [(2, .int 1), (1, .int 0), (0, .ref 0)] [.long w1] μ
    refine z_rcs hc hH 2 (pc' := 22) (lv' := [(2, .int 1), (1, .int 0), (0, .ref 0)]) (st' := [.int (lg_cmp w1 0)]) (μ' := μ) (by rfl) ?_
    refine zq_if hc hH (by rfl) (tg := 28) (by rfl) (fun h2 => ?_) (fun h2 => ?_)
    · have h2 : (decide ((lg_cmp w1 0) = 0)) = true := decide_eq_true (cm_eq9.mp h2)
      exact absurd (Eq.trans (Eq.symm (hb1)) h2) (by decide)
    · have h2 : (decide ((lg_cmp w1 0) = 0)) = false := decide_eq_false (cn_eq.mp h2)
      refine z_rcs hc hH 8 (pc' := 11) (lv' := [(2, .int 2), (1, .int 1), (0, .ref 0)]) (st' := [.int 2, .ref 0]) (μ' := μ) (by rfl) ?_
      refine zq_call hc (z_cx_ok hH (by rfl)) (gc_at d' (by omega) μ 2 (by decide)) (by decide +kernel) (fun r9 μ9 hq => ?_)
      obtain ⟨hμ9, rfl⟩ := hq
      rw [hμ9]
      clear hμ9 μ9
      show Z 0 14 [(2, .int 2), (1, .int 1), (0, .ref 0)] [.ref 34] μ
      refine zq_gfr hc hH (by rfl) (ci := 1) (f := 0) (q := 35) (by rfl) (by decide +kernel) (by rfl) (by decide +kernel) ?_
      refine zq_call hc (z_cx_ok hH (by rfl)) (hw2 _ (TE_rf _) d' (by omega)) (by decide +kernel) (fun r9 μ9 hq => ?_)
      obtain ⟨hμ9, rfl⟩ := hq
      rw [hμ9]
      clear hμ9 μ9
      show Z 0 20 [(2, .int 2), (1, .int 1), (0, .ref 0)] [.long w2] μ
      refine z_rcs hc hH 2 (pc' := 22) (lv' := [(2, .int 2), (1, .int 1), (0, .ref 0)]) (st' := [.int (lg_cmp w2 0)]) (μ' := μ) (by rfl) ?_
      refine zq_if hc hH (by rfl) (tg := 28) (by rfl) (fun h3 => ?_) (fun h3 => ?_)
      · have h3 : (decide ((lg_cmp w2 0) = 0)) = true := decide_eq_true (cm_eq9.mp h3)
        refine z_rcs hc hH 7 (pc' := 11) (lv' := [(2, .int 3), (1, .int 1), (0, .ref 0)]) (st' := [.int 3, .ref 0]) (μ' := μ) (by rfl) ?_
        refine zq_call hc (z_cx_ok hH (by rfl)) (gc_at d' (by omega) μ 3 (by decide)) (by decide +kernel) (fun r9 μ9 hq => ?_)
        obtain ⟨hμ9, rfl⟩ := hq
        rw [hμ9]
        clear hμ9 μ9
        show Z 0 14 [(2, .int 3), (1, .int 1), (0, .ref 0)] [.ref 42] μ
        refine zq_gfr hc hH (by rfl) (ci := 1) (f := 0) (q := 43) (by rfl) (by decide +kernel) (by rfl) (by decide +kernel) ?_
        refine zq_call hc (z_cx_ok hH (by rfl)) (hw3 _ (TE_rf _) d' (by omega)) (by decide +kernel) (fun r9 μ9 hq => ?_)
        obtain ⟨hμ9, rfl⟩ := hq
        rw [hμ9]
        clear hμ9 μ9
        show Z 0 20 [(2, .int 3), (1, .int 1), (0, .ref 0)] [.long w3] μ
        refine z_rcs hc hH 2 (pc' := 22) (lv' := [(2, .int 3), (1, .int 1), (0, .ref 0)]) (st' := [.int (lg_cmp w3 0)]) (μ' := μ) (by rfl) ?_
        refine zq_if hc hH (by rfl) (tg := 28) (by rfl) (fun h4 => ?_) (fun h4 => ?_)
        · have h4 : (decide ((lg_cmp w3 0) = 0)) = true := decide_eq_true (cm_eq9.mp h4)
          exact absurd (Eq.trans (Eq.symm (hb3)) h4) (by decide)
        · have h4 : (decide ((lg_cmp w3 0) = 0)) = false := decide_eq_false (cn_eq.mp h4)
          refine z_rcs hc hH 8 (pc' := 36) (lv' := [(2, .int 4), (1, .int 2), (0, .ref 0)]) (st' := [.ref 0, .ref 0]) (μ' := μ) (by rfl) ?_
          refine zq_gfi hc hH (by rfl) (ci := 5) (f := 9) (by rfl) (by decide +kernel) (by rfl) ?_
          rw [hdl]
          refine zq_call hc (z_cx_ok hH (by rfl)) (gc_at4 d' (by omega) μ dl hdl4) (by decide +kernel) (fun r9 μ9 hq => ?_)
          obtain ⟨hμ9, rfl⟩ := hq
          rw [hμ9]
          clear hμ9 μ9
          show Z 0 42 [(2, .int 4), (1, .int 2), (0, .ref 0)] [.ref (18 + 8 * dl)] μ
          refine zq_gfr hc hH (by rfl) (ci := 1) (f := 0) (q := 19 + 8 * dl) (by rfl) (sj (P := fun i => okf 79 1 0 (18 + 8 * i)) hdl4 (by decide +kernel)) (by rfl) (sj (P := fun i => Nat.beq (z_gr (18 + 8 * i) 0) (19 + 8 * i)) hdl4 (by decide +kernel)) ?_
          refine zq_call hc (z_clv9 hH (by rfl) (by rfl) (by rfl) (by rfl) (sj (P := fun i => okr 79 2 (19 + 8 * i)) hdl4 (by decide +kernel)) (by rfl) (by rfl)) ((hwd _ (TE_rf _) d' (by omega))) (by decide +kernel) (fun r9 μ9 hq => ?_)
          obtain ⟨hμ9, rfl⟩ := hq
          rw [hμ9]
          clear hμ9 μ9
          show Z 0 48 [(2, .int 4), (1, .int 2), (0, .ref 0)] [.long wd] μ
          refine z_rcs hc hH 2 (pc' := 50) (lv' := [(2, .int 4), (1, .int 2), (0, .ref 0)]) (st' := [.int (lg_cmp wd 0)]) (μ' := μ) (by rfl) ?_
          have hJ5 : Z 0 58 [(2, .int 4), (1, .int 2), (0, .ref 0)] [.int (nB (!(decide ((lg_cmp wd 0) = 0))))] μ := by
            refine z_rcs hc hH 23 (pc' := 95) (lv' := [(5, .int 0), (4, .int 1500), (3, .int 1500), (2, .int (nB (!(decide ((lg_cmp wd 0) = 0))))), (1, .int 2), (0, .ref 0)]) (st' := [.int 0, .ref 0]) (μ' := μ) (by rfl) ?_
            refine zq_call hc (z_cx_ok hH (by rfl)) (gc_at d' (by omega) μ 0 (by decide)) (by decide +kernel) (fun r9 μ9 hq => ?_)
            obtain ⟨hμ9, rfl⟩ := hq
            rw [hμ9]
            clear hμ9 μ9
            show Z 0 98 [(5, .int 0), (4, .int 1500), (3, .int 1500), (2, .int (nB (!(decide ((lg_cmp wd 0) = 0))))), (1, .int 2), (0, .ref 0)] [.ref 18] μ
            refine z_rcs hc hH 1 (pc' := 99) (lv' := [(5, .int 0), (4, .int 1500), (3, .int 1500), (2, .int (nB (!(decide ((lg_cmp wd 0) = 0))))), (1, .int 2), (0, .ref 0)]) (st' := [.ref 18, .ref 18]) (μ' := μ) (by rfl) ?_
            refine zq_gfi hc hH (by rfl) (ci := 1) (f := 4) (by rfl) (by decide +kernel) (by rfl) ?_
            refine z_rcs hc hH 2 (pc' := 105) (lv' := [(5, .int 0), (4, .int 1500), (3, .int 1500), (2, .int (nB (!(decide ((lg_cmp wd 0) = 0))))), (1, .int 2), (0, .ref 0)]) (st' := [.int 0, .ref 0, .int (μ.1 18 4), .ref 18]) (μ' := μ) (by rfl) ?_
            refine zq_call hc (z_cx_ok hH (by rfl)) (gc_at d' (by omega) μ 0 (by decide)) (by decide +kernel) (fun r9 μ9 hq => ?_)
            obtain ⟨hμ9, rfl⟩ := hq
            rw [hμ9]
            clear hμ9 μ9
            show Z 0 108 [(5, .int 0), (4, .int 1500), (3, .int 1500), (2, .int (nB (!(decide ((lg_cmp wd 0) = 0))))), (1, .int 2), (0, .ref 0)] [.ref 18, .int (μ.1 18 4), .ref 18] μ
            refine zq_gfr hc hH (by rfl) (ci := 1) (f := 0) (q := 19) (by rfl) (by decide +kernel) (by rfl) (by decide +kernel) ?_
            refine zq_call hc (z_cx_ok hH (by rfl)) (hw0 _ (TE_rf _) d' (by omega)) (by decide +kernel) (fun r9 μ9 hq => ?_)
            obtain ⟨hμ9, rfl⟩ := hq
            rw [hμ9]
            clear hμ9 μ9
            show Z 0 114 [(5, .int 0), (4, .int 1500), (3, .int 1500), (2, .int (nB (!(decide ((lg_cmp wd 0) = 0))))), (1, .int 2), (0, .ref 0)] [.long w0, .int (μ.1 18 4), .ref 18] μ
            refine z_rcs hc hH 2 (pc' := 116) (lv' := [(5, .int 0), (4, .int 1500), (3, .int 1500), (2, .int (nB (!(decide ((lg_cmp wd 0) = 0))))), (1, .int 2), (0, .ref 0)]) (st' := [.int (lg_cmp w0 0), .int (μ.1 18 4), .ref 18]) (μ' := μ) (by rfl) ?_
            refine zq_if hc hH (by rfl) (tg := 123) (by rfl) (fun h6 => ?_) (fun h6 => ?_)
            · have h6 : (decide ((lg_cmp w0 0) = 0)) = true := decide_eq_true (cm_eq9.mp h6)
              refine z_rcs hc hH 3 (pc' := 127) (lv' := [(5, .int 0), (4, .int 1500), (3, .int 1500), (2, .int (nB (!(decide ((lg_cmp wd 0) = 0))))), (1, .int 2), (0, .ref 0)]) (st' := [.int ((μ.1 18 4) + (-1500)), .ref 18]) (μ' := μ) (by rfl) ?_
              refine zq_pfi hc hH (by rfl) (ci := 1) (f := 4) (by rfl) (by decide +kernel) (by rfl) ?_
              show Z 0 130 [(5, .int 0), (4, .int 1500), (3, .int 1500), (2, .int (nB (!(decide ((lg_cmp wd 0) = 0))))), (1, .int 2), (0, .ref 0)] [] (z_ui μ 18 4 ((μ.1 18 4) + (-1500)))
              refine z_rcs0 hc hH 7 (pc' := 95) (lv' := [(5, .int 1), (4, .int 1500), (3, .int 1500), (2, .int (nB (!(decide ((lg_cmp wd 0) = 0))))), (1, .int 2), (0, .ref 0)]) (st' := [.int 1, .ref 0]) (by rfl) ?_
              refine zq_call hc (z_cx_ok hH (by rfl)) (gc_at d' (by omega) (z_ui μ 18 4 ((μ.1 18 4) + (-1500))) 1 (by decide)) (by decide +kernel) (fun r9 μ9 hq => ?_)
              obtain ⟨hμ9, rfl⟩ := hq
              rw [hμ9]
              clear hμ9 μ9
              show Z 0 98 [(5, .int 1), (4, .int 1500), (3, .int 1500), (2, .int (nB (!(decide ((lg_cmp wd 0) = 0))))), (1, .int 2), (0, .ref 0)] [.ref 26] _
              refine z_rcs0 hc hH 1 (pc' := 99) (lv' := [(5, .int 1), (4, .int 1500), (3, .int 1500), (2, .int (nB (!(decide ((lg_cmp wd 0) = 0))))), (1, .int 2), (0, .ref 0)]) (st' := [.ref 26, .ref 26]) (by rfl) ?_
              refine zq_gfi hc hH (by rfl) (ci := 1) (f := 4) (by rfl) (by decide +kernel) (by rfl) ?_
              refine zV1 (Z := Z) (ui_o (by first | decide | omega)) ?_
              refine z_rcs0 hc hH 2 (pc' := 105) (lv' := [(5, .int 1), (4, .int 1500), (3, .int 1500), (2, .int (nB (!(decide ((lg_cmp wd 0) = 0))))), (1, .int 2), (0, .ref 0)]) (st' := [.int 1, .ref 0, .int (μ.1 26 4), .ref 26]) (by rfl) ?_
              refine zq_call hc (z_cx_ok hH (by rfl)) (gc_at d' (by omega) (z_ui μ 18 4 ((μ.1 18 4) + (-1500))) 1 (by decide)) (by decide +kernel) (fun r9 μ9 hq => ?_)
              obtain ⟨hμ9, rfl⟩ := hq
              rw [hμ9]
              clear hμ9 μ9
              show Z 0 108 [(5, .int 1), (4, .int 1500), (3, .int 1500), (2, .int (nB (!(decide ((lg_cmp wd 0) = 0))))), (1, .int 2), (0, .ref 0)] [.ref 26, .int (μ.1 26 4), .ref 26] _
              refine zq_gfr hc hH (by rfl) (ci := 1) (f := 0) (q := 27) (by rfl) (by decide +kernel) (by rfl) (by decide +kernel) ?_
              refine zq_call hc (z_cx_ok hH (by rfl)) (hw1 _ (TE_ui (TE_rf _) (by intro i a hi h1 h2; omega)) d' (by omega)) (by decide +kernel) (fun r9 μ9 hq => ?_)
              obtain ⟨hμ9, rfl⟩ := hq
              rw [hμ9]
              clear hμ9 μ9
              show Z 0 114 [(5, .int 1), (4, .int 1500), (3, .int 1500), (2, .int (nB (!(decide ((lg_cmp wd 0) = 0))))), (1, .int 2), (0, .ref 0)] [.long w1, .int (μ.1 26 4), .ref 26] _
              refine z_rcs0 hc hH 2 (pc' := 116) (lv' := [(5, .int 1), (4, .int 1500), (3, .int 1500), (2, .int (nB (!(decide ((lg_cmp wd 0) = 0))))), (1, .int 2), (0, .ref 0)]) (st' := [.int (lg_cmp w1 0), .int (μ.1 26 4), .ref 26]) (by rfl) ?_
              refine zq_if hc hH (by rfl) (tg := 123) (by rfl) (fun h7 => ?_) (fun h7 => ?_)
              · have h7 : (decide ((lg_cmp w1 0) = 0)) = true := decide_eq_true (cm_eq9.mp h7)
                exact absurd (Eq.trans (Eq.symm (hb1)) h7) (by decide)
              · have h7 : (decide ((lg_cmp w1 0) = 0)) = false := decide_eq_false (cn_eq.mp h7)
                refine z_rcs0 hc hH 3 (pc' := 127) (lv' := [(5, .int 1), (4, .int 1500), (3, .int 1500), (2, .int (nB (!(decide ((lg_cmp wd 0) = 0))))), (1, .int 2), (0, .ref 0)]) (st' := [.int ((μ.1 26 4) + 1500), .ref 26]) (by rfl) ?_
                refine zq_pfi hc hH (by rfl) (ci := 1) (f := 4) (by rfl) (by decide +kernel) (by rfl) ?_
                show Z 0 130 [(5, .int 1), (4, .int 1500), (3, .int 1500), (2, .int (nB (!(decide ((lg_cmp wd 0) = 0))))), (1, .int 2), (0, .ref 0)] [] (z_ui (z_ui μ 18 4 ((μ.1 18 4) + (-1500))) 26 4 ((μ.1 26 4) + 1500))
                refine z_rcs0 hc hH 7 (pc' := 95) (lv' := [(5, .int 2), (4, .int 1500), (3, .int 1500), (2, .int (nB (!(decide ((lg_cmp wd 0) = 0))))), (1, .int 2), (0, .ref 0)]) (st' := [.int 2, .ref 0]) (by rfl) ?_
                refine zq_call hc (z_cx_ok hH (by rfl)) (gc_at d' (by omega) (z_ui (z_ui μ 18 4 ((μ.1 18 4) + (-1500))) 26 4 ((μ.1 26 4) + 1500)) 2 (by decide)) (by decide +kernel) (fun r9 μ9 hq => ?_)
                obtain ⟨hμ9, rfl⟩ := hq
                rw [hμ9]
                clear hμ9 μ9
                show Z 0 98 [(5, .int 2), (4, .int 1500), (3, .int 1500), (2, .int (nB (!(decide ((lg_cmp wd 0) = 0))))), (1, .int 2), (0, .ref 0)] [.ref 34] _
                refine z_rcs0 hc hH 1 (pc' := 99) (lv' := [(5, .int 2), (4, .int 1500), (3, .int 1500), (2, .int (nB (!(decide ((lg_cmp wd 0) = 0))))), (1, .int 2), (0, .ref 0)]) (st' := [.ref 34, .ref 34]) (by rfl) ?_
                refine zq_gfi hc hH (by rfl) (ci := 1) (f := 4) (by rfl) (by decide +kernel) (by rfl) ?_
                refine zV1 (Z := Z) (Eq.trans (ui_o (by first | decide | omega)) (ui_o (by first | decide | omega))) ?_
                refine z_rcs0 hc hH 2 (pc' := 105) (lv' := [(5, .int 2), (4, .int 1500), (3, .int 1500), (2, .int (nB (!(decide ((lg_cmp wd 0) = 0))))), (1, .int 2), (0, .ref 0)]) (st' := [.int 2, .ref 0, .int (μ.1 34 4), .ref 34]) (by rfl) ?_
                refine zq_call hc (z_cx_ok hH (by rfl)) (gc_at d' (by omega) (z_ui (z_ui μ 18 4 ((μ.1 18 4) + (-1500))) 26 4 ((μ.1 26 4) + 1500)) 2 (by decide)) (by decide +kernel) (fun r9 μ9 hq => ?_)
                obtain ⟨hμ9, rfl⟩ := hq
                rw [hμ9]
                clear hμ9 μ9
                show Z 0 108 [(5, .int 2), (4, .int 1500), (3, .int 1500), (2, .int (nB (!(decide ((lg_cmp wd 0) = 0))))), (1, .int 2), (0, .ref 0)] [.ref 34, .int (μ.1 34 4), .ref 34] _
                refine zq_gfr hc hH (by rfl) (ci := 1) (f := 0) (q := 35) (by rfl) (by decide +kernel) (by rfl) (by decide +kernel) ?_
                refine zq_call hc (z_cx_ok hH (by rfl)) (hw2 _ (TE_ui (TE_ui (TE_rf _) (by intro i a hi h1 h2; omega)) (by intro i a hi h1 h2; omega)) d' (by omega)) (by decide +kernel) (fun r9 μ9 hq => ?_)
                obtain ⟨hμ9, rfl⟩ := hq
                rw [hμ9]
                clear hμ9 μ9
                show Z 0 114 [(5, .int 2), (4, .int 1500), (3, .int 1500), (2, .int (nB (!(decide ((lg_cmp wd 0) = 0))))), (1, .int 2), (0, .ref 0)] [.long w2, .int (μ.1 34 4), .ref 34] _
                refine z_rcs0 hc hH 2 (pc' := 116) (lv' := [(5, .int 2), (4, .int 1500), (3, .int 1500), (2, .int (nB (!(decide ((lg_cmp wd 0) = 0))))), (1, .int 2), (0, .ref 0)]) (st' := [.int (lg_cmp w2 0), .int (μ.1 34 4), .ref 34]) (by rfl) ?_
                refine zq_if hc hH (by rfl) (tg := 123) (by rfl) (fun h8 => ?_) (fun h8 => ?_)
                · have h8 : (decide ((lg_cmp w2 0) = 0)) = true := decide_eq_true (cm_eq9.mp h8)
                  refine z_rcs0 hc hH 3 (pc' := 127) (lv' := [(5, .int 2), (4, .int 1500), (3, .int 1500), (2, .int (nB (!(decide ((lg_cmp wd 0) = 0))))), (1, .int 2), (0, .ref 0)]) (st' := [.int ((μ.1 34 4) + (-1500)), .ref 34]) (by rfl) ?_
                  refine zq_pfi hc hH (by rfl) (ci := 1) (f := 4) (by rfl) (by decide +kernel) (by rfl) ?_
                  show Z 0 130 [(5, .int 2), (4, .int 1500), (3, .int 1500), (2, .int (nB (!(decide ((lg_cmp wd 0) = 0))))), (1, .int 2), (0, .ref 0)] [] (z_ui (z_ui (z_ui μ 18 4 ((μ.1 18 4) + (-1500))) 26 4 ((μ.1 26 4) + 1500)) 34 4 ((μ.1 34 4) + (-1500)))
                  refine z_rcs0 hc hH 7 (pc' := 95) (lv' := [(5, .int 3), (4, .int 1500), (3, .int 1500), (2, .int (nB (!(decide ((lg_cmp wd 0) = 0))))), (1, .int 2), (0, .ref 0)]) (st' := [.int 3, .ref 0]) (by rfl) ?_
                  refine zq_call hc (z_cx_ok hH (by rfl)) (gc_at d' (by omega) (z_ui (z_ui (z_ui μ 18 4 ((μ.1 18 4) + (-1500))) 26 4 ((μ.1 26 4) + 1500)) 34 4 ((μ.1 34 4) + (-1500))) 3 (by decide)) (by decide +kernel) (fun r9 μ9 hq => ?_)
                  obtain ⟨hμ9, rfl⟩ := hq
                  rw [hμ9]
                  clear hμ9 μ9
                  show Z 0 98 [(5, .int 3), (4, .int 1500), (3, .int 1500), (2, .int (nB (!(decide ((lg_cmp wd 0) = 0))))), (1, .int 2), (0, .ref 0)] [.ref 42] _
                  refine z_rcs0 hc hH 1 (pc' := 99) (lv' := [(5, .int 3), (4, .int 1500), (3, .int 1500), (2, .int (nB (!(decide ((lg_cmp wd 0) = 0))))), (1, .int 2), (0, .ref 0)]) (st' := [.ref 42, .ref 42]) (by rfl) ?_
                  refine zq_gfi hc hH (by rfl) (ci := 1) (f := 4) (by rfl) (by decide +kernel) (by rfl) ?_
                  refine zV1 (Z := Z) (Eq.trans (ui_o (by first | decide | omega)) (Eq.trans (ui_o (by first | decide | omega)) (ui_o (by first | decide | omega)))) ?_
                  refine z_rcs0 hc hH 2 (pc' := 105) (lv' := [(5, .int 3), (4, .int 1500), (3, .int 1500), (2, .int (nB (!(decide ((lg_cmp wd 0) = 0))))), (1, .int 2), (0, .ref 0)]) (st' := [.int 3, .ref 0, .int (μ.1 42 4), .ref 42]) (by rfl) ?_
                  refine zq_call hc (z_cx_ok hH (by rfl)) (gc_at d' (by omega) (z_ui (z_ui (z_ui μ 18 4 ((μ.1 18 4) + (-1500))) 26 4 ((μ.1 26 4) + 1500)) 34 4 ((μ.1 34 4) + (-1500))) 3 (by decide)) (by decide +kernel) (fun r9 μ9 hq => ?_)
                  obtain ⟨hμ9, rfl⟩ := hq
                  rw [hμ9]
                  clear hμ9 μ9
                  show Z 0 108 [(5, .int 3), (4, .int 1500), (3, .int 1500), (2, .int (nB (!(decide ((lg_cmp wd 0) = 0))))), (1, .int 2), (0, .ref 0)] [.ref 42, .int (μ.1 42 4), .ref 42] _
                  refine zq_gfr hc hH (by rfl) (ci := 1) (f := 0) (q := 43) (by rfl) (by decide +kernel) (by rfl) (by decide +kernel) ?_
                  refine zq_call hc (z_cx_ok hH (by rfl)) (hw3 _ (TE_ui (TE_ui (TE_ui (TE_rf _) (by intro i a hi h1 h2; omega)) (by intro i a hi h1 h2; omega)) (by intro i a hi h1 h2; omega)) d' (by omega)) (by decide +kernel) (fun r9 μ9 hq => ?_)
                  obtain ⟨hμ9, rfl⟩ := hq
                  rw [hμ9]
                  clear hμ9 μ9
                  show Z 0 114 [(5, .int 3), (4, .int 1500), (3, .int 1500), (2, .int (nB (!(decide ((lg_cmp wd 0) = 0))))), (1, .int 2), (0, .ref 0)] [.long w3, .int (μ.1 42 4), .ref 42] _
                  refine z_rcs0 hc hH 2 (pc' := 116) (lv' := [(5, .int 3), (4, .int 1500), (3, .int 1500), (2, .int (nB (!(decide ((lg_cmp wd 0) = 0))))), (1, .int 2), (0, .ref 0)]) (st' := [.int (lg_cmp w3 0), .int (μ.1 42 4), .ref 42]) (by rfl) ?_
                  refine zq_if hc hH (by rfl) (tg := 123) (by rfl) (fun h9 => ?_) (fun h9 => ?_)
                  · have h9 : (decide ((lg_cmp w3 0) = 0)) = true := decide_eq_true (cm_eq9.mp h9)
                    exact absurd (Eq.trans (Eq.symm (hb3)) h9) (by decide)
                  · have h9 : (decide ((lg_cmp w3 0) = 0)) = false := decide_eq_false (cn_eq.mp h9)
                    refine z_rcs0 hc hH 3 (pc' := 127) (lv' := [(5, .int 3), (4, .int 1500), (3, .int 1500), (2, .int (nB (!(decide ((lg_cmp wd 0) = 0))))), (1, .int 2), (0, .ref 0)]) (st' := [.int ((μ.1 42 4) + 1500), .ref 42]) (by rfl) ?_
                    refine zq_pfi hc hH (by rfl) (ci := 1) (f := 4) (by rfl) (by decide +kernel) (by rfl) ?_
                    show Z 0 130 [(5, .int 3), (4, .int 1500), (3, .int 1500), (2, .int (nB (!(decide ((lg_cmp wd 0) = 0))))), (1, .int 2), (0, .ref 0)] [] (z_ui (z_ui (z_ui (z_ui μ 18 4 ((μ.1 18 4) + (-1500))) 26 4 ((μ.1 26 4) + 1500)) 34 4 ((μ.1 34 4) + (-1500))) 42 4 ((μ.1 42 4) + 1500))
                    refine z_rcs0 hc hH 8 (pc' := 139) (lv' := [(5, .int 4), (4, .int 1500), (3, .int 1500), (2, .int (nB (!(decide ((lg_cmp wd 0) = 0))))), (1, .int 2), (0, .ref 0)]) (st' := [.int 0, .int (nB (!(decide ((lg_cmp wd 0) = 0)))), .ref 0]) (by rfl) ?_
                    refine zq_call hc (z_cx_ok hH (by rfl)) (gc_endHandB d' (by omega) (z_ui (z_ui (z_ui (z_ui μ 18 4 ((μ.1 18 4) + (-1500))) 26 4 ((μ.1 26 4) + 1500)) 34 4 ((μ.1 34 4) + (-1500))) 42 4 ((μ.1 42 4) + 1500)) (!(decide ((lg_cmp wd 0) = 0))) false dl e (by rw [ui_o (by first | decide | omega), ui_o (by first | decide | omega), ui_o (by first | decide | omega), ui_o (by first | decide | omega)]; exact hdl) hdl4 he) (by decide +kernel) (fun r9 μ9 hq => ?_)
                    obtain ⟨rfl, rfl⟩ := hq
                    show Z 0 142 [(5, .int 4), (4, .int 1500), (3, .int 1500), (2, .int (nB (!(decide ((lg_cmp wd 0) = 0))))), (1, .int 2), (0, .ref 0)] [] (eHB (z_ui (z_ui (z_ui (z_ui μ 18 4 ((μ.1 18 4) + (-1500))) 26 4 ((μ.1 26 4) + 1500)) 34 4 ((μ.1 34 4) + (-1500))) 42 4 ((μ.1 42 4) + 1500)) (!(decide ((lg_cmp wd 0) = 0))) false (xBk (z_ui (z_ui (z_ui (z_ui μ 18 4 ((μ.1 18 4) + (-1500))) 26 4 ((μ.1 26 4) + 1500)) 34 4 ((μ.1 34 4) + (-1500))) 42 4 ((μ.1 42 4) + 1500))) dl e (rcM (z_ui (z_ui (z_ui (z_ui μ 18 4 ((μ.1 18 4) + (-1500))) 26 4 ((μ.1 26 4) + 1500)) 34 4 ((μ.1 34 4) + (-1500))) 42 4 ((μ.1 42 4) + 1500))))
                    exact hr 0 142 _ _ _ none (by decide +kernel) (by rfl) (⟨rfl, rfl⟩)
                · have h8 : (decide ((lg_cmp w2 0) = 0)) = false := decide_eq_false (cn_eq.mp h8)
                  exact absurd (Eq.trans (Eq.symm (hb2)) h8) (by decide)
            · have h6 : (decide ((lg_cmp w0 0) = 0)) = false := decide_eq_false (cn_eq.mp h6)
              exact absurd (Eq.trans (Eq.symm (hb0)) h6) (by decide)
          refine zq_if hc hH (by rfl) (tg := 57) (by rfl) (fun h10 => ?_) (fun h10 => ?_)
          · have h10 : (decide ((lg_cmp wd 0) = 0)) = true := decide_eq_true (cm_eq9.mp h10)
            refine z_rcs hc hH 1 (pc' := 58) (lv' := [(2, .int 4), (1, .int 2), (0, .ref 0)]) (st' := [.int 0]) (μ' := μ) (by rfl) ?_
            exact zJ hJ5 rfl (by first | with_reducible rfl | (simp only [h10, lb_f, Int64.or_zero, Int32.add_zero, nB_t, nB_f, Bool.not_true, Bool.not_false, Bool.and_true, Bool.true_and, Bool.false_and, Bool.and_false, Bool.or_true, Bool.true_or, Bool.false_or, Bool.or_false, cond_true, cond_false]; done) | rfl) rfl
          · have h10 : (decide ((lg_cmp wd 0) = 0)) = false := decide_eq_false (cn_eq.mp h10)
            refine z_rcs hc hH 2 (pc' := 58) (lv' := [(2, .int 4), (1, .int 2), (0, .ref 0)]) (st' := [.int 1]) (μ' := μ) (by rfl) ?_
            exact zJ hJ5 rfl (by first | with_reducible rfl | (simp only [h10, lb_f, Int64.or_zero, Int32.add_zero, nB_t, nB_f, Bool.not_true, Bool.not_false, Bool.and_true, Bool.true_and, Bool.false_and, Bool.and_false, Bool.or_true, Bool.true_or, Bool.false_or, Bool.or_false, cond_true, cond_false]; done) | rfl) rfl
      · have h3 : (decide ((lg_cmp w2 0) = 0)) = false := decide_eq_false (cn_eq.mp h3)
        exact absurd (Eq.trans (Eq.symm (hb2)) h3) (by decide)
  · have h1 : (decide ((lg_cmp w0 0) = 0)) = false := decide_eq_false (cn_eq.mp h1)
    exact absurd (Eq.trans (Eq.symm (hb0)) h1) (by decide)
theorem gc_endUnwon0110 (d : Nat) (hd : 8 ≤ d) (μ : zM) (dl e : Nat) (hdl : μ.1 0 9 = nI dl) (hdl4 : dl < 4) (he : (dl + 1) % 4 = e) (w0 : Int64) (hw0 : ∀ μ1, TE μ μ1 → ∀ d, 7 ≤ d → z_C d mi_X3_waiting [.ref 19] μ1 (zR μ1 (.long w0))) (w1 : Int64) (hw1 : ∀ μ1, TE μ μ1 → ∀ d, 7 ≤ d → z_C d mi_X3_waiting [.ref 27] μ1 (zR μ1 (.long w1))) (w2 : Int64) (hw2 : ∀ μ1, TE μ μ1 → ∀ d, 7 ≤ d → z_C d mi_X3_waiting [.ref 35] μ1 (zR μ1 (.long w2))) (w3 : Int64) (hw3 : ∀ μ1, TE μ μ1 → ∀ d, 7 ≤ d → z_C d mi_X3_waiting [.ref 43] μ1 (zR μ1 (.long w3))) (wd : Int64) (hwd : ∀ μ1, TE μ μ1 → ∀ d, 7 ≤ d → z_C d mi_X3_waiting [.ref (19 + 8 * dl)] μ1 (zR μ1 (.long wd))) (hb0 : decide (lg_cmp w0 0 = 0) = true) (hb1 : decide (lg_cmp w1 0 = 0) = false) (hb2 : decide (lg_cmp w2 0 = 0) = false) (hb3 : decide (lg_cmp w3 0 = 0) = true) : z_C d mi_X6_endUnwon [.ref 0] μ (fun r μ' => r = none ∧ μ' = eHB (z_ui (z_ui (z_ui (z_ui μ 18 4 ((μ.1 18 4) + (-1500))) 26 4 ((μ.1 26 4) + 1500)) 34 4 ((μ.1 34 4) + 1500)) 42 4 ((μ.1 42 4) + (-1500))) (!(decide ((lg_cmp wd 0) = 0))) false (xBk (z_ui (z_ui (z_ui (z_ui μ 18 4 ((μ.1 18 4) + (-1500))) 26 4 ((μ.1 26 4) + 1500)) 34 4 ((μ.1 34 4) + 1500)) 42 4 ((μ.1 42 4) + (-1500)))) dl e (rcM (z_ui (z_ui (z_ui (z_ui μ 18 4 ((μ.1 18 4) + (-1500))) 26 4 ((μ.1 26 4) + 1500)) 34 4 ((μ.1 34 4) + 1500)) 42 4 ((μ.1 42 4) + (-1500))))) := by
  refine z_C_in (by decide) (by omega) (fun d' Z ed hc hr => ?_)
  have hH : zH mi_X6_endUnwon zt_X6_endUnwon 79 6 6 := hh_X6_endUnwon
  refine z_rcs hc hH 9 (pc' := 11) (lv' := [(2, .int 0), (1, .int 0), (0, .ref 0)]) (st' := [.int 0, .ref 0]) (μ' := μ) (by rfl) ?_
  refine zq_call hc (z_cx_ok hH (by rfl)) (gc_at d' (by omega) μ 0 (by decide)) (by decide +kernel) (fun r9 μ9 hq => ?_)
  obtain ⟨hμ9, rfl⟩ := hq
  rw [hμ9]
  clear hμ9 μ9
  show Z 0 14 [(2, .int 0), (1, .int 0), (0, .ref 0)] [.ref 18] μ
  refine zq_gfr hc hH (by rfl) (ci := 1) (f := 0) (q := 19) (by rfl) (by decide +kernel) (by rfl) (by decide +kernel) ?_
  refine zq_call hc (z_cx_ok hH (by rfl)) (hw0 _ (TE_rf _) d' (by omega)) (by decide +kernel) (fun r9 μ9 hq => ?_)
  obtain ⟨hμ9, rfl⟩ := hq
  rw [hμ9]
  clear hμ9 μ9
  show Z 0 20 [(2, .int 0), (1, .int 0), (0, .ref 0)] [.long w0] μ
  refine z_rcs hc hH 2 (pc' := 22) (lv' := [(2, .int 0), (1, .int 0), (0, .ref 0)]) (st' := [.int (lg_cmp w0 0)]) (μ' := μ) (by rfl) ?_
  refine zq_if hc hH (by rfl) (tg := 28) (by rfl) (fun h1 => ?_) (fun h1 => ?_)
  · have h1 : (decide ((lg_cmp w0 0) = 0)) = true := decide_eq_true (cm_eq9.mp h1)
    refine z_rcs hc hH 7 (pc' := 11) (lv' := [(2, .int 1), (1, .int 0), (0, .ref 0)]) (st' := [.int 1, .ref 0]) (μ' := μ) (by rfl) ?_
    refine zq_call hc (z_cx_ok hH (by rfl)) (gc_at d' (by omega) μ 1 (by decide)) (by decide +kernel) (fun r9 μ9 hq => ?_)
    obtain ⟨hμ9, rfl⟩ := hq
    rw [hμ9]
    clear hμ9 μ9
    show Z 0 14 [(2, .int 1), (1, .int 0), (0, .ref 0)] [.ref 26] μ
    refine zq_gfr hc hH (by rfl) (ci := 1) (f := 0) (q := 27) (by rfl) (by decide +kernel) (by rfl) (by decide +kernel) ?_
    refine zq_call hc (z_cx_ok hH (by rfl)) (hw1 _ (TE_rf _) d' (by omega)) (by decide +kernel) (fun r9 μ9 hq => ?_)
    obtain ⟨hμ9, rfl⟩ := hq
    rw [hμ9]
    clear hμ9 μ9
    show Z 0 20 [(2, .int 1), (1, .int 0), (0, .ref 0)] [.long w1] μ
    refine z_rcs hc hH 2 (pc' := 22) (lv' := [(2, .int 1), (1, .int 0), (0, .ref 0)]) (st' := [.int (lg_cmp w1 0)]) (μ' := μ) (by rfl) ?_
    refine zq_if hc hH (by rfl) (tg := 28) (by rfl) (fun h2 => ?_) (fun h2 => ?_)
    · have h2 : (decide ((lg_cmp w1 0) = 0)) = true := decide_eq_true (cm_eq9.mp h2)
      exact absurd (Eq.trans (Eq.symm (hb1)) h2) (by decide)
    · have h2 : (decide ((lg_cmp w1 0) = 0)) = false := decide_eq_false (cn_eq.mp h2)
      refine z_rcs hc hH 8 (pc' := 11) (lv' := [(2, .int 2), (1, .int 1), (0, .ref 0)]) (st' := [.int 2, .ref 0]) (μ' := μ) (by rfl) ?_
      refine zq_call hc (z_cx_ok hH (by rfl)) (gc_at d' (by omega) μ 2 (by decide)) (by decide +kernel) (fun r9 μ9 hq => ?_)
      obtain ⟨hμ9, rfl⟩ := hq
      rw [hμ9]
      clear hμ9 μ9
      show Z 0 14 [(2, .int 2), (1, .int 1), (0, .ref 0)] [.ref 34] μ
      refine zq_gfr hc hH (by rfl) (ci := 1) (f := 0) (q := 35) (by rfl) (by decide +kernel) (by rfl) (by decide +kernel) ?_
      refine zq_call hc (z_cx_ok hH (by rfl)) (hw2 _ (TE_rf _) d' (by omega)) (by decide +kernel) (fun r9 μ9 hq => ?_)
      obtain ⟨hμ9, rfl⟩ := hq
      rw [hμ9]
      clear hμ9 μ9
      show Z 0 20 [(2, .int 2), (1, .int 1), (0, .ref 0)] [.long w2] μ
      refine z_rcs hc hH 2 (pc' := 22) (lv' := [(2, .int 2), (1, .int 1), (0, .ref 0)]) (st' := [.int (lg_cmp w2 0)]) (μ' := μ) (by rfl) ?_
      refine zq_if hc hH (by rfl) (tg := 28) (by rfl) (fun h3 => ?_) (fun h3 => ?_)
      · have h3 : (decide ((lg_cmp w2 0) = 0)) = true := decide_eq_true (cm_eq9.mp h3)
        exact absurd (Eq.trans (Eq.symm (hb2)) h3) (by decide)
      · have h3 : (decide ((lg_cmp w2 0) = 0)) = false := decide_eq_false (cn_eq.mp h3)
        refine z_rcs hc hH 8 (pc' := 11) (lv' := [(2, .int 3), (1, .int 2), (0, .ref 0)]) (st' := [.int 3, .ref 0]) (μ' := μ) (by rfl) ?_
        refine zq_call hc (z_cx_ok hH (by rfl)) (gc_at d' (by omega) μ 3 (by decide)) (by decide +kernel) (fun r9 μ9 hq => ?_)
        obtain ⟨hμ9, rfl⟩ := hq
        rw [hμ9]
        clear hμ9 μ9
        show Z 0 14 [(2, .int 3), (1, .int 2), (0, .ref 0)] [.ref 42] μ
        refine zq_gfr hc hH (by rfl) (ci := 1) (f := 0) (q := 43) (by rfl) (by decide +kernel) (by rfl) (by decide +kernel) ?_
        refine zq_call hc (z_cx_ok hH (by rfl)) (hw3 _ (TE_rf _) d' (by omega)) (by decide +kernel) (fun r9 μ9 hq => ?_)
        obtain ⟨hμ9, rfl⟩ := hq
        rw [hμ9]
        clear hμ9 μ9
        show Z 0 20 [(2, .int 3), (1, .int 2), (0, .ref 0)] [.long w3] μ
        refine z_rcs hc hH 2 (pc' := 22) (lv' := [(2, .int 3), (1, .int 2), (0, .ref 0)]) (st' := [.int (lg_cmp w3 0)]) (μ' := μ) (by rfl) ?_
        refine zq_if hc hH (by rfl) (tg := 28) (by rfl) (fun h4 => ?_) (fun h4 => ?_)
        · have h4 : (decide ((lg_cmp w3 0) = 0)) = true := decide_eq_true (cm_eq9.mp h4)
          refine z_rcs hc hH 7 (pc' := 36) (lv' := [(2, .int 4), (1, .int 2), (0, .ref 0)]) (st' := [.ref 0, .ref 0]) (μ' := μ) (by rfl) ?_
          refine zq_gfi hc hH (by rfl) (ci := 5) (f := 9) (by rfl) (by decide +kernel) (by rfl) ?_
          rw [hdl]
          refine zq_call hc (z_cx_ok hH (by rfl)) (gc_at4 d' (by omega) μ dl hdl4) (by decide +kernel) (fun r9 μ9 hq => ?_)
          obtain ⟨hμ9, rfl⟩ := hq
          rw [hμ9]
          clear hμ9 μ9
          show Z 0 42 [(2, .int 4), (1, .int 2), (0, .ref 0)] [.ref (18 + 8 * dl)] μ
          refine zq_gfr hc hH (by rfl) (ci := 1) (f := 0) (q := 19 + 8 * dl) (by rfl) (sj (P := fun i => okf 79 1 0 (18 + 8 * i)) hdl4 (by decide +kernel)) (by rfl) (sj (P := fun i => Nat.beq (z_gr (18 + 8 * i) 0) (19 + 8 * i)) hdl4 (by decide +kernel)) ?_
          refine zq_call hc (z_clv9 hH (by rfl) (by rfl) (by rfl) (by rfl) (sj (P := fun i => okr 79 2 (19 + 8 * i)) hdl4 (by decide +kernel)) (by rfl) (by rfl)) ((hwd _ (TE_rf _) d' (by omega))) (by decide +kernel) (fun r9 μ9 hq => ?_)
          obtain ⟨hμ9, rfl⟩ := hq
          rw [hμ9]
          clear hμ9 μ9
          show Z 0 48 [(2, .int 4), (1, .int 2), (0, .ref 0)] [.long wd] μ
          refine z_rcs hc hH 2 (pc' := 50) (lv' := [(2, .int 4), (1, .int 2), (0, .ref 0)]) (st' := [.int (lg_cmp wd 0)]) (μ' := μ) (by rfl) ?_
          have hJ5 : Z 0 58 [(2, .int 4), (1, .int 2), (0, .ref 0)] [.int (nB (!(decide ((lg_cmp wd 0) = 0))))] μ := by
            refine z_rcs hc hH 23 (pc' := 95) (lv' := [(5, .int 0), (4, .int 1500), (3, .int 1500), (2, .int (nB (!(decide ((lg_cmp wd 0) = 0))))), (1, .int 2), (0, .ref 0)]) (st' := [.int 0, .ref 0]) (μ' := μ) (by rfl) ?_
            refine zq_call hc (z_cx_ok hH (by rfl)) (gc_at d' (by omega) μ 0 (by decide)) (by decide +kernel) (fun r9 μ9 hq => ?_)
            obtain ⟨hμ9, rfl⟩ := hq
            rw [hμ9]
            clear hμ9 μ9
            show Z 0 98 [(5, .int 0), (4, .int 1500), (3, .int 1500), (2, .int (nB (!(decide ((lg_cmp wd 0) = 0))))), (1, .int 2), (0, .ref 0)] [.ref 18] μ
            refine z_rcs hc hH 1 (pc' := 99) (lv' := [(5, .int 0), (4, .int 1500), (3, .int 1500), (2, .int (nB (!(decide ((lg_cmp wd 0) = 0))))), (1, .int 2), (0, .ref 0)]) (st' := [.ref 18, .ref 18]) (μ' := μ) (by rfl) ?_
            refine zq_gfi hc hH (by rfl) (ci := 1) (f := 4) (by rfl) (by decide +kernel) (by rfl) ?_
            refine z_rcs hc hH 2 (pc' := 105) (lv' := [(5, .int 0), (4, .int 1500), (3, .int 1500), (2, .int (nB (!(decide ((lg_cmp wd 0) = 0))))), (1, .int 2), (0, .ref 0)]) (st' := [.int 0, .ref 0, .int (μ.1 18 4), .ref 18]) (μ' := μ) (by rfl) ?_
            refine zq_call hc (z_cx_ok hH (by rfl)) (gc_at d' (by omega) μ 0 (by decide)) (by decide +kernel) (fun r9 μ9 hq => ?_)
            obtain ⟨hμ9, rfl⟩ := hq
            rw [hμ9]
            clear hμ9 μ9
            show Z 0 108 [(5, .int 0), (4, .int 1500), (3, .int 1500), (2, .int (nB (!(decide ((lg_cmp wd 0) = 0))))), (1, .int 2), (0, .ref 0)] [.ref 18, .int (μ.1 18 4), .ref 18] μ
            refine zq_gfr hc hH (by rfl) (ci := 1) (f := 0) (q := 19) (by rfl) (by decide +kernel) (by rfl) (by decide +kernel) ?_
            refine zq_call hc (z_cx_ok hH (by rfl)) (hw0 _ (TE_rf _) d' (by omega)) (by decide +kernel) (fun r9 μ9 hq => ?_)
            obtain ⟨hμ9, rfl⟩ := hq
            rw [hμ9]
            clear hμ9 μ9
            show Z 0 114 [(5, .int 0), (4, .int 1500), (3, .int 1500), (2, .int (nB (!(decide ((lg_cmp wd 0) = 0))))), (1, .int 2), (0, .ref 0)] [.long w0, .int (μ.1 18 4), .ref 18] μ
            refine z_rcs hc hH 2 (pc' := 116) (lv' := [(5, .int 0), (4, .int 1500), (3, .int 1500), (2, .int (nB (!(decide ((lg_cmp wd 0) = 0))))), (1, .int 2), (0, .ref 0)]) (st' := [.int (lg_cmp w0 0), .int (μ.1 18 4), .ref 18]) (μ' := μ) (by rfl) ?_
            refine zq_if hc hH (by rfl) (tg := 123) (by rfl) (fun h6 => ?_) (fun h6 => ?_)
            · have h6 : (decide ((lg_cmp w0 0) = 0)) = true := decide_eq_true (cm_eq9.mp h6)
              refine z_rcs hc hH 3 (pc' := 127) (lv' := [(5, .int 0), (4, .int 1500), (3, .int 1500), (2, .int (nB (!(decide ((lg_cmp wd 0) = 0))))), (1, .int 2), (0, .ref 0)]) (st' := [.int ((μ.1 18 4) + (-1500)), .ref 18]) (μ' := μ) (by rfl) ?_
              refine zq_pfi hc hH (by rfl) (ci := 1) (f := 4) (by rfl) (by decide +kernel) (by rfl) ?_
              show Z 0 130 [(5, .int 0), (4, .int 1500), (3, .int 1500), (2, .int (nB (!(decide ((lg_cmp wd 0) = 0))))), (1, .int 2), (0, .ref 0)] [] (z_ui μ 18 4 ((μ.1 18 4) + (-1500)))
              refine z_rcs0 hc hH 7 (pc' := 95) (lv' := [(5, .int 1), (4, .int 1500), (3, .int 1500), (2, .int (nB (!(decide ((lg_cmp wd 0) = 0))))), (1, .int 2), (0, .ref 0)]) (st' := [.int 1, .ref 0]) (by rfl) ?_
              refine zq_call hc (z_cx_ok hH (by rfl)) (gc_at d' (by omega) (z_ui μ 18 4 ((μ.1 18 4) + (-1500))) 1 (by decide)) (by decide +kernel) (fun r9 μ9 hq => ?_)
              obtain ⟨hμ9, rfl⟩ := hq
              rw [hμ9]
              clear hμ9 μ9
              show Z 0 98 [(5, .int 1), (4, .int 1500), (3, .int 1500), (2, .int (nB (!(decide ((lg_cmp wd 0) = 0))))), (1, .int 2), (0, .ref 0)] [.ref 26] _
              refine z_rcs0 hc hH 1 (pc' := 99) (lv' := [(5, .int 1), (4, .int 1500), (3, .int 1500), (2, .int (nB (!(decide ((lg_cmp wd 0) = 0))))), (1, .int 2), (0, .ref 0)]) (st' := [.ref 26, .ref 26]) (by rfl) ?_
              refine zq_gfi hc hH (by rfl) (ci := 1) (f := 4) (by rfl) (by decide +kernel) (by rfl) ?_
              refine zV1 (Z := Z) (ui_o (by first | decide | omega)) ?_
              refine z_rcs0 hc hH 2 (pc' := 105) (lv' := [(5, .int 1), (4, .int 1500), (3, .int 1500), (2, .int (nB (!(decide ((lg_cmp wd 0) = 0))))), (1, .int 2), (0, .ref 0)]) (st' := [.int 1, .ref 0, .int (μ.1 26 4), .ref 26]) (by rfl) ?_
              refine zq_call hc (z_cx_ok hH (by rfl)) (gc_at d' (by omega) (z_ui μ 18 4 ((μ.1 18 4) + (-1500))) 1 (by decide)) (by decide +kernel) (fun r9 μ9 hq => ?_)
              obtain ⟨hμ9, rfl⟩ := hq
              rw [hμ9]
              clear hμ9 μ9
              show Z 0 108 [(5, .int 1), (4, .int 1500), (3, .int 1500), (2, .int (nB (!(decide ((lg_cmp wd 0) = 0))))), (1, .int 2), (0, .ref 0)] [.ref 26, .int (μ.1 26 4), .ref 26] _
              refine zq_gfr hc hH (by rfl) (ci := 1) (f := 0) (q := 27) (by rfl) (by decide +kernel) (by rfl) (by decide +kernel) ?_
              refine zq_call hc (z_cx_ok hH (by rfl)) (hw1 _ (TE_ui (TE_rf _) (by intro i a hi h1 h2; omega)) d' (by omega)) (by decide +kernel) (fun r9 μ9 hq => ?_)
              obtain ⟨hμ9, rfl⟩ := hq
              rw [hμ9]
              clear hμ9 μ9
              show Z 0 114 [(5, .int 1), (4, .int 1500), (3, .int 1500), (2, .int (nB (!(decide ((lg_cmp wd 0) = 0))))), (1, .int 2), (0, .ref 0)] [.long w1, .int (μ.1 26 4), .ref 26] _
              refine z_rcs0 hc hH 2 (pc' := 116) (lv' := [(5, .int 1), (4, .int 1500), (3, .int 1500), (2, .int (nB (!(decide ((lg_cmp wd 0) = 0))))), (1, .int 2), (0, .ref 0)]) (st' := [.int (lg_cmp w1 0), .int (μ.1 26 4), .ref 26]) (by rfl) ?_
              refine zq_if hc hH (by rfl) (tg := 123) (by rfl) (fun h7 => ?_) (fun h7 => ?_)
              · have h7 : (decide ((lg_cmp w1 0) = 0)) = true := decide_eq_true (cm_eq9.mp h7)
                exact absurd (Eq.trans (Eq.symm (hb1)) h7) (by decide)
              · have h7 : (decide ((lg_cmp w1 0) = 0)) = false := decide_eq_false (cn_eq.mp h7)
                refine z_rcs0 hc hH 3 (pc' := 127) (lv' := [(5, .int 1), (4, .int 1500), (3, .int 1500), (2, .int (nB (!(decide ((lg_cmp wd 0) = 0))))), (1, .int 2), (0, .ref 0)]) (st' := [.int ((μ.1 26 4) + 1500), .ref 26]) (by rfl) ?_
                refine zq_pfi hc hH (by rfl) (ci := 1) (f := 4) (by rfl) (by decide +kernel) (by rfl) ?_
                show Z 0 130 [(5, .int 1), (4, .int 1500), (3, .int 1500), (2, .int (nB (!(decide ((lg_cmp wd 0) = 0))))), (1, .int 2), (0, .ref 0)] [] (z_ui (z_ui μ 18 4 ((μ.1 18 4) + (-1500))) 26 4 ((μ.1 26 4) + 1500))
                refine z_rcs0 hc hH 7 (pc' := 95) (lv' := [(5, .int 2), (4, .int 1500), (3, .int 1500), (2, .int (nB (!(decide ((lg_cmp wd 0) = 0))))), (1, .int 2), (0, .ref 0)]) (st' := [.int 2, .ref 0]) (by rfl) ?_
                refine zq_call hc (z_cx_ok hH (by rfl)) (gc_at d' (by omega) (z_ui (z_ui μ 18 4 ((μ.1 18 4) + (-1500))) 26 4 ((μ.1 26 4) + 1500)) 2 (by decide)) (by decide +kernel) (fun r9 μ9 hq => ?_)
                obtain ⟨hμ9, rfl⟩ := hq
                rw [hμ9]
                clear hμ9 μ9
                show Z 0 98 [(5, .int 2), (4, .int 1500), (3, .int 1500), (2, .int (nB (!(decide ((lg_cmp wd 0) = 0))))), (1, .int 2), (0, .ref 0)] [.ref 34] _
                refine z_rcs0 hc hH 1 (pc' := 99) (lv' := [(5, .int 2), (4, .int 1500), (3, .int 1500), (2, .int (nB (!(decide ((lg_cmp wd 0) = 0))))), (1, .int 2), (0, .ref 0)]) (st' := [.ref 34, .ref 34]) (by rfl) ?_
                refine zq_gfi hc hH (by rfl) (ci := 1) (f := 4) (by rfl) (by decide +kernel) (by rfl) ?_
                refine zV1 (Z := Z) (Eq.trans (ui_o (by first | decide | omega)) (ui_o (by first | decide | omega))) ?_
                refine z_rcs0 hc hH 2 (pc' := 105) (lv' := [(5, .int 2), (4, .int 1500), (3, .int 1500), (2, .int (nB (!(decide ((lg_cmp wd 0) = 0))))), (1, .int 2), (0, .ref 0)]) (st' := [.int 2, .ref 0, .int (μ.1 34 4), .ref 34]) (by rfl) ?_
                refine zq_call hc (z_cx_ok hH (by rfl)) (gc_at d' (by omega) (z_ui (z_ui μ 18 4 ((μ.1 18 4) + (-1500))) 26 4 ((μ.1 26 4) + 1500)) 2 (by decide)) (by decide +kernel) (fun r9 μ9 hq => ?_)
                obtain ⟨hμ9, rfl⟩ := hq
                rw [hμ9]
                clear hμ9 μ9
                show Z 0 108 [(5, .int 2), (4, .int 1500), (3, .int 1500), (2, .int (nB (!(decide ((lg_cmp wd 0) = 0))))), (1, .int 2), (0, .ref 0)] [.ref 34, .int (μ.1 34 4), .ref 34] _
                refine zq_gfr hc hH (by rfl) (ci := 1) (f := 0) (q := 35) (by rfl) (by decide +kernel) (by rfl) (by decide +kernel) ?_
                refine zq_call hc (z_cx_ok hH (by rfl)) (hw2 _ (TE_ui (TE_ui (TE_rf _) (by intro i a hi h1 h2; omega)) (by intro i a hi h1 h2; omega)) d' (by omega)) (by decide +kernel) (fun r9 μ9 hq => ?_)
                obtain ⟨hμ9, rfl⟩ := hq
                rw [hμ9]
                clear hμ9 μ9
                show Z 0 114 [(5, .int 2), (4, .int 1500), (3, .int 1500), (2, .int (nB (!(decide ((lg_cmp wd 0) = 0))))), (1, .int 2), (0, .ref 0)] [.long w2, .int (μ.1 34 4), .ref 34] _
                refine z_rcs0 hc hH 2 (pc' := 116) (lv' := [(5, .int 2), (4, .int 1500), (3, .int 1500), (2, .int (nB (!(decide ((lg_cmp wd 0) = 0))))), (1, .int 2), (0, .ref 0)]) (st' := [.int (lg_cmp w2 0), .int (μ.1 34 4), .ref 34]) (by rfl) ?_
                refine zq_if hc hH (by rfl) (tg := 123) (by rfl) (fun h8 => ?_) (fun h8 => ?_)
                · have h8 : (decide ((lg_cmp w2 0) = 0)) = true := decide_eq_true (cm_eq9.mp h8)
                  exact absurd (Eq.trans (Eq.symm (hb2)) h8) (by decide)
                · have h8 : (decide ((lg_cmp w2 0) = 0)) = false := decide_eq_false (cn_eq.mp h8)
                  refine z_rcs0 hc hH 3 (pc' := 127) (lv' := [(5, .int 2), (4, .int 1500), (3, .int 1500), (2, .int (nB (!(decide ((lg_cmp wd 0) = 0))))), (1, .int 2), (0, .ref 0)]) (st' := [.int ((μ.1 34 4) + 1500), .ref 34]) (by rfl) ?_
                  refine zq_pfi hc hH (by rfl) (ci := 1) (f := 4) (by rfl) (by decide +kernel) (by rfl) ?_
                  show Z 0 130 [(5, .int 2), (4, .int 1500), (3, .int 1500), (2, .int (nB (!(decide ((lg_cmp wd 0) = 0))))), (1, .int 2), (0, .ref 0)] [] (z_ui (z_ui (z_ui μ 18 4 ((μ.1 18 4) + (-1500))) 26 4 ((μ.1 26 4) + 1500)) 34 4 ((μ.1 34 4) + 1500))
                  refine z_rcs0 hc hH 7 (pc' := 95) (lv' := [(5, .int 3), (4, .int 1500), (3, .int 1500), (2, .int (nB (!(decide ((lg_cmp wd 0) = 0))))), (1, .int 2), (0, .ref 0)]) (st' := [.int 3, .ref 0]) (by rfl) ?_
                  refine zq_call hc (z_cx_ok hH (by rfl)) (gc_at d' (by omega) (z_ui (z_ui (z_ui μ 18 4 ((μ.1 18 4) + (-1500))) 26 4 ((μ.1 26 4) + 1500)) 34 4 ((μ.1 34 4) + 1500)) 3 (by decide)) (by decide +kernel) (fun r9 μ9 hq => ?_)
                  obtain ⟨hμ9, rfl⟩ := hq
                  rw [hμ9]
                  clear hμ9 μ9
                  show Z 0 98 [(5, .int 3), (4, .int 1500), (3, .int 1500), (2, .int (nB (!(decide ((lg_cmp wd 0) = 0))))), (1, .int 2), (0, .ref 0)] [.ref 42] _
                  refine z_rcs0 hc hH 1 (pc' := 99) (lv' := [(5, .int 3), (4, .int 1500), (3, .int 1500), (2, .int (nB (!(decide ((lg_cmp wd 0) = 0))))), (1, .int 2), (0, .ref 0)]) (st' := [.ref 42, .ref 42]) (by rfl) ?_
                  refine zq_gfi hc hH (by rfl) (ci := 1) (f := 4) (by rfl) (by decide +kernel) (by rfl) ?_
                  refine zV1 (Z := Z) (Eq.trans (ui_o (by first | decide | omega)) (Eq.trans (ui_o (by first | decide | omega)) (ui_o (by first | decide | omega)))) ?_
                  refine z_rcs0 hc hH 2 (pc' := 105) (lv' := [(5, .int 3), (4, .int 1500), (3, .int 1500), (2, .int (nB (!(decide ((lg_cmp wd 0) = 0))))), (1, .int 2), (0, .ref 0)]) (st' := [.int 3, .ref 0, .int (μ.1 42 4), .ref 42]) (by rfl) ?_
                  refine zq_call hc (z_cx_ok hH (by rfl)) (gc_at d' (by omega) (z_ui (z_ui (z_ui μ 18 4 ((μ.1 18 4) + (-1500))) 26 4 ((μ.1 26 4) + 1500)) 34 4 ((μ.1 34 4) + 1500)) 3 (by decide)) (by decide +kernel) (fun r9 μ9 hq => ?_)
                  obtain ⟨hμ9, rfl⟩ := hq
                  rw [hμ9]
                  clear hμ9 μ9
                  show Z 0 108 [(5, .int 3), (4, .int 1500), (3, .int 1500), (2, .int (nB (!(decide ((lg_cmp wd 0) = 0))))), (1, .int 2), (0, .ref 0)] [.ref 42, .int (μ.1 42 4), .ref 42] _
                  refine zq_gfr hc hH (by rfl) (ci := 1) (f := 0) (q := 43) (by rfl) (by decide +kernel) (by rfl) (by decide +kernel) ?_
                  refine zq_call hc (z_cx_ok hH (by rfl)) (hw3 _ (TE_ui (TE_ui (TE_ui (TE_rf _) (by intro i a hi h1 h2; omega)) (by intro i a hi h1 h2; omega)) (by intro i a hi h1 h2; omega)) d' (by omega)) (by decide +kernel) (fun r9 μ9 hq => ?_)
                  obtain ⟨hμ9, rfl⟩ := hq
                  rw [hμ9]
                  clear hμ9 μ9
                  show Z 0 114 [(5, .int 3), (4, .int 1500), (3, .int 1500), (2, .int (nB (!(decide ((lg_cmp wd 0) = 0))))), (1, .int 2), (0, .ref 0)] [.long w3, .int (μ.1 42 4), .ref 42] _
                  refine z_rcs0 hc hH 2 (pc' := 116) (lv' := [(5, .int 3), (4, .int 1500), (3, .int 1500), (2, .int (nB (!(decide ((lg_cmp wd 0) = 0))))), (1, .int 2), (0, .ref 0)]) (st' := [.int (lg_cmp w3 0), .int (μ.1 42 4), .ref 42]) (by rfl) ?_
                  refine zq_if hc hH (by rfl) (tg := 123) (by rfl) (fun h9 => ?_) (fun h9 => ?_)
                  · have h9 : (decide ((lg_cmp w3 0) = 0)) = true := decide_eq_true (cm_eq9.mp h9)
                    refine z_rcs0 hc hH 3 (pc' := 127) (lv' := [(5, .int 3), (4, .int 1500), (3, .int 1500), (2, .int (nB (!(decide ((lg_cmp wd 0) = 0))))), (1, .int 2), (0, .ref 0)]) (st' := [.int ((μ.1 42 4) + (-1500)), .ref 42]) (by rfl) ?_
                    refine zq_pfi hc hH (by rfl) (ci := 1) (f := 4) (by rfl) (by decide +kernel) (by rfl) ?_
                    show Z 0 130 [(5, .int 3), (4, .int 1500), (3, .int 1500), (2, .int (nB (!(decide ((lg_cmp wd 0) = 0))))), (1, .int 2), (0, .ref 0)] [] (z_ui (z_ui (z_ui (z_ui μ 18 4 ((μ.1 18 4) + (-1500))) 26 4 ((μ.1 26 4) + 1500)) 34 4 ((μ.1 34 4) + 1500)) 42 4 ((μ.1 42 4) + (-1500)))
                    refine z_rcs0 hc hH 8 (pc' := 139) (lv' := [(5, .int 4), (4, .int 1500), (3, .int 1500), (2, .int (nB (!(decide ((lg_cmp wd 0) = 0))))), (1, .int 2), (0, .ref 0)]) (st' := [.int 0, .int (nB (!(decide ((lg_cmp wd 0) = 0)))), .ref 0]) (by rfl) ?_
                    refine zq_call hc (z_cx_ok hH (by rfl)) (gc_endHandB d' (by omega) (z_ui (z_ui (z_ui (z_ui μ 18 4 ((μ.1 18 4) + (-1500))) 26 4 ((μ.1 26 4) + 1500)) 34 4 ((μ.1 34 4) + 1500)) 42 4 ((μ.1 42 4) + (-1500))) (!(decide ((lg_cmp wd 0) = 0))) false dl e (by rw [ui_o (by first | decide | omega), ui_o (by first | decide | omega), ui_o (by first | decide | omega), ui_o (by first | decide | omega)]; exact hdl) hdl4 he) (by decide +kernel) (fun r9 μ9 hq => ?_)
                    obtain ⟨rfl, rfl⟩ := hq
                    show Z 0 142 [(5, .int 4), (4, .int 1500), (3, .int 1500), (2, .int (nB (!(decide ((lg_cmp wd 0) = 0))))), (1, .int 2), (0, .ref 0)] [] (eHB (z_ui (z_ui (z_ui (z_ui μ 18 4 ((μ.1 18 4) + (-1500))) 26 4 ((μ.1 26 4) + 1500)) 34 4 ((μ.1 34 4) + 1500)) 42 4 ((μ.1 42 4) + (-1500))) (!(decide ((lg_cmp wd 0) = 0))) false (xBk (z_ui (z_ui (z_ui (z_ui μ 18 4 ((μ.1 18 4) + (-1500))) 26 4 ((μ.1 26 4) + 1500)) 34 4 ((μ.1 34 4) + 1500)) 42 4 ((μ.1 42 4) + (-1500)))) dl e (rcM (z_ui (z_ui (z_ui (z_ui μ 18 4 ((μ.1 18 4) + (-1500))) 26 4 ((μ.1 26 4) + 1500)) 34 4 ((μ.1 34 4) + 1500)) 42 4 ((μ.1 42 4) + (-1500)))))
                    exact hr 0 142 _ _ _ none (by decide +kernel) (by rfl) (⟨rfl, rfl⟩)
                  · have h9 : (decide ((lg_cmp w3 0) = 0)) = false := decide_eq_false (cn_eq.mp h9)
                    exact absurd (Eq.trans (Eq.symm (hb3)) h9) (by decide)
            · have h6 : (decide ((lg_cmp w0 0) = 0)) = false := decide_eq_false (cn_eq.mp h6)
              exact absurd (Eq.trans (Eq.symm (hb0)) h6) (by decide)
          refine zq_if hc hH (by rfl) (tg := 57) (by rfl) (fun h10 => ?_) (fun h10 => ?_)
          · have h10 : (decide ((lg_cmp wd 0) = 0)) = true := decide_eq_true (cm_eq9.mp h10)
            refine z_rcs hc hH 1 (pc' := 58) (lv' := [(2, .int 4), (1, .int 2), (0, .ref 0)]) (st' := [.int 0]) (μ' := μ) (by rfl) ?_
            exact zJ hJ5 rfl (by first | with_reducible rfl | (simp only [h10, lb_f, Int64.or_zero, Int32.add_zero, nB_t, nB_f, Bool.not_true, Bool.not_false, Bool.and_true, Bool.true_and, Bool.false_and, Bool.and_false, Bool.or_true, Bool.true_or, Bool.false_or, Bool.or_false, cond_true, cond_false]; done) | rfl) rfl
          · have h10 : (decide ((lg_cmp wd 0) = 0)) = false := decide_eq_false (cn_eq.mp h10)
            refine z_rcs hc hH 2 (pc' := 58) (lv' := [(2, .int 4), (1, .int 2), (0, .ref 0)]) (st' := [.int 1]) (μ' := μ) (by rfl) ?_
            exact zJ hJ5 rfl (by first | with_reducible rfl | (simp only [h10, lb_f, Int64.or_zero, Int32.add_zero, nB_t, nB_f, Bool.not_true, Bool.not_false, Bool.and_true, Bool.true_and, Bool.false_and, Bool.and_false, Bool.or_true, Bool.true_or, Bool.false_or, Bool.or_false, cond_true, cond_false]; done) | rfl) rfl
        · have h4 : (decide ((lg_cmp w3 0) = 0)) = false := decide_eq_false (cn_eq.mp h4)
          exact absurd (Eq.trans (Eq.symm (hb3)) h4) (by decide)
  · have h1 : (decide ((lg_cmp w0 0) = 0)) = false := decide_eq_false (cn_eq.mp h1)
    exact absurd (Eq.trans (Eq.symm (hb0)) h1) (by decide)
theorem gc_endUnwon0111 (d : Nat) (hd : 8 ≤ d) (μ : zM) (dl e : Nat) (hdl : μ.1 0 9 = nI dl) (hdl4 : dl < 4) (he : (dl + 1) % 4 = e) (w0 : Int64) (hw0 : ∀ μ1, TE μ μ1 → ∀ d, 7 ≤ d → z_C d mi_X3_waiting [.ref 19] μ1 (zR μ1 (.long w0))) (w1 : Int64) (hw1 : ∀ μ1, TE μ μ1 → ∀ d, 7 ≤ d → z_C d mi_X3_waiting [.ref 27] μ1 (zR μ1 (.long w1))) (w2 : Int64) (hw2 : ∀ μ1, TE μ μ1 → ∀ d, 7 ≤ d → z_C d mi_X3_waiting [.ref 35] μ1 (zR μ1 (.long w2))) (w3 : Int64) (hw3 : ∀ μ1, TE μ μ1 → ∀ d, 7 ≤ d → z_C d mi_X3_waiting [.ref 43] μ1 (zR μ1 (.long w3))) (wd : Int64) (hwd : ∀ μ1, TE μ μ1 → ∀ d, 7 ≤ d → z_C d mi_X3_waiting [.ref (19 + 8 * dl)] μ1 (zR μ1 (.long wd))) (hb0 : decide (lg_cmp w0 0 = 0) = true) (hb1 : decide (lg_cmp w1 0 = 0) = false) (hb2 : decide (lg_cmp w2 0 = 0) = false) (hb3 : decide (lg_cmp w3 0 = 0) = false) : z_C d mi_X6_endUnwon [.ref 0] μ (fun r μ' => r = none ∧ μ' = eHB (z_ui (z_ui (z_ui (z_ui μ 18 4 ((μ.1 18 4) + (-3000))) 26 4 ((μ.1 26 4) + 1000)) 34 4 ((μ.1 34 4) + 1000)) 42 4 ((μ.1 42 4) + 1000)) (!(decide ((lg_cmp wd 0) = 0))) false (xBk (z_ui (z_ui (z_ui (z_ui μ 18 4 ((μ.1 18 4) + (-3000))) 26 4 ((μ.1 26 4) + 1000)) 34 4 ((μ.1 34 4) + 1000)) 42 4 ((μ.1 42 4) + 1000))) dl e (rcM (z_ui (z_ui (z_ui (z_ui μ 18 4 ((μ.1 18 4) + (-3000))) 26 4 ((μ.1 26 4) + 1000)) 34 4 ((μ.1 34 4) + 1000)) 42 4 ((μ.1 42 4) + 1000)))) := by
  refine z_C_in (by decide) (by omega) (fun d' Z ed hc hr => ?_)
  have hH : zH mi_X6_endUnwon zt_X6_endUnwon 79 6 6 := hh_X6_endUnwon
  refine z_rcs hc hH 9 (pc' := 11) (lv' := [(2, .int 0), (1, .int 0), (0, .ref 0)]) (st' := [.int 0, .ref 0]) (μ' := μ) (by rfl) ?_
  refine zq_call hc (z_cx_ok hH (by rfl)) (gc_at d' (by omega) μ 0 (by decide)) (by decide +kernel) (fun r9 μ9 hq => ?_)
  obtain ⟨hμ9, rfl⟩ := hq
  rw [hμ9]
  clear hμ9 μ9
  show Z 0 14 [(2, .int 0), (1, .int 0), (0, .ref 0)] [.ref 18] μ
  refine zq_gfr hc hH (by rfl) (ci := 1) (f := 0) (q := 19) (by rfl) (by decide +kernel) (by rfl) (by decide +kernel) ?_
  refine zq_call hc (z_cx_ok hH (by rfl)) (hw0 _ (TE_rf _) d' (by omega)) (by decide +kernel) (fun r9 μ9 hq => ?_)
  obtain ⟨hμ9, rfl⟩ := hq
  rw [hμ9]
  clear hμ9 μ9
  show Z 0 20 [(2, .int 0), (1, .int 0), (0, .ref 0)] [.long w0] μ
  refine z_rcs hc hH 2 (pc' := 22) (lv' := [(2, .int 0), (1, .int 0), (0, .ref 0)]) (st' := [.int (lg_cmp w0 0)]) (μ' := μ) (by rfl) ?_
  refine zq_if hc hH (by rfl) (tg := 28) (by rfl) (fun h1 => ?_) (fun h1 => ?_)
  · have h1 : (decide ((lg_cmp w0 0) = 0)) = true := decide_eq_true (cm_eq9.mp h1)
    refine z_rcs hc hH 7 (pc' := 11) (lv' := [(2, .int 1), (1, .int 0), (0, .ref 0)]) (st' := [.int 1, .ref 0]) (μ' := μ) (by rfl) ?_
    refine zq_call hc (z_cx_ok hH (by rfl)) (gc_at d' (by omega) μ 1 (by decide)) (by decide +kernel) (fun r9 μ9 hq => ?_)
    obtain ⟨hμ9, rfl⟩ := hq
    rw [hμ9]
    clear hμ9 μ9
    show Z 0 14 [(2, .int 1), (1, .int 0), (0, .ref 0)] [.ref 26] μ
    refine zq_gfr hc hH (by rfl) (ci := 1) (f := 0) (q := 27) (by rfl) (by decide +kernel) (by rfl) (by decide +kernel) ?_
    refine zq_call hc (z_cx_ok hH (by rfl)) (hw1 _ (TE_rf _) d' (by omega)) (by decide +kernel) (fun r9 μ9 hq => ?_)
    obtain ⟨hμ9, rfl⟩ := hq
    rw [hμ9]
    clear hμ9 μ9
    show Z 0 20 [(2, .int 1), (1, .int 0), (0, .ref 0)] [.long w1] μ
    refine z_rcs hc hH 2 (pc' := 22) (lv' := [(2, .int 1), (1, .int 0), (0, .ref 0)]) (st' := [.int (lg_cmp w1 0)]) (μ' := μ) (by rfl) ?_
    refine zq_if hc hH (by rfl) (tg := 28) (by rfl) (fun h2 => ?_) (fun h2 => ?_)
    · have h2 : (decide ((lg_cmp w1 0) = 0)) = true := decide_eq_true (cm_eq9.mp h2)
      exact absurd (Eq.trans (Eq.symm (hb1)) h2) (by decide)
    · have h2 : (decide ((lg_cmp w1 0) = 0)) = false := decide_eq_false (cn_eq.mp h2)
      refine z_rcs hc hH 8 (pc' := 11) (lv' := [(2, .int 2), (1, .int 1), (0, .ref 0)]) (st' := [.int 2, .ref 0]) (μ' := μ) (by rfl) ?_
      refine zq_call hc (z_cx_ok hH (by rfl)) (gc_at d' (by omega) μ 2 (by decide)) (by decide +kernel) (fun r9 μ9 hq => ?_)
      obtain ⟨hμ9, rfl⟩ := hq
      rw [hμ9]
      clear hμ9 μ9
      show Z 0 14 [(2, .int 2), (1, .int 1), (0, .ref 0)] [.ref 34] μ
      refine zq_gfr hc hH (by rfl) (ci := 1) (f := 0) (q := 35) (by rfl) (by decide +kernel) (by rfl) (by decide +kernel) ?_
      refine zq_call hc (z_cx_ok hH (by rfl)) (hw2 _ (TE_rf _) d' (by omega)) (by decide +kernel) (fun r9 μ9 hq => ?_)
      obtain ⟨hμ9, rfl⟩ := hq
      rw [hμ9]
      clear hμ9 μ9
      show Z 0 20 [(2, .int 2), (1, .int 1), (0, .ref 0)] [.long w2] μ
      refine z_rcs hc hH 2 (pc' := 22) (lv' := [(2, .int 2), (1, .int 1), (0, .ref 0)]) (st' := [.int (lg_cmp w2 0)]) (μ' := μ) (by rfl) ?_
      refine zq_if hc hH (by rfl) (tg := 28) (by rfl) (fun h3 => ?_) (fun h3 => ?_)
      · have h3 : (decide ((lg_cmp w2 0) = 0)) = true := decide_eq_true (cm_eq9.mp h3)
        exact absurd (Eq.trans (Eq.symm (hb2)) h3) (by decide)
      · have h3 : (decide ((lg_cmp w2 0) = 0)) = false := decide_eq_false (cn_eq.mp h3)
        refine z_rcs hc hH 8 (pc' := 11) (lv' := [(2, .int 3), (1, .int 2), (0, .ref 0)]) (st' := [.int 3, .ref 0]) (μ' := μ) (by rfl) ?_
        refine zq_call hc (z_cx_ok hH (by rfl)) (gc_at d' (by omega) μ 3 (by decide)) (by decide +kernel) (fun r9 μ9 hq => ?_)
        obtain ⟨hμ9, rfl⟩ := hq
        rw [hμ9]
        clear hμ9 μ9
        show Z 0 14 [(2, .int 3), (1, .int 2), (0, .ref 0)] [.ref 42] μ
        refine zq_gfr hc hH (by rfl) (ci := 1) (f := 0) (q := 43) (by rfl) (by decide +kernel) (by rfl) (by decide +kernel) ?_
        refine zq_call hc (z_cx_ok hH (by rfl)) (hw3 _ (TE_rf _) d' (by omega)) (by decide +kernel) (fun r9 μ9 hq => ?_)
        obtain ⟨hμ9, rfl⟩ := hq
        rw [hμ9]
        clear hμ9 μ9
        show Z 0 20 [(2, .int 3), (1, .int 2), (0, .ref 0)] [.long w3] μ
        refine z_rcs hc hH 2 (pc' := 22) (lv' := [(2, .int 3), (1, .int 2), (0, .ref 0)]) (st' := [.int (lg_cmp w3 0)]) (μ' := μ) (by rfl) ?_
        refine zq_if hc hH (by rfl) (tg := 28) (by rfl) (fun h4 => ?_) (fun h4 => ?_)
        · have h4 : (decide ((lg_cmp w3 0) = 0)) = true := decide_eq_true (cm_eq9.mp h4)
          exact absurd (Eq.trans (Eq.symm (hb3)) h4) (by decide)
        · have h4 : (decide ((lg_cmp w3 0) = 0)) = false := decide_eq_false (cn_eq.mp h4)
          refine z_rcs hc hH 8 (pc' := 36) (lv' := [(2, .int 4), (1, .int 3), (0, .ref 0)]) (st' := [.ref 0, .ref 0]) (μ' := μ) (by rfl) ?_
          refine zq_gfi hc hH (by rfl) (ci := 5) (f := 9) (by rfl) (by decide +kernel) (by rfl) ?_
          rw [hdl]
          refine zq_call hc (z_cx_ok hH (by rfl)) (gc_at4 d' (by omega) μ dl hdl4) (by decide +kernel) (fun r9 μ9 hq => ?_)
          obtain ⟨hμ9, rfl⟩ := hq
          rw [hμ9]
          clear hμ9 μ9
          show Z 0 42 [(2, .int 4), (1, .int 3), (0, .ref 0)] [.ref (18 + 8 * dl)] μ
          refine zq_gfr hc hH (by rfl) (ci := 1) (f := 0) (q := 19 + 8 * dl) (by rfl) (sj (P := fun i => okf 79 1 0 (18 + 8 * i)) hdl4 (by decide +kernel)) (by rfl) (sj (P := fun i => Nat.beq (z_gr (18 + 8 * i) 0) (19 + 8 * i)) hdl4 (by decide +kernel)) ?_
          refine zq_call hc (z_clv9 hH (by rfl) (by rfl) (by rfl) (by rfl) (sj (P := fun i => okr 79 2 (19 + 8 * i)) hdl4 (by decide +kernel)) (by rfl) (by rfl)) ((hwd _ (TE_rf _) d' (by omega))) (by decide +kernel) (fun r9 μ9 hq => ?_)
          obtain ⟨hμ9, rfl⟩ := hq
          rw [hμ9]
          clear hμ9 μ9
          show Z 0 48 [(2, .int 4), (1, .int 3), (0, .ref 0)] [.long wd] μ
          refine z_rcs hc hH 2 (pc' := 50) (lv' := [(2, .int 4), (1, .int 3), (0, .ref 0)]) (st' := [.int (lg_cmp wd 0)]) (μ' := μ) (by rfl) ?_
          have hJ5 : Z 0 58 [(2, .int 4), (1, .int 3), (0, .ref 0)] [.int (nB (!(decide ((lg_cmp wd 0) = 0))))] μ := by
            refine z_rcs hc hH 23 (pc' := 95) (lv' := [(5, .int 0), (4, .int 3000), (3, .int 1000), (2, .int (nB (!(decide ((lg_cmp wd 0) = 0))))), (1, .int 3), (0, .ref 0)]) (st' := [.int 0, .ref 0]) (μ' := μ) (by rfl) ?_
            refine zq_call hc (z_cx_ok hH (by rfl)) (gc_at d' (by omega) μ 0 (by decide)) (by decide +kernel) (fun r9 μ9 hq => ?_)
            obtain ⟨hμ9, rfl⟩ := hq
            rw [hμ9]
            clear hμ9 μ9
            show Z 0 98 [(5, .int 0), (4, .int 3000), (3, .int 1000), (2, .int (nB (!(decide ((lg_cmp wd 0) = 0))))), (1, .int 3), (0, .ref 0)] [.ref 18] μ
            refine z_rcs hc hH 1 (pc' := 99) (lv' := [(5, .int 0), (4, .int 3000), (3, .int 1000), (2, .int (nB (!(decide ((lg_cmp wd 0) = 0))))), (1, .int 3), (0, .ref 0)]) (st' := [.ref 18, .ref 18]) (μ' := μ) (by rfl) ?_
            refine zq_gfi hc hH (by rfl) (ci := 1) (f := 4) (by rfl) (by decide +kernel) (by rfl) ?_
            refine z_rcs hc hH 2 (pc' := 105) (lv' := [(5, .int 0), (4, .int 3000), (3, .int 1000), (2, .int (nB (!(decide ((lg_cmp wd 0) = 0))))), (1, .int 3), (0, .ref 0)]) (st' := [.int 0, .ref 0, .int (μ.1 18 4), .ref 18]) (μ' := μ) (by rfl) ?_
            refine zq_call hc (z_cx_ok hH (by rfl)) (gc_at d' (by omega) μ 0 (by decide)) (by decide +kernel) (fun r9 μ9 hq => ?_)
            obtain ⟨hμ9, rfl⟩ := hq
            rw [hμ9]
            clear hμ9 μ9
            show Z 0 108 [(5, .int 0), (4, .int 3000), (3, .int 1000), (2, .int (nB (!(decide ((lg_cmp wd 0) = 0))))), (1, .int 3), (0, .ref 0)] [.ref 18, .int (μ.1 18 4), .ref 18] μ
            refine zq_gfr hc hH (by rfl) (ci := 1) (f := 0) (q := 19) (by rfl) (by decide +kernel) (by rfl) (by decide +kernel) ?_
            refine zq_call hc (z_cx_ok hH (by rfl)) (hw0 _ (TE_rf _) d' (by omega)) (by decide +kernel) (fun r9 μ9 hq => ?_)
            obtain ⟨hμ9, rfl⟩ := hq
            rw [hμ9]
            clear hμ9 μ9
            show Z 0 114 [(5, .int 0), (4, .int 3000), (3, .int 1000), (2, .int (nB (!(decide ((lg_cmp wd 0) = 0))))), (1, .int 3), (0, .ref 0)] [.long w0, .int (μ.1 18 4), .ref 18] μ
            refine z_rcs hc hH 2 (pc' := 116) (lv' := [(5, .int 0), (4, .int 3000), (3, .int 1000), (2, .int (nB (!(decide ((lg_cmp wd 0) = 0))))), (1, .int 3), (0, .ref 0)]) (st' := [.int (lg_cmp w0 0), .int (μ.1 18 4), .ref 18]) (μ' := μ) (by rfl) ?_
            refine zq_if hc hH (by rfl) (tg := 123) (by rfl) (fun h6 => ?_) (fun h6 => ?_)
            · have h6 : (decide ((lg_cmp w0 0) = 0)) = true := decide_eq_true (cm_eq9.mp h6)
              refine z_rcs hc hH 3 (pc' := 127) (lv' := [(5, .int 0), (4, .int 3000), (3, .int 1000), (2, .int (nB (!(decide ((lg_cmp wd 0) = 0))))), (1, .int 3), (0, .ref 0)]) (st' := [.int ((μ.1 18 4) + (-3000)), .ref 18]) (μ' := μ) (by rfl) ?_
              refine zq_pfi hc hH (by rfl) (ci := 1) (f := 4) (by rfl) (by decide +kernel) (by rfl) ?_
              show Z 0 130 [(5, .int 0), (4, .int 3000), (3, .int 1000), (2, .int (nB (!(decide ((lg_cmp wd 0) = 0))))), (1, .int 3), (0, .ref 0)] [] (z_ui μ 18 4 ((μ.1 18 4) + (-3000)))
              refine z_rcs0 hc hH 7 (pc' := 95) (lv' := [(5, .int 1), (4, .int 3000), (3, .int 1000), (2, .int (nB (!(decide ((lg_cmp wd 0) = 0))))), (1, .int 3), (0, .ref 0)]) (st' := [.int 1, .ref 0]) (by rfl) ?_
              refine zq_call hc (z_cx_ok hH (by rfl)) (gc_at d' (by omega) (z_ui μ 18 4 ((μ.1 18 4) + (-3000))) 1 (by decide)) (by decide +kernel) (fun r9 μ9 hq => ?_)
              obtain ⟨hμ9, rfl⟩ := hq
              rw [hμ9]
              clear hμ9 μ9
              show Z 0 98 [(5, .int 1), (4, .int 3000), (3, .int 1000), (2, .int (nB (!(decide ((lg_cmp wd 0) = 0))))), (1, .int 3), (0, .ref 0)] [.ref 26] _
              refine z_rcs0 hc hH 1 (pc' := 99) (lv' := [(5, .int 1), (4, .int 3000), (3, .int 1000), (2, .int (nB (!(decide ((lg_cmp wd 0) = 0))))), (1, .int 3), (0, .ref 0)]) (st' := [.ref 26, .ref 26]) (by rfl) ?_
              refine zq_gfi hc hH (by rfl) (ci := 1) (f := 4) (by rfl) (by decide +kernel) (by rfl) ?_
              refine zV1 (Z := Z) (ui_o (by first | decide | omega)) ?_
              refine z_rcs0 hc hH 2 (pc' := 105) (lv' := [(5, .int 1), (4, .int 3000), (3, .int 1000), (2, .int (nB (!(decide ((lg_cmp wd 0) = 0))))), (1, .int 3), (0, .ref 0)]) (st' := [.int 1, .ref 0, .int (μ.1 26 4), .ref 26]) (by rfl) ?_
              refine zq_call hc (z_cx_ok hH (by rfl)) (gc_at d' (by omega) (z_ui μ 18 4 ((μ.1 18 4) + (-3000))) 1 (by decide)) (by decide +kernel) (fun r9 μ9 hq => ?_)
              obtain ⟨hμ9, rfl⟩ := hq
              rw [hμ9]
              clear hμ9 μ9
              show Z 0 108 [(5, .int 1), (4, .int 3000), (3, .int 1000), (2, .int (nB (!(decide ((lg_cmp wd 0) = 0))))), (1, .int 3), (0, .ref 0)] [.ref 26, .int (μ.1 26 4), .ref 26] _
              refine zq_gfr hc hH (by rfl) (ci := 1) (f := 0) (q := 27) (by rfl) (by decide +kernel) (by rfl) (by decide +kernel) ?_
              refine zq_call hc (z_cx_ok hH (by rfl)) (hw1 _ (TE_ui (TE_rf _) (by intro i a hi h1 h2; omega)) d' (by omega)) (by decide +kernel) (fun r9 μ9 hq => ?_)
              obtain ⟨hμ9, rfl⟩ := hq
              rw [hμ9]
              clear hμ9 μ9
              show Z 0 114 [(5, .int 1), (4, .int 3000), (3, .int 1000), (2, .int (nB (!(decide ((lg_cmp wd 0) = 0))))), (1, .int 3), (0, .ref 0)] [.long w1, .int (μ.1 26 4), .ref 26] _
              refine z_rcs0 hc hH 2 (pc' := 116) (lv' := [(5, .int 1), (4, .int 3000), (3, .int 1000), (2, .int (nB (!(decide ((lg_cmp wd 0) = 0))))), (1, .int 3), (0, .ref 0)]) (st' := [.int (lg_cmp w1 0), .int (μ.1 26 4), .ref 26]) (by rfl) ?_
              refine zq_if hc hH (by rfl) (tg := 123) (by rfl) (fun h7 => ?_) (fun h7 => ?_)
              · have h7 : (decide ((lg_cmp w1 0) = 0)) = true := decide_eq_true (cm_eq9.mp h7)
                exact absurd (Eq.trans (Eq.symm (hb1)) h7) (by decide)
              · have h7 : (decide ((lg_cmp w1 0) = 0)) = false := decide_eq_false (cn_eq.mp h7)
                refine z_rcs0 hc hH 3 (pc' := 127) (lv' := [(5, .int 1), (4, .int 3000), (3, .int 1000), (2, .int (nB (!(decide ((lg_cmp wd 0) = 0))))), (1, .int 3), (0, .ref 0)]) (st' := [.int ((μ.1 26 4) + 1000), .ref 26]) (by rfl) ?_
                refine zq_pfi hc hH (by rfl) (ci := 1) (f := 4) (by rfl) (by decide +kernel) (by rfl) ?_
                show Z 0 130 [(5, .int 1), (4, .int 3000), (3, .int 1000), (2, .int (nB (!(decide ((lg_cmp wd 0) = 0))))), (1, .int 3), (0, .ref 0)] [] (z_ui (z_ui μ 18 4 ((μ.1 18 4) + (-3000))) 26 4 ((μ.1 26 4) + 1000))
                refine z_rcs0 hc hH 7 (pc' := 95) (lv' := [(5, .int 2), (4, .int 3000), (3, .int 1000), (2, .int (nB (!(decide ((lg_cmp wd 0) = 0))))), (1, .int 3), (0, .ref 0)]) (st' := [.int 2, .ref 0]) (by rfl) ?_
                refine zq_call hc (z_cx_ok hH (by rfl)) (gc_at d' (by omega) (z_ui (z_ui μ 18 4 ((μ.1 18 4) + (-3000))) 26 4 ((μ.1 26 4) + 1000)) 2 (by decide)) (by decide +kernel) (fun r9 μ9 hq => ?_)
                obtain ⟨hμ9, rfl⟩ := hq
                rw [hμ9]
                clear hμ9 μ9
                show Z 0 98 [(5, .int 2), (4, .int 3000), (3, .int 1000), (2, .int (nB (!(decide ((lg_cmp wd 0) = 0))))), (1, .int 3), (0, .ref 0)] [.ref 34] _
                refine z_rcs0 hc hH 1 (pc' := 99) (lv' := [(5, .int 2), (4, .int 3000), (3, .int 1000), (2, .int (nB (!(decide ((lg_cmp wd 0) = 0))))), (1, .int 3), (0, .ref 0)]) (st' := [.ref 34, .ref 34]) (by rfl) ?_
                refine zq_gfi hc hH (by rfl) (ci := 1) (f := 4) (by rfl) (by decide +kernel) (by rfl) ?_
                refine zV1 (Z := Z) (Eq.trans (ui_o (by first | decide | omega)) (ui_o (by first | decide | omega))) ?_
                refine z_rcs0 hc hH 2 (pc' := 105) (lv' := [(5, .int 2), (4, .int 3000), (3, .int 1000), (2, .int (nB (!(decide ((lg_cmp wd 0) = 0))))), (1, .int 3), (0, .ref 0)]) (st' := [.int 2, .ref 0, .int (μ.1 34 4), .ref 34]) (by rfl) ?_
                refine zq_call hc (z_cx_ok hH (by rfl)) (gc_at d' (by omega) (z_ui (z_ui μ 18 4 ((μ.1 18 4) + (-3000))) 26 4 ((μ.1 26 4) + 1000)) 2 (by decide)) (by decide +kernel) (fun r9 μ9 hq => ?_)
                obtain ⟨hμ9, rfl⟩ := hq
                rw [hμ9]
                clear hμ9 μ9
                show Z 0 108 [(5, .int 2), (4, .int 3000), (3, .int 1000), (2, .int (nB (!(decide ((lg_cmp wd 0) = 0))))), (1, .int 3), (0, .ref 0)] [.ref 34, .int (μ.1 34 4), .ref 34] _
                refine zq_gfr hc hH (by rfl) (ci := 1) (f := 0) (q := 35) (by rfl) (by decide +kernel) (by rfl) (by decide +kernel) ?_
                refine zq_call hc (z_cx_ok hH (by rfl)) (hw2 _ (TE_ui (TE_ui (TE_rf _) (by intro i a hi h1 h2; omega)) (by intro i a hi h1 h2; omega)) d' (by omega)) (by decide +kernel) (fun r9 μ9 hq => ?_)
                obtain ⟨hμ9, rfl⟩ := hq
                rw [hμ9]
                clear hμ9 μ9
                show Z 0 114 [(5, .int 2), (4, .int 3000), (3, .int 1000), (2, .int (nB (!(decide ((lg_cmp wd 0) = 0))))), (1, .int 3), (0, .ref 0)] [.long w2, .int (μ.1 34 4), .ref 34] _
                refine z_rcs0 hc hH 2 (pc' := 116) (lv' := [(5, .int 2), (4, .int 3000), (3, .int 1000), (2, .int (nB (!(decide ((lg_cmp wd 0) = 0))))), (1, .int 3), (0, .ref 0)]) (st' := [.int (lg_cmp w2 0), .int (μ.1 34 4), .ref 34]) (by rfl) ?_
                refine zq_if hc hH (by rfl) (tg := 123) (by rfl) (fun h8 => ?_) (fun h8 => ?_)
                · have h8 : (decide ((lg_cmp w2 0) = 0)) = true := decide_eq_true (cm_eq9.mp h8)
                  exact absurd (Eq.trans (Eq.symm (hb2)) h8) (by decide)
                · have h8 : (decide ((lg_cmp w2 0) = 0)) = false := decide_eq_false (cn_eq.mp h8)
                  refine z_rcs0 hc hH 3 (pc' := 127) (lv' := [(5, .int 2), (4, .int 3000), (3, .int 1000), (2, .int (nB (!(decide ((lg_cmp wd 0) = 0))))), (1, .int 3), (0, .ref 0)]) (st' := [.int ((μ.1 34 4) + 1000), .ref 34]) (by rfl) ?_
                  refine zq_pfi hc hH (by rfl) (ci := 1) (f := 4) (by rfl) (by decide +kernel) (by rfl) ?_
                  show Z 0 130 [(5, .int 2), (4, .int 3000), (3, .int 1000), (2, .int (nB (!(decide ((lg_cmp wd 0) = 0))))), (1, .int 3), (0, .ref 0)] [] (z_ui (z_ui (z_ui μ 18 4 ((μ.1 18 4) + (-3000))) 26 4 ((μ.1 26 4) + 1000)) 34 4 ((μ.1 34 4) + 1000))
                  refine z_rcs0 hc hH 7 (pc' := 95) (lv' := [(5, .int 3), (4, .int 3000), (3, .int 1000), (2, .int (nB (!(decide ((lg_cmp wd 0) = 0))))), (1, .int 3), (0, .ref 0)]) (st' := [.int 3, .ref 0]) (by rfl) ?_
                  refine zq_call hc (z_cx_ok hH (by rfl)) (gc_at d' (by omega) (z_ui (z_ui (z_ui μ 18 4 ((μ.1 18 4) + (-3000))) 26 4 ((μ.1 26 4) + 1000)) 34 4 ((μ.1 34 4) + 1000)) 3 (by decide)) (by decide +kernel) (fun r9 μ9 hq => ?_)
                  obtain ⟨hμ9, rfl⟩ := hq
                  rw [hμ9]
                  clear hμ9 μ9
                  show Z 0 98 [(5, .int 3), (4, .int 3000), (3, .int 1000), (2, .int (nB (!(decide ((lg_cmp wd 0) = 0))))), (1, .int 3), (0, .ref 0)] [.ref 42] _
                  refine z_rcs0 hc hH 1 (pc' := 99) (lv' := [(5, .int 3), (4, .int 3000), (3, .int 1000), (2, .int (nB (!(decide ((lg_cmp wd 0) = 0))))), (1, .int 3), (0, .ref 0)]) (st' := [.ref 42, .ref 42]) (by rfl) ?_
                  refine zq_gfi hc hH (by rfl) (ci := 1) (f := 4) (by rfl) (by decide +kernel) (by rfl) ?_
                  refine zV1 (Z := Z) (Eq.trans (ui_o (by first | decide | omega)) (Eq.trans (ui_o (by first | decide | omega)) (ui_o (by first | decide | omega)))) ?_
                  refine z_rcs0 hc hH 2 (pc' := 105) (lv' := [(5, .int 3), (4, .int 3000), (3, .int 1000), (2, .int (nB (!(decide ((lg_cmp wd 0) = 0))))), (1, .int 3), (0, .ref 0)]) (st' := [.int 3, .ref 0, .int (μ.1 42 4), .ref 42]) (by rfl) ?_
                  refine zq_call hc (z_cx_ok hH (by rfl)) (gc_at d' (by omega) (z_ui (z_ui (z_ui μ 18 4 ((μ.1 18 4) + (-3000))) 26 4 ((μ.1 26 4) + 1000)) 34 4 ((μ.1 34 4) + 1000)) 3 (by decide)) (by decide +kernel) (fun r9 μ9 hq => ?_)
                  obtain ⟨hμ9, rfl⟩ := hq
                  rw [hμ9]
                  clear hμ9 μ9
                  show Z 0 108 [(5, .int 3), (4, .int 3000), (3, .int 1000), (2, .int (nB (!(decide ((lg_cmp wd 0) = 0))))), (1, .int 3), (0, .ref 0)] [.ref 42, .int (μ.1 42 4), .ref 42] _
                  refine zq_gfr hc hH (by rfl) (ci := 1) (f := 0) (q := 43) (by rfl) (by decide +kernel) (by rfl) (by decide +kernel) ?_
                  refine zq_call hc (z_cx_ok hH (by rfl)) (hw3 _ (TE_ui (TE_ui (TE_ui (TE_rf _) (by intro i a hi h1 h2; omega)) (by intro i a hi h1 h2; omega)) (by intro i a hi h1 h2; omega)) d' (by omega)) (by decide +kernel) (fun r9 μ9 hq => ?_)
                  obtain ⟨hμ9, rfl⟩ := hq
                  rw [hμ9]
                  clear hμ9 μ9
                  show Z 0 114 [(5, .int 3), (4, .int 3000), (3, .int 1000), (2, .int (nB (!(decide ((lg_cmp wd 0) = 0))))), (1, .int 3), (0, .ref 0)] [.long w3, .int (μ.1 42 4), .ref 42] _
                  refine z_rcs0 hc hH 2 (pc' := 116) (lv' := [(5, .int 3), (4, .int 3000), (3, .int 1000), (2, .int (nB (!(decide ((lg_cmp wd 0) = 0))))), (1, .int 3), (0, .ref 0)]) (st' := [.int (lg_cmp w3 0), .int (μ.1 42 4), .ref 42]) (by rfl) ?_
                  refine zq_if hc hH (by rfl) (tg := 123) (by rfl) (fun h9 => ?_) (fun h9 => ?_)
                  · have h9 : (decide ((lg_cmp w3 0) = 0)) = true := decide_eq_true (cm_eq9.mp h9)
                    exact absurd (Eq.trans (Eq.symm (hb3)) h9) (by decide)
                  · have h9 : (decide ((lg_cmp w3 0) = 0)) = false := decide_eq_false (cn_eq.mp h9)
                    refine z_rcs0 hc hH 3 (pc' := 127) (lv' := [(5, .int 3), (4, .int 3000), (3, .int 1000), (2, .int (nB (!(decide ((lg_cmp wd 0) = 0))))), (1, .int 3), (0, .ref 0)]) (st' := [.int ((μ.1 42 4) + 1000), .ref 42]) (by rfl) ?_
                    refine zq_pfi hc hH (by rfl) (ci := 1) (f := 4) (by rfl) (by decide +kernel) (by rfl) ?_
                    show Z 0 130 [(5, .int 3), (4, .int 3000), (3, .int 1000), (2, .int (nB (!(decide ((lg_cmp wd 0) = 0))))), (1, .int 3), (0, .ref 0)] [] (z_ui (z_ui (z_ui (z_ui μ 18 4 ((μ.1 18 4) + (-3000))) 26 4 ((μ.1 26 4) + 1000)) 34 4 ((μ.1 34 4) + 1000)) 42 4 ((μ.1 42 4) + 1000))
                    refine z_rcs0 hc hH 8 (pc' := 139) (lv' := [(5, .int 4), (4, .int 3000), (3, .int 1000), (2, .int (nB (!(decide ((lg_cmp wd 0) = 0))))), (1, .int 3), (0, .ref 0)]) (st' := [.int 0, .int (nB (!(decide ((lg_cmp wd 0) = 0)))), .ref 0]) (by rfl) ?_
                    refine zq_call hc (z_cx_ok hH (by rfl)) (gc_endHandB d' (by omega) (z_ui (z_ui (z_ui (z_ui μ 18 4 ((μ.1 18 4) + (-3000))) 26 4 ((μ.1 26 4) + 1000)) 34 4 ((μ.1 34 4) + 1000)) 42 4 ((μ.1 42 4) + 1000)) (!(decide ((lg_cmp wd 0) = 0))) false dl e (by rw [ui_o (by first | decide | omega), ui_o (by first | decide | omega), ui_o (by first | decide | omega), ui_o (by first | decide | omega)]; exact hdl) hdl4 he) (by decide +kernel) (fun r9 μ9 hq => ?_)
                    obtain ⟨rfl, rfl⟩ := hq
                    show Z 0 142 [(5, .int 4), (4, .int 3000), (3, .int 1000), (2, .int (nB (!(decide ((lg_cmp wd 0) = 0))))), (1, .int 3), (0, .ref 0)] [] (eHB (z_ui (z_ui (z_ui (z_ui μ 18 4 ((μ.1 18 4) + (-3000))) 26 4 ((μ.1 26 4) + 1000)) 34 4 ((μ.1 34 4) + 1000)) 42 4 ((μ.1 42 4) + 1000)) (!(decide ((lg_cmp wd 0) = 0))) false (xBk (z_ui (z_ui (z_ui (z_ui μ 18 4 ((μ.1 18 4) + (-3000))) 26 4 ((μ.1 26 4) + 1000)) 34 4 ((μ.1 34 4) + 1000)) 42 4 ((μ.1 42 4) + 1000))) dl e (rcM (z_ui (z_ui (z_ui (z_ui μ 18 4 ((μ.1 18 4) + (-3000))) 26 4 ((μ.1 26 4) + 1000)) 34 4 ((μ.1 34 4) + 1000)) 42 4 ((μ.1 42 4) + 1000))))
                    exact hr 0 142 _ _ _ none (by decide +kernel) (by rfl) (⟨rfl, rfl⟩)
            · have h6 : (decide ((lg_cmp w0 0) = 0)) = false := decide_eq_false (cn_eq.mp h6)
              exact absurd (Eq.trans (Eq.symm (hb0)) h6) (by decide)
          refine zq_if hc hH (by rfl) (tg := 57) (by rfl) (fun h10 => ?_) (fun h10 => ?_)
          · have h10 : (decide ((lg_cmp wd 0) = 0)) = true := decide_eq_true (cm_eq9.mp h10)
            refine z_rcs hc hH 1 (pc' := 58) (lv' := [(2, .int 4), (1, .int 3), (0, .ref 0)]) (st' := [.int 0]) (μ' := μ) (by rfl) ?_
            exact zJ hJ5 rfl (by first | with_reducible rfl | (simp only [h10, lb_f, Int64.or_zero, Int32.add_zero, nB_t, nB_f, Bool.not_true, Bool.not_false, Bool.and_true, Bool.true_and, Bool.false_and, Bool.and_false, Bool.or_true, Bool.true_or, Bool.false_or, Bool.or_false, cond_true, cond_false]; done) | rfl) rfl
          · have h10 : (decide ((lg_cmp wd 0) = 0)) = false := decide_eq_false (cn_eq.mp h10)
            refine z_rcs hc hH 2 (pc' := 58) (lv' := [(2, .int 4), (1, .int 3), (0, .ref 0)]) (st' := [.int 1]) (μ' := μ) (by rfl) ?_
            exact zJ hJ5 rfl (by first | with_reducible rfl | (simp only [h10, lb_f, Int64.or_zero, Int32.add_zero, nB_t, nB_f, Bool.not_true, Bool.not_false, Bool.and_true, Bool.true_and, Bool.false_and, Bool.and_false, Bool.or_true, Bool.true_or, Bool.false_or, Bool.or_false, cond_true, cond_false]; done) | rfl) rfl
  · have h1 : (decide ((lg_cmp w0 0) = 0)) = false := decide_eq_false (cn_eq.mp h1)
    exact absurd (Eq.trans (Eq.symm (hb0)) h1) (by decide)
theorem gc_endUnwon1000 (d : Nat) (hd : 8 ≤ d) (μ : zM) (dl e : Nat) (hdl : μ.1 0 9 = nI dl) (hdl4 : dl < 4) (he : (dl + 1) % 4 = e) (w0 : Int64) (hw0 : ∀ μ1, TE μ μ1 → ∀ d, 7 ≤ d → z_C d mi_X3_waiting [.ref 19] μ1 (zR μ1 (.long w0))) (w1 : Int64) (hw1 : ∀ μ1, TE μ μ1 → ∀ d, 7 ≤ d → z_C d mi_X3_waiting [.ref 27] μ1 (zR μ1 (.long w1))) (w2 : Int64) (hw2 : ∀ μ1, TE μ μ1 → ∀ d, 7 ≤ d → z_C d mi_X3_waiting [.ref 35] μ1 (zR μ1 (.long w2))) (w3 : Int64) (hw3 : ∀ μ1, TE μ μ1 → ∀ d, 7 ≤ d → z_C d mi_X3_waiting [.ref 43] μ1 (zR μ1 (.long w3))) (wd : Int64) (hwd : ∀ μ1, TE μ μ1 → ∀ d, 7 ≤ d → z_C d mi_X3_waiting [.ref (19 + 8 * dl)] μ1 (zR μ1 (.long wd))) (hb0 : decide (lg_cmp w0 0 = 0) = false) (hb1 : decide (lg_cmp w1 0 = 0) = true) (hb2 : decide (lg_cmp w2 0 = 0) = true) (hb3 : decide (lg_cmp w3 0 = 0) = true) : z_C d mi_X6_endUnwon [.ref 0] μ (fun r μ' => r = none ∧ μ' = eHB (z_ui (z_ui (z_ui (z_ui μ 18 4 ((μ.1 18 4) + 3000)) 26 4 ((μ.1 26 4) + (-1000))) 34 4 ((μ.1 34 4) + (-1000))) 42 4 ((μ.1 42 4) + (-1000))) (!(decide ((lg_cmp wd 0) = 0))) false (xBk (z_ui (z_ui (z_ui (z_ui μ 18 4 ((μ.1 18 4) + 3000)) 26 4 ((μ.1 26 4) + (-1000))) 34 4 ((μ.1 34 4) + (-1000))) 42 4 ((μ.1 42 4) + (-1000)))) dl e (rcM (z_ui (z_ui (z_ui (z_ui μ 18 4 ((μ.1 18 4) + 3000)) 26 4 ((μ.1 26 4) + (-1000))) 34 4 ((μ.1 34 4) + (-1000))) 42 4 ((μ.1 42 4) + (-1000))))) := by
  refine z_C_in (by decide) (by omega) (fun d' Z ed hc hr => ?_)
  have hH : zH mi_X6_endUnwon zt_X6_endUnwon 79 6 6 := hh_X6_endUnwon
  refine z_rcs hc hH 9 (pc' := 11) (lv' := [(2, .int 0), (1, .int 0), (0, .ref 0)]) (st' := [.int 0, .ref 0]) (μ' := μ) (by rfl) ?_
  refine zq_call hc (z_cx_ok hH (by rfl)) (gc_at d' (by omega) μ 0 (by decide)) (by decide +kernel) (fun r9 μ9 hq => ?_)
  obtain ⟨hμ9, rfl⟩ := hq
  rw [hμ9]
  clear hμ9 μ9
  show Z 0 14 [(2, .int 0), (1, .int 0), (0, .ref 0)] [.ref 18] μ
  refine zq_gfr hc hH (by rfl) (ci := 1) (f := 0) (q := 19) (by rfl) (by decide +kernel) (by rfl) (by decide +kernel) ?_
  refine zq_call hc (z_cx_ok hH (by rfl)) (hw0 _ (TE_rf _) d' (by omega)) (by decide +kernel) (fun r9 μ9 hq => ?_)
  obtain ⟨hμ9, rfl⟩ := hq
  rw [hμ9]
  clear hμ9 μ9
  show Z 0 20 [(2, .int 0), (1, .int 0), (0, .ref 0)] [.long w0] μ
  refine z_rcs hc hH 2 (pc' := 22) (lv' := [(2, .int 0), (1, .int 0), (0, .ref 0)]) (st' := [.int (lg_cmp w0 0)]) (μ' := μ) (by rfl) ?_
  refine zq_if hc hH (by rfl) (tg := 28) (by rfl) (fun h1 => ?_) (fun h1 => ?_)
  · have h1 : (decide ((lg_cmp w0 0) = 0)) = true := decide_eq_true (cm_eq9.mp h1)
    exact absurd (Eq.trans (Eq.symm (hb0)) h1) (by decide)
  · have h1 : (decide ((lg_cmp w0 0) = 0)) = false := decide_eq_false (cn_eq.mp h1)
    refine z_rcs hc hH 8 (pc' := 11) (lv' := [(2, .int 1), (1, .int 1), (0, .ref 0)]) (st' := [.int 1, .ref 0]) (μ' := μ) (by rfl) ?_
    refine zq_call hc (z_cx_ok hH (by rfl)) (gc_at d' (by omega) μ 1 (by decide)) (by decide +kernel) (fun r9 μ9 hq => ?_)
    obtain ⟨hμ9, rfl⟩ := hq
    rw [hμ9]
    clear hμ9 μ9
    show Z 0 14 [(2, .int 1), (1, .int 1), (0, .ref 0)] [.ref 26] μ
    refine zq_gfr hc hH (by rfl) (ci := 1) (f := 0) (q := 27) (by rfl) (by decide +kernel) (by rfl) (by decide +kernel) ?_
    refine zq_call hc (z_cx_ok hH (by rfl)) (hw1 _ (TE_rf _) d' (by omega)) (by decide +kernel) (fun r9 μ9 hq => ?_)
    obtain ⟨hμ9, rfl⟩ := hq
    rw [hμ9]
    clear hμ9 μ9
    show Z 0 20 [(2, .int 1), (1, .int 1), (0, .ref 0)] [.long w1] μ
    refine z_rcs hc hH 2 (pc' := 22) (lv' := [(2, .int 1), (1, .int 1), (0, .ref 0)]) (st' := [.int (lg_cmp w1 0)]) (μ' := μ) (by rfl) ?_
    refine zq_if hc hH (by rfl) (tg := 28) (by rfl) (fun h2 => ?_) (fun h2 => ?_)
    · have h2 : (decide ((lg_cmp w1 0) = 0)) = true := decide_eq_true (cm_eq9.mp h2)
      refine z_rcs hc hH 7 (pc' := 11) (lv' := [(2, .int 2), (1, .int 1), (0, .ref 0)]) (st' := [.int 2, .ref 0]) (μ' := μ) (by rfl) ?_
      refine zq_call hc (z_cx_ok hH (by rfl)) (gc_at d' (by omega) μ 2 (by decide)) (by decide +kernel) (fun r9 μ9 hq => ?_)
      obtain ⟨hμ9, rfl⟩ := hq
      rw [hμ9]
      clear hμ9 μ9
      show Z 0 14 [(2, .int 2), (1, .int 1), (0, .ref 0)] [.ref 34] μ
      refine zq_gfr hc hH (by rfl) (ci := 1) (f := 0) (q := 35) (by rfl) (by decide +kernel) (by rfl) (by decide +kernel) ?_
      refine zq_call hc (z_cx_ok hH (by rfl)) (hw2 _ (TE_rf _) d' (by omega)) (by decide +kernel) (fun r9 μ9 hq => ?_)
      obtain ⟨hμ9, rfl⟩ := hq
      rw [hμ9]
      clear hμ9 μ9
      show Z 0 20 [(2, .int 2), (1, .int 1), (0, .ref 0)] [.long w2] μ
      refine z_rcs hc hH 2 (pc' := 22) (lv' := [(2, .int 2), (1, .int 1), (0, .ref 0)]) (st' := [.int (lg_cmp w2 0)]) (μ' := μ) (by rfl) ?_
      refine zq_if hc hH (by rfl) (tg := 28) (by rfl) (fun h3 => ?_) (fun h3 => ?_)
      · have h3 : (decide ((lg_cmp w2 0) = 0)) = true := decide_eq_true (cm_eq9.mp h3)
        refine z_rcs hc hH 7 (pc' := 11) (lv' := [(2, .int 3), (1, .int 1), (0, .ref 0)]) (st' := [.int 3, .ref 0]) (μ' := μ) (by rfl) ?_
        refine zq_call hc (z_cx_ok hH (by rfl)) (gc_at d' (by omega) μ 3 (by decide)) (by decide +kernel) (fun r9 μ9 hq => ?_)
        obtain ⟨hμ9, rfl⟩ := hq
        rw [hμ9]
        clear hμ9 μ9
        show Z 0 14 [(2, .int 3), (1, .int 1), (0, .ref 0)] [.ref 42] μ
        refine zq_gfr hc hH (by rfl) (ci := 1) (f := 0) (q := 43) (by rfl) (by decide +kernel) (by rfl) (by decide +kernel) ?_
        refine zq_call hc (z_cx_ok hH (by rfl)) (hw3 _ (TE_rf _) d' (by omega)) (by decide +kernel) (fun r9 μ9 hq => ?_)
        obtain ⟨hμ9, rfl⟩ := hq
        rw [hμ9]
        clear hμ9 μ9
        show Z 0 20 [(2, .int 3), (1, .int 1), (0, .ref 0)] [.long w3] μ
        refine z_rcs hc hH 2 (pc' := 22) (lv' := [(2, .int 3), (1, .int 1), (0, .ref 0)]) (st' := [.int (lg_cmp w3 0)]) (μ' := μ) (by rfl) ?_
        refine zq_if hc hH (by rfl) (tg := 28) (by rfl) (fun h4 => ?_) (fun h4 => ?_)
        · have h4 : (decide ((lg_cmp w3 0) = 0)) = true := decide_eq_true (cm_eq9.mp h4)
          refine z_rcs hc hH 7 (pc' := 36) (lv' := [(2, .int 4), (1, .int 1), (0, .ref 0)]) (st' := [.ref 0, .ref 0]) (μ' := μ) (by rfl) ?_
          refine zq_gfi hc hH (by rfl) (ci := 5) (f := 9) (by rfl) (by decide +kernel) (by rfl) ?_
          rw [hdl]
          refine zq_call hc (z_cx_ok hH (by rfl)) (gc_at4 d' (by omega) μ dl hdl4) (by decide +kernel) (fun r9 μ9 hq => ?_)
          obtain ⟨hμ9, rfl⟩ := hq
          rw [hμ9]
          clear hμ9 μ9
          show Z 0 42 [(2, .int 4), (1, .int 1), (0, .ref 0)] [.ref (18 + 8 * dl)] μ
          refine zq_gfr hc hH (by rfl) (ci := 1) (f := 0) (q := 19 + 8 * dl) (by rfl) (sj (P := fun i => okf 79 1 0 (18 + 8 * i)) hdl4 (by decide +kernel)) (by rfl) (sj (P := fun i => Nat.beq (z_gr (18 + 8 * i) 0) (19 + 8 * i)) hdl4 (by decide +kernel)) ?_
          refine zq_call hc (z_clv9 hH (by rfl) (by rfl) (by rfl) (by rfl) (sj (P := fun i => okr 79 2 (19 + 8 * i)) hdl4 (by decide +kernel)) (by rfl) (by rfl)) ((hwd _ (TE_rf _) d' (by omega))) (by decide +kernel) (fun r9 μ9 hq => ?_)
          obtain ⟨hμ9, rfl⟩ := hq
          rw [hμ9]
          clear hμ9 μ9
          show Z 0 48 [(2, .int 4), (1, .int 1), (0, .ref 0)] [.long wd] μ
          refine z_rcs hc hH 2 (pc' := 50) (lv' := [(2, .int 4), (1, .int 1), (0, .ref 0)]) (st' := [.int (lg_cmp wd 0)]) (μ' := μ) (by rfl) ?_
          have hJ5 : Z 0 58 [(2, .int 4), (1, .int 1), (0, .ref 0)] [.int (nB (!(decide ((lg_cmp wd 0) = 0))))] μ := by
            refine z_rcs hc hH 23 (pc' := 95) (lv' := [(5, .int 0), (4, .int 1000), (3, .int 3000), (2, .int (nB (!(decide ((lg_cmp wd 0) = 0))))), (1, .int 1), (0, .ref 0)]) (st' := [.int 0, .ref 0]) (μ' := μ) (by rfl) ?_
            refine zq_call hc (z_cx_ok hH (by rfl)) (gc_at d' (by omega) μ 0 (by decide)) (by decide +kernel) (fun r9 μ9 hq => ?_)
            obtain ⟨hμ9, rfl⟩ := hq
            rw [hμ9]
            clear hμ9 μ9
            show Z 0 98 [(5, .int 0), (4, .int 1000), (3, .int 3000), (2, .int (nB (!(decide ((lg_cmp wd 0) = 0))))), (1, .int 1), (0, .ref 0)] [.ref 18] μ
            refine z_rcs hc hH 1 (pc' := 99) (lv' := [(5, .int 0), (4, .int 1000), (3, .int 3000), (2, .int (nB (!(decide ((lg_cmp wd 0) = 0))))), (1, .int 1), (0, .ref 0)]) (st' := [.ref 18, .ref 18]) (μ' := μ) (by rfl) ?_
            refine zq_gfi hc hH (by rfl) (ci := 1) (f := 4) (by rfl) (by decide +kernel) (by rfl) ?_
            refine z_rcs hc hH 2 (pc' := 105) (lv' := [(5, .int 0), (4, .int 1000), (3, .int 3000), (2, .int (nB (!(decide ((lg_cmp wd 0) = 0))))), (1, .int 1), (0, .ref 0)]) (st' := [.int 0, .ref 0, .int (μ.1 18 4), .ref 18]) (μ' := μ) (by rfl) ?_
            refine zq_call hc (z_cx_ok hH (by rfl)) (gc_at d' (by omega) μ 0 (by decide)) (by decide +kernel) (fun r9 μ9 hq => ?_)
            obtain ⟨hμ9, rfl⟩ := hq
            rw [hμ9]
            clear hμ9 μ9
            show Z 0 108 [(5, .int 0), (4, .int 1000), (3, .int 3000), (2, .int (nB (!(decide ((lg_cmp wd 0) = 0))))), (1, .int 1), (0, .ref 0)] [.ref 18, .int (μ.1 18 4), .ref 18] μ
            refine zq_gfr hc hH (by rfl) (ci := 1) (f := 0) (q := 19) (by rfl) (by decide +kernel) (by rfl) (by decide +kernel) ?_
            refine zq_call hc (z_cx_ok hH (by rfl)) (hw0 _ (TE_rf _) d' (by omega)) (by decide +kernel) (fun r9 μ9 hq => ?_)
            obtain ⟨hμ9, rfl⟩ := hq
            rw [hμ9]
            clear hμ9 μ9
            show Z 0 114 [(5, .int 0), (4, .int 1000), (3, .int 3000), (2, .int (nB (!(decide ((lg_cmp wd 0) = 0))))), (1, .int 1), (0, .ref 0)] [.long w0, .int (μ.1 18 4), .ref 18] μ
            refine z_rcs hc hH 2 (pc' := 116) (lv' := [(5, .int 0), (4, .int 1000), (3, .int 3000), (2, .int (nB (!(decide ((lg_cmp wd 0) = 0))))), (1, .int 1), (0, .ref 0)]) (st' := [.int (lg_cmp w0 0), .int (μ.1 18 4), .ref 18]) (μ' := μ) (by rfl) ?_
            refine zq_if hc hH (by rfl) (tg := 123) (by rfl) (fun h6 => ?_) (fun h6 => ?_)
            · have h6 : (decide ((lg_cmp w0 0) = 0)) = true := decide_eq_true (cm_eq9.mp h6)
              exact absurd (Eq.trans (Eq.symm (hb0)) h6) (by decide)
            · have h6 : (decide ((lg_cmp w0 0) = 0)) = false := decide_eq_false (cn_eq.mp h6)
              refine z_rcs hc hH 3 (pc' := 127) (lv' := [(5, .int 0), (4, .int 1000), (3, .int 3000), (2, .int (nB (!(decide ((lg_cmp wd 0) = 0))))), (1, .int 1), (0, .ref 0)]) (st' := [.int ((μ.1 18 4) + 3000), .ref 18]) (μ' := μ) (by rfl) ?_
              refine zq_pfi hc hH (by rfl) (ci := 1) (f := 4) (by rfl) (by decide +kernel) (by rfl) ?_
              show Z 0 130 [(5, .int 0), (4, .int 1000), (3, .int 3000), (2, .int (nB (!(decide ((lg_cmp wd 0) = 0))))), (1, .int 1), (0, .ref 0)] [] (z_ui μ 18 4 ((μ.1 18 4) + 3000))
              refine z_rcs0 hc hH 7 (pc' := 95) (lv' := [(5, .int 1), (4, .int 1000), (3, .int 3000), (2, .int (nB (!(decide ((lg_cmp wd 0) = 0))))), (1, .int 1), (0, .ref 0)]) (st' := [.int 1, .ref 0]) (by rfl) ?_
              refine zq_call hc (z_cx_ok hH (by rfl)) (gc_at d' (by omega) (z_ui μ 18 4 ((μ.1 18 4) + 3000)) 1 (by decide)) (by decide +kernel) (fun r9 μ9 hq => ?_)
              obtain ⟨hμ9, rfl⟩ := hq
              rw [hμ9]
              clear hμ9 μ9
              show Z 0 98 [(5, .int 1), (4, .int 1000), (3, .int 3000), (2, .int (nB (!(decide ((lg_cmp wd 0) = 0))))), (1, .int 1), (0, .ref 0)] [.ref 26] _
              refine z_rcs0 hc hH 1 (pc' := 99) (lv' := [(5, .int 1), (4, .int 1000), (3, .int 3000), (2, .int (nB (!(decide ((lg_cmp wd 0) = 0))))), (1, .int 1), (0, .ref 0)]) (st' := [.ref 26, .ref 26]) (by rfl) ?_
              refine zq_gfi hc hH (by rfl) (ci := 1) (f := 4) (by rfl) (by decide +kernel) (by rfl) ?_
              refine zV1 (Z := Z) (ui_o (by first | decide | omega)) ?_
              refine z_rcs0 hc hH 2 (pc' := 105) (lv' := [(5, .int 1), (4, .int 1000), (3, .int 3000), (2, .int (nB (!(decide ((lg_cmp wd 0) = 0))))), (1, .int 1), (0, .ref 0)]) (st' := [.int 1, .ref 0, .int (μ.1 26 4), .ref 26]) (by rfl) ?_
              refine zq_call hc (z_cx_ok hH (by rfl)) (gc_at d' (by omega) (z_ui μ 18 4 ((μ.1 18 4) + 3000)) 1 (by decide)) (by decide +kernel) (fun r9 μ9 hq => ?_)
              obtain ⟨hμ9, rfl⟩ := hq
              rw [hμ9]
              clear hμ9 μ9
              show Z 0 108 [(5, .int 1), (4, .int 1000), (3, .int 3000), (2, .int (nB (!(decide ((lg_cmp wd 0) = 0))))), (1, .int 1), (0, .ref 0)] [.ref 26, .int (μ.1 26 4), .ref 26] _
              refine zq_gfr hc hH (by rfl) (ci := 1) (f := 0) (q := 27) (by rfl) (by decide +kernel) (by rfl) (by decide +kernel) ?_
              refine zq_call hc (z_cx_ok hH (by rfl)) (hw1 _ (TE_ui (TE_rf _) (by intro i a hi h1 h2; omega)) d' (by omega)) (by decide +kernel) (fun r9 μ9 hq => ?_)
              obtain ⟨hμ9, rfl⟩ := hq
              rw [hμ9]
              clear hμ9 μ9
              show Z 0 114 [(5, .int 1), (4, .int 1000), (3, .int 3000), (2, .int (nB (!(decide ((lg_cmp wd 0) = 0))))), (1, .int 1), (0, .ref 0)] [.long w1, .int (μ.1 26 4), .ref 26] _
              refine z_rcs0 hc hH 2 (pc' := 116) (lv' := [(5, .int 1), (4, .int 1000), (3, .int 3000), (2, .int (nB (!(decide ((lg_cmp wd 0) = 0))))), (1, .int 1), (0, .ref 0)]) (st' := [.int (lg_cmp w1 0), .int (μ.1 26 4), .ref 26]) (by rfl) ?_
              refine zq_if hc hH (by rfl) (tg := 123) (by rfl) (fun h7 => ?_) (fun h7 => ?_)
              · have h7 : (decide ((lg_cmp w1 0) = 0)) = true := decide_eq_true (cm_eq9.mp h7)
                refine z_rcs0 hc hH 3 (pc' := 127) (lv' := [(5, .int 1), (4, .int 1000), (3, .int 3000), (2, .int (nB (!(decide ((lg_cmp wd 0) = 0))))), (1, .int 1), (0, .ref 0)]) (st' := [.int ((μ.1 26 4) + (-1000)), .ref 26]) (by rfl) ?_
                refine zq_pfi hc hH (by rfl) (ci := 1) (f := 4) (by rfl) (by decide +kernel) (by rfl) ?_
                show Z 0 130 [(5, .int 1), (4, .int 1000), (3, .int 3000), (2, .int (nB (!(decide ((lg_cmp wd 0) = 0))))), (1, .int 1), (0, .ref 0)] [] (z_ui (z_ui μ 18 4 ((μ.1 18 4) + 3000)) 26 4 ((μ.1 26 4) + (-1000)))
                refine z_rcs0 hc hH 7 (pc' := 95) (lv' := [(5, .int 2), (4, .int 1000), (3, .int 3000), (2, .int (nB (!(decide ((lg_cmp wd 0) = 0))))), (1, .int 1), (0, .ref 0)]) (st' := [.int 2, .ref 0]) (by rfl) ?_
                refine zq_call hc (z_cx_ok hH (by rfl)) (gc_at d' (by omega) (z_ui (z_ui μ 18 4 ((μ.1 18 4) + 3000)) 26 4 ((μ.1 26 4) + (-1000))) 2 (by decide)) (by decide +kernel) (fun r9 μ9 hq => ?_)
                obtain ⟨hμ9, rfl⟩ := hq
                rw [hμ9]
                clear hμ9 μ9
                show Z 0 98 [(5, .int 2), (4, .int 1000), (3, .int 3000), (2, .int (nB (!(decide ((lg_cmp wd 0) = 0))))), (1, .int 1), (0, .ref 0)] [.ref 34] _
                refine z_rcs0 hc hH 1 (pc' := 99) (lv' := [(5, .int 2), (4, .int 1000), (3, .int 3000), (2, .int (nB (!(decide ((lg_cmp wd 0) = 0))))), (1, .int 1), (0, .ref 0)]) (st' := [.ref 34, .ref 34]) (by rfl) ?_
                refine zq_gfi hc hH (by rfl) (ci := 1) (f := 4) (by rfl) (by decide +kernel) (by rfl) ?_
                refine zV1 (Z := Z) (Eq.trans (ui_o (by first | decide | omega)) (ui_o (by first | decide | omega))) ?_
                refine z_rcs0 hc hH 2 (pc' := 105) (lv' := [(5, .int 2), (4, .int 1000), (3, .int 3000), (2, .int (nB (!(decide ((lg_cmp wd 0) = 0))))), (1, .int 1), (0, .ref 0)]) (st' := [.int 2, .ref 0, .int (μ.1 34 4), .ref 34]) (by rfl) ?_
                refine zq_call hc (z_cx_ok hH (by rfl)) (gc_at d' (by omega) (z_ui (z_ui μ 18 4 ((μ.1 18 4) + 3000)) 26 4 ((μ.1 26 4) + (-1000))) 2 (by decide)) (by decide +kernel) (fun r9 μ9 hq => ?_)
                obtain ⟨hμ9, rfl⟩ := hq
                rw [hμ9]
                clear hμ9 μ9
                show Z 0 108 [(5, .int 2), (4, .int 1000), (3, .int 3000), (2, .int (nB (!(decide ((lg_cmp wd 0) = 0))))), (1, .int 1), (0, .ref 0)] [.ref 34, .int (μ.1 34 4), .ref 34] _
                refine zq_gfr hc hH (by rfl) (ci := 1) (f := 0) (q := 35) (by rfl) (by decide +kernel) (by rfl) (by decide +kernel) ?_
                refine zq_call hc (z_cx_ok hH (by rfl)) (hw2 _ (TE_ui (TE_ui (TE_rf _) (by intro i a hi h1 h2; omega)) (by intro i a hi h1 h2; omega)) d' (by omega)) (by decide +kernel) (fun r9 μ9 hq => ?_)
                obtain ⟨hμ9, rfl⟩ := hq
                rw [hμ9]
                clear hμ9 μ9
                show Z 0 114 [(5, .int 2), (4, .int 1000), (3, .int 3000), (2, .int (nB (!(decide ((lg_cmp wd 0) = 0))))), (1, .int 1), (0, .ref 0)] [.long w2, .int (μ.1 34 4), .ref 34] _
                refine z_rcs0 hc hH 2 (pc' := 116) (lv' := [(5, .int 2), (4, .int 1000), (3, .int 3000), (2, .int (nB (!(decide ((lg_cmp wd 0) = 0))))), (1, .int 1), (0, .ref 0)]) (st' := [.int (lg_cmp w2 0), .int (μ.1 34 4), .ref 34]) (by rfl) ?_
                refine zq_if hc hH (by rfl) (tg := 123) (by rfl) (fun h8 => ?_) (fun h8 => ?_)
                · have h8 : (decide ((lg_cmp w2 0) = 0)) = true := decide_eq_true (cm_eq9.mp h8)
                  refine z_rcs0 hc hH 3 (pc' := 127) (lv' := [(5, .int 2), (4, .int 1000), (3, .int 3000), (2, .int (nB (!(decide ((lg_cmp wd 0) = 0))))), (1, .int 1), (0, .ref 0)]) (st' := [.int ((μ.1 34 4) + (-1000)), .ref 34]) (by rfl) ?_
                  refine zq_pfi hc hH (by rfl) (ci := 1) (f := 4) (by rfl) (by decide +kernel) (by rfl) ?_
                  show Z 0 130 [(5, .int 2), (4, .int 1000), (3, .int 3000), (2, .int (nB (!(decide ((lg_cmp wd 0) = 0))))), (1, .int 1), (0, .ref 0)] [] (z_ui (z_ui (z_ui μ 18 4 ((μ.1 18 4) + 3000)) 26 4 ((μ.1 26 4) + (-1000))) 34 4 ((μ.1 34 4) + (-1000)))
                  refine z_rcs0 hc hH 7 (pc' := 95) (lv' := [(5, .int 3), (4, .int 1000), (3, .int 3000), (2, .int (nB (!(decide ((lg_cmp wd 0) = 0))))), (1, .int 1), (0, .ref 0)]) (st' := [.int 3, .ref 0]) (by rfl) ?_
                  refine zq_call hc (z_cx_ok hH (by rfl)) (gc_at d' (by omega) (z_ui (z_ui (z_ui μ 18 4 ((μ.1 18 4) + 3000)) 26 4 ((μ.1 26 4) + (-1000))) 34 4 ((μ.1 34 4) + (-1000))) 3 (by decide)) (by decide +kernel) (fun r9 μ9 hq => ?_)
                  obtain ⟨hμ9, rfl⟩ := hq
                  rw [hμ9]
                  clear hμ9 μ9
                  show Z 0 98 [(5, .int 3), (4, .int 1000), (3, .int 3000), (2, .int (nB (!(decide ((lg_cmp wd 0) = 0))))), (1, .int 1), (0, .ref 0)] [.ref 42] _
                  refine z_rcs0 hc hH 1 (pc' := 99) (lv' := [(5, .int 3), (4, .int 1000), (3, .int 3000), (2, .int (nB (!(decide ((lg_cmp wd 0) = 0))))), (1, .int 1), (0, .ref 0)]) (st' := [.ref 42, .ref 42]) (by rfl) ?_
                  refine zq_gfi hc hH (by rfl) (ci := 1) (f := 4) (by rfl) (by decide +kernel) (by rfl) ?_
                  refine zV1 (Z := Z) (Eq.trans (ui_o (by first | decide | omega)) (Eq.trans (ui_o (by first | decide | omega)) (ui_o (by first | decide | omega)))) ?_
                  refine z_rcs0 hc hH 2 (pc' := 105) (lv' := [(5, .int 3), (4, .int 1000), (3, .int 3000), (2, .int (nB (!(decide ((lg_cmp wd 0) = 0))))), (1, .int 1), (0, .ref 0)]) (st' := [.int 3, .ref 0, .int (μ.1 42 4), .ref 42]) (by rfl) ?_
                  refine zq_call hc (z_cx_ok hH (by rfl)) (gc_at d' (by omega) (z_ui (z_ui (z_ui μ 18 4 ((μ.1 18 4) + 3000)) 26 4 ((μ.1 26 4) + (-1000))) 34 4 ((μ.1 34 4) + (-1000))) 3 (by decide)) (by decide +kernel) (fun r9 μ9 hq => ?_)
                  obtain ⟨hμ9, rfl⟩ := hq
                  rw [hμ9]
                  clear hμ9 μ9
                  show Z 0 108 [(5, .int 3), (4, .int 1000), (3, .int 3000), (2, .int (nB (!(decide ((lg_cmp wd 0) = 0))))), (1, .int 1), (0, .ref 0)] [.ref 42, .int (μ.1 42 4), .ref 42] _
                  refine zq_gfr hc hH (by rfl) (ci := 1) (f := 0) (q := 43) (by rfl) (by decide +kernel) (by rfl) (by decide +kernel) ?_
                  refine zq_call hc (z_cx_ok hH (by rfl)) (hw3 _ (TE_ui (TE_ui (TE_ui (TE_rf _) (by intro i a hi h1 h2; omega)) (by intro i a hi h1 h2; omega)) (by intro i a hi h1 h2; omega)) d' (by omega)) (by decide +kernel) (fun r9 μ9 hq => ?_)
                  obtain ⟨hμ9, rfl⟩ := hq
                  rw [hμ9]
                  clear hμ9 μ9
                  show Z 0 114 [(5, .int 3), (4, .int 1000), (3, .int 3000), (2, .int (nB (!(decide ((lg_cmp wd 0) = 0))))), (1, .int 1), (0, .ref 0)] [.long w3, .int (μ.1 42 4), .ref 42] _
                  refine z_rcs0 hc hH 2 (pc' := 116) (lv' := [(5, .int 3), (4, .int 1000), (3, .int 3000), (2, .int (nB (!(decide ((lg_cmp wd 0) = 0))))), (1, .int 1), (0, .ref 0)]) (st' := [.int (lg_cmp w3 0), .int (μ.1 42 4), .ref 42]) (by rfl) ?_
                  refine zq_if hc hH (by rfl) (tg := 123) (by rfl) (fun h9 => ?_) (fun h9 => ?_)
                  · have h9 : (decide ((lg_cmp w3 0) = 0)) = true := decide_eq_true (cm_eq9.mp h9)
                    refine z_rcs0 hc hH 3 (pc' := 127) (lv' := [(5, .int 3), (4, .int 1000), (3, .int 3000), (2, .int (nB (!(decide ((lg_cmp wd 0) = 0))))), (1, .int 1), (0, .ref 0)]) (st' := [.int ((μ.1 42 4) + (-1000)), .ref 42]) (by rfl) ?_
                    refine zq_pfi hc hH (by rfl) (ci := 1) (f := 4) (by rfl) (by decide +kernel) (by rfl) ?_
                    show Z 0 130 [(5, .int 3), (4, .int 1000), (3, .int 3000), (2, .int (nB (!(decide ((lg_cmp wd 0) = 0))))), (1, .int 1), (0, .ref 0)] [] (z_ui (z_ui (z_ui (z_ui μ 18 4 ((μ.1 18 4) + 3000)) 26 4 ((μ.1 26 4) + (-1000))) 34 4 ((μ.1 34 4) + (-1000))) 42 4 ((μ.1 42 4) + (-1000)))
                    refine z_rcs0 hc hH 8 (pc' := 139) (lv' := [(5, .int 4), (4, .int 1000), (3, .int 3000), (2, .int (nB (!(decide ((lg_cmp wd 0) = 0))))), (1, .int 1), (0, .ref 0)]) (st' := [.int 0, .int (nB (!(decide ((lg_cmp wd 0) = 0)))), .ref 0]) (by rfl) ?_
                    refine zq_call hc (z_cx_ok hH (by rfl)) (gc_endHandB d' (by omega) (z_ui (z_ui (z_ui (z_ui μ 18 4 ((μ.1 18 4) + 3000)) 26 4 ((μ.1 26 4) + (-1000))) 34 4 ((μ.1 34 4) + (-1000))) 42 4 ((μ.1 42 4) + (-1000))) (!(decide ((lg_cmp wd 0) = 0))) false dl e (by rw [ui_o (by first | decide | omega), ui_o (by first | decide | omega), ui_o (by first | decide | omega), ui_o (by first | decide | omega)]; exact hdl) hdl4 he) (by decide +kernel) (fun r9 μ9 hq => ?_)
                    obtain ⟨rfl, rfl⟩ := hq
                    show Z 0 142 [(5, .int 4), (4, .int 1000), (3, .int 3000), (2, .int (nB (!(decide ((lg_cmp wd 0) = 0))))), (1, .int 1), (0, .ref 0)] [] (eHB (z_ui (z_ui (z_ui (z_ui μ 18 4 ((μ.1 18 4) + 3000)) 26 4 ((μ.1 26 4) + (-1000))) 34 4 ((μ.1 34 4) + (-1000))) 42 4 ((μ.1 42 4) + (-1000))) (!(decide ((lg_cmp wd 0) = 0))) false (xBk (z_ui (z_ui (z_ui (z_ui μ 18 4 ((μ.1 18 4) + 3000)) 26 4 ((μ.1 26 4) + (-1000))) 34 4 ((μ.1 34 4) + (-1000))) 42 4 ((μ.1 42 4) + (-1000)))) dl e (rcM (z_ui (z_ui (z_ui (z_ui μ 18 4 ((μ.1 18 4) + 3000)) 26 4 ((μ.1 26 4) + (-1000))) 34 4 ((μ.1 34 4) + (-1000))) 42 4 ((μ.1 42 4) + (-1000)))))
                    exact hr 0 142 _ _ _ none (by decide +kernel) (by rfl) (⟨rfl, rfl⟩)
                  · have h9 : (decide ((lg_cmp w3 0) = 0)) = false := decide_eq_false (cn_eq.mp h9)
                    exact absurd (Eq.trans (Eq.symm (hb3)) h9) (by decide)
                · have h8 : (decide ((lg_cmp w2 0) = 0)) = false := decide_eq_false (cn_eq.mp h8)
                  exact absurd (Eq.trans (Eq.symm (hb2)) h8) (by decide)
              · have h7 : (decide ((lg_cmp w1 0) = 0)) = false := decide_eq_false (cn_eq.mp h7)
                exact absurd (Eq.trans (Eq.symm (hb1)) h7) (by decide)
          refine zq_if hc hH (by rfl) (tg := 57) (by rfl) (fun h10 => ?_) (fun h10 => ?_)
          · have h10 : (decide ((lg_cmp wd 0) = 0)) = true := decide_eq_true (cm_eq9.mp h10)
            refine z_rcs hc hH 1 (pc' := 58) (lv' := [(2, .int 4), (1, .int 1), (0, .ref 0)]) (st' := [.int 0]) (μ' := μ) (by rfl) ?_
            exact zJ hJ5 rfl (by first | with_reducible rfl | (simp only [h10, lb_f, Int64.or_zero, Int32.add_zero, nB_t, nB_f, Bool.not_true, Bool.not_false, Bool.and_true, Bool.true_and, Bool.false_and, Bool.and_false, Bool.or_true, Bool.true_or, Bool.false_or, Bool.or_false, cond_true, cond_false]; done) | rfl) rfl
          · have h10 : (decide ((lg_cmp wd 0) = 0)) = false := decide_eq_false (cn_eq.mp h10)
            refine z_rcs hc hH 2 (pc' := 58) (lv' := [(2, .int 4), (1, .int 1), (0, .ref 0)]) (st' := [.int 1]) (μ' := μ) (by rfl) ?_
            exact zJ hJ5 rfl (by first | with_reducible rfl | (simp only [h10, lb_f, Int64.or_zero, Int32.add_zero, nB_t, nB_f, Bool.not_true, Bool.not_false, Bool.and_true, Bool.true_and, Bool.false_and, Bool.and_false, Bool.or_true, Bool.true_or, Bool.false_or, Bool.or_false, cond_true, cond_false]; done) | rfl) rfl
        · have h4 : (decide ((lg_cmp w3 0) = 0)) = false := decide_eq_false (cn_eq.mp h4)
          exact absurd (Eq.trans (Eq.symm (hb3)) h4) (by decide)
      · have h3 : (decide ((lg_cmp w2 0) = 0)) = false := decide_eq_false (cn_eq.mp h3)
        exact absurd (Eq.trans (Eq.symm (hb2)) h3) (by decide)
    · have h2 : (decide ((lg_cmp w1 0) = 0)) = false := decide_eq_false (cn_eq.mp h2)
      exact absurd (Eq.trans (Eq.symm (hb1)) h2) (by decide)
theorem gc_endUnwon1001 (d : Nat) (hd : 8 ≤ d) (μ : zM) (dl e : Nat) (hdl : μ.1 0 9 = nI dl) (hdl4 : dl < 4) (he : (dl + 1) % 4 = e) (w0 : Int64) (hw0 : ∀ μ1, TE μ μ1 → ∀ d, 7 ≤ d → z_C d mi_X3_waiting [.ref 19] μ1 (zR μ1 (.long w0))) (w1 : Int64) (hw1 : ∀ μ1, TE μ μ1 → ∀ d, 7 ≤ d → z_C d mi_X3_waiting [.ref 27] μ1 (zR μ1 (.long w1))) (w2 : Int64) (hw2 : ∀ μ1, TE μ μ1 → ∀ d, 7 ≤ d → z_C d mi_X3_waiting [.ref 35] μ1 (zR μ1 (.long w2))) (w3 : Int64) (hw3 : ∀ μ1, TE μ μ1 → ∀ d, 7 ≤ d → z_C d mi_X3_waiting [.ref 43] μ1 (zR μ1 (.long w3))) (wd : Int64) (hwd : ∀ μ1, TE μ μ1 → ∀ d, 7 ≤ d → z_C d mi_X3_waiting [.ref (19 + 8 * dl)] μ1 (zR μ1 (.long wd))) (hb0 : decide (lg_cmp w0 0 = 0) = false) (hb1 : decide (lg_cmp w1 0 = 0) = true) (hb2 : decide (lg_cmp w2 0 = 0) = true) (hb3 : decide (lg_cmp w3 0 = 0) = false) : z_C d mi_X6_endUnwon [.ref 0] μ (fun r μ' => r = none ∧ μ' = eHB (z_ui (z_ui (z_ui (z_ui μ 18 4 ((μ.1 18 4) + 1500)) 26 4 ((μ.1 26 4) + (-1500))) 34 4 ((μ.1 34 4) + (-1500))) 42 4 ((μ.1 42 4) + 1500)) (!(decide ((lg_cmp wd 0) = 0))) false (xBk (z_ui (z_ui (z_ui (z_ui μ 18 4 ((μ.1 18 4) + 1500)) 26 4 ((μ.1 26 4) + (-1500))) 34 4 ((μ.1 34 4) + (-1500))) 42 4 ((μ.1 42 4) + 1500))) dl e (rcM (z_ui (z_ui (z_ui (z_ui μ 18 4 ((μ.1 18 4) + 1500)) 26 4 ((μ.1 26 4) + (-1500))) 34 4 ((μ.1 34 4) + (-1500))) 42 4 ((μ.1 42 4) + 1500)))) := by
  refine z_C_in (by decide) (by omega) (fun d' Z ed hc hr => ?_)
  have hH : zH mi_X6_endUnwon zt_X6_endUnwon 79 6 6 := hh_X6_endUnwon
  refine z_rcs hc hH 9 (pc' := 11) (lv' := [(2, .int 0), (1, .int 0), (0, .ref 0)]) (st' := [.int 0, .ref 0]) (μ' := μ) (by rfl) ?_
  refine zq_call hc (z_cx_ok hH (by rfl)) (gc_at d' (by omega) μ 0 (by decide)) (by decide +kernel) (fun r9 μ9 hq => ?_)
  obtain ⟨hμ9, rfl⟩ := hq
  rw [hμ9]
  clear hμ9 μ9
  show Z 0 14 [(2, .int 0), (1, .int 0), (0, .ref 0)] [.ref 18] μ
  refine zq_gfr hc hH (by rfl) (ci := 1) (f := 0) (q := 19) (by rfl) (by decide +kernel) (by rfl) (by decide +kernel) ?_
  refine zq_call hc (z_cx_ok hH (by rfl)) (hw0 _ (TE_rf _) d' (by omega)) (by decide +kernel) (fun r9 μ9 hq => ?_)
  obtain ⟨hμ9, rfl⟩ := hq
  rw [hμ9]
  clear hμ9 μ9
  show Z 0 20 [(2, .int 0), (1, .int 0), (0, .ref 0)] [.long w0] μ
  refine z_rcs hc hH 2 (pc' := 22) (lv' := [(2, .int 0), (1, .int 0), (0, .ref 0)]) (st' := [.int (lg_cmp w0 0)]) (μ' := μ) (by rfl) ?_
  refine zq_if hc hH (by rfl) (tg := 28) (by rfl) (fun h1 => ?_) (fun h1 => ?_)
  · have h1 : (decide ((lg_cmp w0 0) = 0)) = true := decide_eq_true (cm_eq9.mp h1)
    exact absurd (Eq.trans (Eq.symm (hb0)) h1) (by decide)
  · have h1 : (decide ((lg_cmp w0 0) = 0)) = false := decide_eq_false (cn_eq.mp h1)
    refine z_rcs hc hH 8 (pc' := 11) (lv' := [(2, .int 1), (1, .int 1), (0, .ref 0)]) (st' := [.int 1, .ref 0]) (μ' := μ) (by rfl) ?_
    refine zq_call hc (z_cx_ok hH (by rfl)) (gc_at d' (by omega) μ 1 (by decide)) (by decide +kernel) (fun r9 μ9 hq => ?_)
    obtain ⟨hμ9, rfl⟩ := hq
    rw [hμ9]
    clear hμ9 μ9
    show Z 0 14 [(2, .int 1), (1, .int 1), (0, .ref 0)] [.ref 26] μ
    refine zq_gfr hc hH (by rfl) (ci := 1) (f := 0) (q := 27) (by rfl) (by decide +kernel) (by rfl) (by decide +kernel) ?_
    refine zq_call hc (z_cx_ok hH (by rfl)) (hw1 _ (TE_rf _) d' (by omega)) (by decide +kernel) (fun r9 μ9 hq => ?_)
    obtain ⟨hμ9, rfl⟩ := hq
    rw [hμ9]
    clear hμ9 μ9
    show Z 0 20 [(2, .int 1), (1, .int 1), (0, .ref 0)] [.long w1] μ
    refine z_rcs hc hH 2 (pc' := 22) (lv' := [(2, .int 1), (1, .int 1), (0, .ref 0)]) (st' := [.int (lg_cmp w1 0)]) (μ' := μ) (by rfl) ?_
    refine zq_if hc hH (by rfl) (tg := 28) (by rfl) (fun h2 => ?_) (fun h2 => ?_)
    · have h2 : (decide ((lg_cmp w1 0) = 0)) = true := decide_eq_true (cm_eq9.mp h2)
      refine z_rcs hc hH 7 (pc' := 11) (lv' := [(2, .int 2), (1, .int 1), (0, .ref 0)]) (st' := [.int 2, .ref 0]) (μ' := μ) (by rfl) ?_
      refine zq_call hc (z_cx_ok hH (by rfl)) (gc_at d' (by omega) μ 2 (by decide)) (by decide +kernel) (fun r9 μ9 hq => ?_)
      obtain ⟨hμ9, rfl⟩ := hq
      rw [hμ9]
      clear hμ9 μ9
      show Z 0 14 [(2, .int 2), (1, .int 1), (0, .ref 0)] [.ref 34] μ
      refine zq_gfr hc hH (by rfl) (ci := 1) (f := 0) (q := 35) (by rfl) (by decide +kernel) (by rfl) (by decide +kernel) ?_
      refine zq_call hc (z_cx_ok hH (by rfl)) (hw2 _ (TE_rf _) d' (by omega)) (by decide +kernel) (fun r9 μ9 hq => ?_)
      obtain ⟨hμ9, rfl⟩ := hq
      rw [hμ9]
      clear hμ9 μ9
      show Z 0 20 [(2, .int 2), (1, .int 1), (0, .ref 0)] [.long w2] μ
      refine z_rcs hc hH 2 (pc' := 22) (lv' := [(2, .int 2), (1, .int 1), (0, .ref 0)]) (st' := [.int (lg_cmp w2 0)]) (μ' := μ) (by rfl) ?_
      refine zq_if hc hH (by rfl) (tg := 28) (by rfl) (fun h3 => ?_) (fun h3 => ?_)
      · have h3 : (decide ((lg_cmp w2 0) = 0)) = true := decide_eq_true (cm_eq9.mp h3)
        refine z_rcs hc hH 7 (pc' := 11) (lv' := [(2, .int 3), (1, .int 1), (0, .ref 0)]) (st' := [.int 3, .ref 0]) (μ' := μ) (by rfl) ?_
        refine zq_call hc (z_cx_ok hH (by rfl)) (gc_at d' (by omega) μ 3 (by decide)) (by decide +kernel) (fun r9 μ9 hq => ?_)
        obtain ⟨hμ9, rfl⟩ := hq
        rw [hμ9]
        clear hμ9 μ9
        show Z 0 14 [(2, .int 3), (1, .int 1), (0, .ref 0)] [.ref 42] μ
        refine zq_gfr hc hH (by rfl) (ci := 1) (f := 0) (q := 43) (by rfl) (by decide +kernel) (by rfl) (by decide +kernel) ?_
        refine zq_call hc (z_cx_ok hH (by rfl)) (hw3 _ (TE_rf _) d' (by omega)) (by decide +kernel) (fun r9 μ9 hq => ?_)
        obtain ⟨hμ9, rfl⟩ := hq
        rw [hμ9]
        clear hμ9 μ9
        show Z 0 20 [(2, .int 3), (1, .int 1), (0, .ref 0)] [.long w3] μ
        refine z_rcs hc hH 2 (pc' := 22) (lv' := [(2, .int 3), (1, .int 1), (0, .ref 0)]) (st' := [.int (lg_cmp w3 0)]) (μ' := μ) (by rfl) ?_
        refine zq_if hc hH (by rfl) (tg := 28) (by rfl) (fun h4 => ?_) (fun h4 => ?_)
        · have h4 : (decide ((lg_cmp w3 0) = 0)) = true := decide_eq_true (cm_eq9.mp h4)
          exact absurd (Eq.trans (Eq.symm (hb3)) h4) (by decide)
        · have h4 : (decide ((lg_cmp w3 0) = 0)) = false := decide_eq_false (cn_eq.mp h4)
          refine z_rcs hc hH 8 (pc' := 36) (lv' := [(2, .int 4), (1, .int 2), (0, .ref 0)]) (st' := [.ref 0, .ref 0]) (μ' := μ) (by rfl) ?_
          refine zq_gfi hc hH (by rfl) (ci := 5) (f := 9) (by rfl) (by decide +kernel) (by rfl) ?_
          rw [hdl]
          refine zq_call hc (z_cx_ok hH (by rfl)) (gc_at4 d' (by omega) μ dl hdl4) (by decide +kernel) (fun r9 μ9 hq => ?_)
          obtain ⟨hμ9, rfl⟩ := hq
          rw [hμ9]
          clear hμ9 μ9
          show Z 0 42 [(2, .int 4), (1, .int 2), (0, .ref 0)] [.ref (18 + 8 * dl)] μ
          refine zq_gfr hc hH (by rfl) (ci := 1) (f := 0) (q := 19 + 8 * dl) (by rfl) (sj (P := fun i => okf 79 1 0 (18 + 8 * i)) hdl4 (by decide +kernel)) (by rfl) (sj (P := fun i => Nat.beq (z_gr (18 + 8 * i) 0) (19 + 8 * i)) hdl4 (by decide +kernel)) ?_
          refine zq_call hc (z_clv9 hH (by rfl) (by rfl) (by rfl) (by rfl) (sj (P := fun i => okr 79 2 (19 + 8 * i)) hdl4 (by decide +kernel)) (by rfl) (by rfl)) ((hwd _ (TE_rf _) d' (by omega))) (by decide +kernel) (fun r9 μ9 hq => ?_)
          obtain ⟨hμ9, rfl⟩ := hq
          rw [hμ9]
          clear hμ9 μ9
          show Z 0 48 [(2, .int 4), (1, .int 2), (0, .ref 0)] [.long wd] μ
          refine z_rcs hc hH 2 (pc' := 50) (lv' := [(2, .int 4), (1, .int 2), (0, .ref 0)]) (st' := [.int (lg_cmp wd 0)]) (μ' := μ) (by rfl) ?_
          have hJ5 : Z 0 58 [(2, .int 4), (1, .int 2), (0, .ref 0)] [.int (nB (!(decide ((lg_cmp wd 0) = 0))))] μ := by
            refine z_rcs hc hH 23 (pc' := 95) (lv' := [(5, .int 0), (4, .int 1500), (3, .int 1500), (2, .int (nB (!(decide ((lg_cmp wd 0) = 0))))), (1, .int 2), (0, .ref 0)]) (st' := [.int 0, .ref 0]) (μ' := μ) (by rfl) ?_
            refine zq_call hc (z_cx_ok hH (by rfl)) (gc_at d' (by omega) μ 0 (by decide)) (by decide +kernel) (fun r9 μ9 hq => ?_)
            obtain ⟨hμ9, rfl⟩ := hq
            rw [hμ9]
            clear hμ9 μ9
            show Z 0 98 [(5, .int 0), (4, .int 1500), (3, .int 1500), (2, .int (nB (!(decide ((lg_cmp wd 0) = 0))))), (1, .int 2), (0, .ref 0)] [.ref 18] μ
            refine z_rcs hc hH 1 (pc' := 99) (lv' := [(5, .int 0), (4, .int 1500), (3, .int 1500), (2, .int (nB (!(decide ((lg_cmp wd 0) = 0))))), (1, .int 2), (0, .ref 0)]) (st' := [.ref 18, .ref 18]) (μ' := μ) (by rfl) ?_
            refine zq_gfi hc hH (by rfl) (ci := 1) (f := 4) (by rfl) (by decide +kernel) (by rfl) ?_
            refine z_rcs hc hH 2 (pc' := 105) (lv' := [(5, .int 0), (4, .int 1500), (3, .int 1500), (2, .int (nB (!(decide ((lg_cmp wd 0) = 0))))), (1, .int 2), (0, .ref 0)]) (st' := [.int 0, .ref 0, .int (μ.1 18 4), .ref 18]) (μ' := μ) (by rfl) ?_
            refine zq_call hc (z_cx_ok hH (by rfl)) (gc_at d' (by omega) μ 0 (by decide)) (by decide +kernel) (fun r9 μ9 hq => ?_)
            obtain ⟨hμ9, rfl⟩ := hq
            rw [hμ9]
            clear hμ9 μ9
            show Z 0 108 [(5, .int 0), (4, .int 1500), (3, .int 1500), (2, .int (nB (!(decide ((lg_cmp wd 0) = 0))))), (1, .int 2), (0, .ref 0)] [.ref 18, .int (μ.1 18 4), .ref 18] μ
            refine zq_gfr hc hH (by rfl) (ci := 1) (f := 0) (q := 19) (by rfl) (by decide +kernel) (by rfl) (by decide +kernel) ?_
            refine zq_call hc (z_cx_ok hH (by rfl)) (hw0 _ (TE_rf _) d' (by omega)) (by decide +kernel) (fun r9 μ9 hq => ?_)
            obtain ⟨hμ9, rfl⟩ := hq
            rw [hμ9]
            clear hμ9 μ9
            show Z 0 114 [(5, .int 0), (4, .int 1500), (3, .int 1500), (2, .int (nB (!(decide ((lg_cmp wd 0) = 0))))), (1, .int 2), (0, .ref 0)] [.long w0, .int (μ.1 18 4), .ref 18] μ
            refine z_rcs hc hH 2 (pc' := 116) (lv' := [(5, .int 0), (4, .int 1500), (3, .int 1500), (2, .int (nB (!(decide ((lg_cmp wd 0) = 0))))), (1, .int 2), (0, .ref 0)]) (st' := [.int (lg_cmp w0 0), .int (μ.1 18 4), .ref 18]) (μ' := μ) (by rfl) ?_
            refine zq_if hc hH (by rfl) (tg := 123) (by rfl) (fun h6 => ?_) (fun h6 => ?_)
            · have h6 : (decide ((lg_cmp w0 0) = 0)) = true := decide_eq_true (cm_eq9.mp h6)
              exact absurd (Eq.trans (Eq.symm (hb0)) h6) (by decide)
            · have h6 : (decide ((lg_cmp w0 0) = 0)) = false := decide_eq_false (cn_eq.mp h6)
              refine z_rcs hc hH 3 (pc' := 127) (lv' := [(5, .int 0), (4, .int 1500), (3, .int 1500), (2, .int (nB (!(decide ((lg_cmp wd 0) = 0))))), (1, .int 2), (0, .ref 0)]) (st' := [.int ((μ.1 18 4) + 1500), .ref 18]) (μ' := μ) (by rfl) ?_
              refine zq_pfi hc hH (by rfl) (ci := 1) (f := 4) (by rfl) (by decide +kernel) (by rfl) ?_
              show Z 0 130 [(5, .int 0), (4, .int 1500), (3, .int 1500), (2, .int (nB (!(decide ((lg_cmp wd 0) = 0))))), (1, .int 2), (0, .ref 0)] [] (z_ui μ 18 4 ((μ.1 18 4) + 1500))
              refine z_rcs0 hc hH 7 (pc' := 95) (lv' := [(5, .int 1), (4, .int 1500), (3, .int 1500), (2, .int (nB (!(decide ((lg_cmp wd 0) = 0))))), (1, .int 2), (0, .ref 0)]) (st' := [.int 1, .ref 0]) (by rfl) ?_
              refine zq_call hc (z_cx_ok hH (by rfl)) (gc_at d' (by omega) (z_ui μ 18 4 ((μ.1 18 4) + 1500)) 1 (by decide)) (by decide +kernel) (fun r9 μ9 hq => ?_)
              obtain ⟨hμ9, rfl⟩ := hq
              rw [hμ9]
              clear hμ9 μ9
              show Z 0 98 [(5, .int 1), (4, .int 1500), (3, .int 1500), (2, .int (nB (!(decide ((lg_cmp wd 0) = 0))))), (1, .int 2), (0, .ref 0)] [.ref 26] _
              refine z_rcs0 hc hH 1 (pc' := 99) (lv' := [(5, .int 1), (4, .int 1500), (3, .int 1500), (2, .int (nB (!(decide ((lg_cmp wd 0) = 0))))), (1, .int 2), (0, .ref 0)]) (st' := [.ref 26, .ref 26]) (by rfl) ?_
              refine zq_gfi hc hH (by rfl) (ci := 1) (f := 4) (by rfl) (by decide +kernel) (by rfl) ?_
              refine zV1 (Z := Z) (ui_o (by first | decide | omega)) ?_
              refine z_rcs0 hc hH 2 (pc' := 105) (lv' := [(5, .int 1), (4, .int 1500), (3, .int 1500), (2, .int (nB (!(decide ((lg_cmp wd 0) = 0))))), (1, .int 2), (0, .ref 0)]) (st' := [.int 1, .ref 0, .int (μ.1 26 4), .ref 26]) (by rfl) ?_
              refine zq_call hc (z_cx_ok hH (by rfl)) (gc_at d' (by omega) (z_ui μ 18 4 ((μ.1 18 4) + 1500)) 1 (by decide)) (by decide +kernel) (fun r9 μ9 hq => ?_)
              obtain ⟨hμ9, rfl⟩ := hq
              rw [hμ9]
              clear hμ9 μ9
              show Z 0 108 [(5, .int 1), (4, .int 1500), (3, .int 1500), (2, .int (nB (!(decide ((lg_cmp wd 0) = 0))))), (1, .int 2), (0, .ref 0)] [.ref 26, .int (μ.1 26 4), .ref 26] _
              refine zq_gfr hc hH (by rfl) (ci := 1) (f := 0) (q := 27) (by rfl) (by decide +kernel) (by rfl) (by decide +kernel) ?_
              refine zq_call hc (z_cx_ok hH (by rfl)) (hw1 _ (TE_ui (TE_rf _) (by intro i a hi h1 h2; omega)) d' (by omega)) (by decide +kernel) (fun r9 μ9 hq => ?_)
              obtain ⟨hμ9, rfl⟩ := hq
              rw [hμ9]
              clear hμ9 μ9
              show Z 0 114 [(5, .int 1), (4, .int 1500), (3, .int 1500), (2, .int (nB (!(decide ((lg_cmp wd 0) = 0))))), (1, .int 2), (0, .ref 0)] [.long w1, .int (μ.1 26 4), .ref 26] _
              refine z_rcs0 hc hH 2 (pc' := 116) (lv' := [(5, .int 1), (4, .int 1500), (3, .int 1500), (2, .int (nB (!(decide ((lg_cmp wd 0) = 0))))), (1, .int 2), (0, .ref 0)]) (st' := [.int (lg_cmp w1 0), .int (μ.1 26 4), .ref 26]) (by rfl) ?_
              refine zq_if hc hH (by rfl) (tg := 123) (by rfl) (fun h7 => ?_) (fun h7 => ?_)
              · have h7 : (decide ((lg_cmp w1 0) = 0)) = true := decide_eq_true (cm_eq9.mp h7)
                refine z_rcs0 hc hH 3 (pc' := 127) (lv' := [(5, .int 1), (4, .int 1500), (3, .int 1500), (2, .int (nB (!(decide ((lg_cmp wd 0) = 0))))), (1, .int 2), (0, .ref 0)]) (st' := [.int ((μ.1 26 4) + (-1500)), .ref 26]) (by rfl) ?_
                refine zq_pfi hc hH (by rfl) (ci := 1) (f := 4) (by rfl) (by decide +kernel) (by rfl) ?_
                show Z 0 130 [(5, .int 1), (4, .int 1500), (3, .int 1500), (2, .int (nB (!(decide ((lg_cmp wd 0) = 0))))), (1, .int 2), (0, .ref 0)] [] (z_ui (z_ui μ 18 4 ((μ.1 18 4) + 1500)) 26 4 ((μ.1 26 4) + (-1500)))
                refine z_rcs0 hc hH 7 (pc' := 95) (lv' := [(5, .int 2), (4, .int 1500), (3, .int 1500), (2, .int (nB (!(decide ((lg_cmp wd 0) = 0))))), (1, .int 2), (0, .ref 0)]) (st' := [.int 2, .ref 0]) (by rfl) ?_
                refine zq_call hc (z_cx_ok hH (by rfl)) (gc_at d' (by omega) (z_ui (z_ui μ 18 4 ((μ.1 18 4) + 1500)) 26 4 ((μ.1 26 4) + (-1500))) 2 (by decide)) (by decide +kernel) (fun r9 μ9 hq => ?_)
                obtain ⟨hμ9, rfl⟩ := hq
                rw [hμ9]
                clear hμ9 μ9
                show Z 0 98 [(5, .int 2), (4, .int 1500), (3, .int 1500), (2, .int (nB (!(decide ((lg_cmp wd 0) = 0))))), (1, .int 2), (0, .ref 0)] [.ref 34] _
                refine z_rcs0 hc hH 1 (pc' := 99) (lv' := [(5, .int 2), (4, .int 1500), (3, .int 1500), (2, .int (nB (!(decide ((lg_cmp wd 0) = 0))))), (1, .int 2), (0, .ref 0)]) (st' := [.ref 34, .ref 34]) (by rfl) ?_
                refine zq_gfi hc hH (by rfl) (ci := 1) (f := 4) (by rfl) (by decide +kernel) (by rfl) ?_
                refine zV1 (Z := Z) (Eq.trans (ui_o (by first | decide | omega)) (ui_o (by first | decide | omega))) ?_
                refine z_rcs0 hc hH 2 (pc' := 105) (lv' := [(5, .int 2), (4, .int 1500), (3, .int 1500), (2, .int (nB (!(decide ((lg_cmp wd 0) = 0))))), (1, .int 2), (0, .ref 0)]) (st' := [.int 2, .ref 0, .int (μ.1 34 4), .ref 34]) (by rfl) ?_
                refine zq_call hc (z_cx_ok hH (by rfl)) (gc_at d' (by omega) (z_ui (z_ui μ 18 4 ((μ.1 18 4) + 1500)) 26 4 ((μ.1 26 4) + (-1500))) 2 (by decide)) (by decide +kernel) (fun r9 μ9 hq => ?_)
                obtain ⟨hμ9, rfl⟩ := hq
                rw [hμ9]
                clear hμ9 μ9
                show Z 0 108 [(5, .int 2), (4, .int 1500), (3, .int 1500), (2, .int (nB (!(decide ((lg_cmp wd 0) = 0))))), (1, .int 2), (0, .ref 0)] [.ref 34, .int (μ.1 34 4), .ref 34] _
                refine zq_gfr hc hH (by rfl) (ci := 1) (f := 0) (q := 35) (by rfl) (by decide +kernel) (by rfl) (by decide +kernel) ?_
                refine zq_call hc (z_cx_ok hH (by rfl)) (hw2 _ (TE_ui (TE_ui (TE_rf _) (by intro i a hi h1 h2; omega)) (by intro i a hi h1 h2; omega)) d' (by omega)) (by decide +kernel) (fun r9 μ9 hq => ?_)
                obtain ⟨hμ9, rfl⟩ := hq
                rw [hμ9]
                clear hμ9 μ9
                show Z 0 114 [(5, .int 2), (4, .int 1500), (3, .int 1500), (2, .int (nB (!(decide ((lg_cmp wd 0) = 0))))), (1, .int 2), (0, .ref 0)] [.long w2, .int (μ.1 34 4), .ref 34] _
                refine z_rcs0 hc hH 2 (pc' := 116) (lv' := [(5, .int 2), (4, .int 1500), (3, .int 1500), (2, .int (nB (!(decide ((lg_cmp wd 0) = 0))))), (1, .int 2), (0, .ref 0)]) (st' := [.int (lg_cmp w2 0), .int (μ.1 34 4), .ref 34]) (by rfl) ?_
                refine zq_if hc hH (by rfl) (tg := 123) (by rfl) (fun h8 => ?_) (fun h8 => ?_)
                · have h8 : (decide ((lg_cmp w2 0) = 0)) = true := decide_eq_true (cm_eq9.mp h8)
                  refine z_rcs0 hc hH 3 (pc' := 127) (lv' := [(5, .int 2), (4, .int 1500), (3, .int 1500), (2, .int (nB (!(decide ((lg_cmp wd 0) = 0))))), (1, .int 2), (0, .ref 0)]) (st' := [.int ((μ.1 34 4) + (-1500)), .ref 34]) (by rfl) ?_
                  refine zq_pfi hc hH (by rfl) (ci := 1) (f := 4) (by rfl) (by decide +kernel) (by rfl) ?_
                  show Z 0 130 [(5, .int 2), (4, .int 1500), (3, .int 1500), (2, .int (nB (!(decide ((lg_cmp wd 0) = 0))))), (1, .int 2), (0, .ref 0)] [] (z_ui (z_ui (z_ui μ 18 4 ((μ.1 18 4) + 1500)) 26 4 ((μ.1 26 4) + (-1500))) 34 4 ((μ.1 34 4) + (-1500)))
                  refine z_rcs0 hc hH 7 (pc' := 95) (lv' := [(5, .int 3), (4, .int 1500), (3, .int 1500), (2, .int (nB (!(decide ((lg_cmp wd 0) = 0))))), (1, .int 2), (0, .ref 0)]) (st' := [.int 3, .ref 0]) (by rfl) ?_
                  refine zq_call hc (z_cx_ok hH (by rfl)) (gc_at d' (by omega) (z_ui (z_ui (z_ui μ 18 4 ((μ.1 18 4) + 1500)) 26 4 ((μ.1 26 4) + (-1500))) 34 4 ((μ.1 34 4) + (-1500))) 3 (by decide)) (by decide +kernel) (fun r9 μ9 hq => ?_)
                  obtain ⟨hμ9, rfl⟩ := hq
                  rw [hμ9]
                  clear hμ9 μ9
                  show Z 0 98 [(5, .int 3), (4, .int 1500), (3, .int 1500), (2, .int (nB (!(decide ((lg_cmp wd 0) = 0))))), (1, .int 2), (0, .ref 0)] [.ref 42] _
                  refine z_rcs0 hc hH 1 (pc' := 99) (lv' := [(5, .int 3), (4, .int 1500), (3, .int 1500), (2, .int (nB (!(decide ((lg_cmp wd 0) = 0))))), (1, .int 2), (0, .ref 0)]) (st' := [.ref 42, .ref 42]) (by rfl) ?_
                  refine zq_gfi hc hH (by rfl) (ci := 1) (f := 4) (by rfl) (by decide +kernel) (by rfl) ?_
                  refine zV1 (Z := Z) (Eq.trans (ui_o (by first | decide | omega)) (Eq.trans (ui_o (by first | decide | omega)) (ui_o (by first | decide | omega)))) ?_
                  refine z_rcs0 hc hH 2 (pc' := 105) (lv' := [(5, .int 3), (4, .int 1500), (3, .int 1500), (2, .int (nB (!(decide ((lg_cmp wd 0) = 0))))), (1, .int 2), (0, .ref 0)]) (st' := [.int 3, .ref 0, .int (μ.1 42 4), .ref 42]) (by rfl) ?_
                  refine zq_call hc (z_cx_ok hH (by rfl)) (gc_at d' (by omega) (z_ui (z_ui (z_ui μ 18 4 ((μ.1 18 4) + 1500)) 26 4 ((μ.1 26 4) + (-1500))) 34 4 ((μ.1 34 4) + (-1500))) 3 (by decide)) (by decide +kernel) (fun r9 μ9 hq => ?_)
                  obtain ⟨hμ9, rfl⟩ := hq
                  rw [hμ9]
                  clear hμ9 μ9
                  show Z 0 108 [(5, .int 3), (4, .int 1500), (3, .int 1500), (2, .int (nB (!(decide ((lg_cmp wd 0) = 0))))), (1, .int 2), (0, .ref 0)] [.ref 42, .int (μ.1 42 4), .ref 42] _
                  refine zq_gfr hc hH (by rfl) (ci := 1) (f := 0) (q := 43) (by rfl) (by decide +kernel) (by rfl) (by decide +kernel) ?_
                  refine zq_call hc (z_cx_ok hH (by rfl)) (hw3 _ (TE_ui (TE_ui (TE_ui (TE_rf _) (by intro i a hi h1 h2; omega)) (by intro i a hi h1 h2; omega)) (by intro i a hi h1 h2; omega)) d' (by omega)) (by decide +kernel) (fun r9 μ9 hq => ?_)
                  obtain ⟨hμ9, rfl⟩ := hq
                  rw [hμ9]
                  clear hμ9 μ9
                  show Z 0 114 [(5, .int 3), (4, .int 1500), (3, .int 1500), (2, .int (nB (!(decide ((lg_cmp wd 0) = 0))))), (1, .int 2), (0, .ref 0)] [.long w3, .int (μ.1 42 4), .ref 42] _
                  refine z_rcs0 hc hH 2 (pc' := 116) (lv' := [(5, .int 3), (4, .int 1500), (3, .int 1500), (2, .int (nB (!(decide ((lg_cmp wd 0) = 0))))), (1, .int 2), (0, .ref 0)]) (st' := [.int (lg_cmp w3 0), .int (μ.1 42 4), .ref 42]) (by rfl) ?_
                  refine zq_if hc hH (by rfl) (tg := 123) (by rfl) (fun h9 => ?_) (fun h9 => ?_)
                  · have h9 : (decide ((lg_cmp w3 0) = 0)) = true := decide_eq_true (cm_eq9.mp h9)
                    exact absurd (Eq.trans (Eq.symm (hb3)) h9) (by decide)
                  · have h9 : (decide ((lg_cmp w3 0) = 0)) = false := decide_eq_false (cn_eq.mp h9)
                    refine z_rcs0 hc hH 3 (pc' := 127) (lv' := [(5, .int 3), (4, .int 1500), (3, .int 1500), (2, .int (nB (!(decide ((lg_cmp wd 0) = 0))))), (1, .int 2), (0, .ref 0)]) (st' := [.int ((μ.1 42 4) + 1500), .ref 42]) (by rfl) ?_
                    refine zq_pfi hc hH (by rfl) (ci := 1) (f := 4) (by rfl) (by decide +kernel) (by rfl) ?_
                    show Z 0 130 [(5, .int 3), (4, .int 1500), (3, .int 1500), (2, .int (nB (!(decide ((lg_cmp wd 0) = 0))))), (1, .int 2), (0, .ref 0)] [] (z_ui (z_ui (z_ui (z_ui μ 18 4 ((μ.1 18 4) + 1500)) 26 4 ((μ.1 26 4) + (-1500))) 34 4 ((μ.1 34 4) + (-1500))) 42 4 ((μ.1 42 4) + 1500))
                    refine z_rcs0 hc hH 8 (pc' := 139) (lv' := [(5, .int 4), (4, .int 1500), (3, .int 1500), (2, .int (nB (!(decide ((lg_cmp wd 0) = 0))))), (1, .int 2), (0, .ref 0)]) (st' := [.int 0, .int (nB (!(decide ((lg_cmp wd 0) = 0)))), .ref 0]) (by rfl) ?_
                    refine zq_call hc (z_cx_ok hH (by rfl)) (gc_endHandB d' (by omega) (z_ui (z_ui (z_ui (z_ui μ 18 4 ((μ.1 18 4) + 1500)) 26 4 ((μ.1 26 4) + (-1500))) 34 4 ((μ.1 34 4) + (-1500))) 42 4 ((μ.1 42 4) + 1500)) (!(decide ((lg_cmp wd 0) = 0))) false dl e (by rw [ui_o (by first | decide | omega), ui_o (by first | decide | omega), ui_o (by first | decide | omega), ui_o (by first | decide | omega)]; exact hdl) hdl4 he) (by decide +kernel) (fun r9 μ9 hq => ?_)
                    obtain ⟨rfl, rfl⟩ := hq
                    show Z 0 142 [(5, .int 4), (4, .int 1500), (3, .int 1500), (2, .int (nB (!(decide ((lg_cmp wd 0) = 0))))), (1, .int 2), (0, .ref 0)] [] (eHB (z_ui (z_ui (z_ui (z_ui μ 18 4 ((μ.1 18 4) + 1500)) 26 4 ((μ.1 26 4) + (-1500))) 34 4 ((μ.1 34 4) + (-1500))) 42 4 ((μ.1 42 4) + 1500)) (!(decide ((lg_cmp wd 0) = 0))) false (xBk (z_ui (z_ui (z_ui (z_ui μ 18 4 ((μ.1 18 4) + 1500)) 26 4 ((μ.1 26 4) + (-1500))) 34 4 ((μ.1 34 4) + (-1500))) 42 4 ((μ.1 42 4) + 1500))) dl e (rcM (z_ui (z_ui (z_ui (z_ui μ 18 4 ((μ.1 18 4) + 1500)) 26 4 ((μ.1 26 4) + (-1500))) 34 4 ((μ.1 34 4) + (-1500))) 42 4 ((μ.1 42 4) + 1500))))
                    exact hr 0 142 _ _ _ none (by decide +kernel) (by rfl) (⟨rfl, rfl⟩)
                · have h8 : (decide ((lg_cmp w2 0) = 0)) = false := decide_eq_false (cn_eq.mp h8)
                  exact absurd (Eq.trans (Eq.symm (hb2)) h8) (by decide)
              · have h7 : (decide ((lg_cmp w1 0) = 0)) = false := decide_eq_false (cn_eq.mp h7)
                exact absurd (Eq.trans (Eq.symm (hb1)) h7) (by decide)
          refine zq_if hc hH (by rfl) (tg := 57) (by rfl) (fun h10 => ?_) (fun h10 => ?_)
          · have h10 : (decide ((lg_cmp wd 0) = 0)) = true := decide_eq_true (cm_eq9.mp h10)
            refine z_rcs hc hH 1 (pc' := 58) (lv' := [(2, .int 4), (1, .int 2), (0, .ref 0)]) (st' := [.int 0]) (μ' := μ) (by rfl) ?_
            exact zJ hJ5 rfl (by first | with_reducible rfl | (simp only [h10, lb_f, Int64.or_zero, Int32.add_zero, nB_t, nB_f, Bool.not_true, Bool.not_false, Bool.and_true, Bool.true_and, Bool.false_and, Bool.and_false, Bool.or_true, Bool.true_or, Bool.false_or, Bool.or_false, cond_true, cond_false]; done) | rfl) rfl
          · have h10 : (decide ((lg_cmp wd 0) = 0)) = false := decide_eq_false (cn_eq.mp h10)
            refine z_rcs hc hH 2 (pc' := 58) (lv' := [(2, .int 4), (1, .int 2), (0, .ref 0)]) (st' := [.int 1]) (μ' := μ) (by rfl) ?_
            exact zJ hJ5 rfl (by first | with_reducible rfl | (simp only [h10, lb_f, Int64.or_zero, Int32.add_zero, nB_t, nB_f, Bool.not_true, Bool.not_false, Bool.and_true, Bool.true_and, Bool.false_and, Bool.and_false, Bool.or_true, Bool.true_or, Bool.false_or, Bool.or_false, cond_true, cond_false]; done) | rfl) rfl
      · have h3 : (decide ((lg_cmp w2 0) = 0)) = false := decide_eq_false (cn_eq.mp h3)
        exact absurd (Eq.trans (Eq.symm (hb2)) h3) (by decide)
    · have h2 : (decide ((lg_cmp w1 0) = 0)) = false := decide_eq_false (cn_eq.mp h2)
      exact absurd (Eq.trans (Eq.symm (hb1)) h2) (by decide)
theorem gc_endUnwon1010 (d : Nat) (hd : 8 ≤ d) (μ : zM) (dl e : Nat) (hdl : μ.1 0 9 = nI dl) (hdl4 : dl < 4) (he : (dl + 1) % 4 = e) (w0 : Int64) (hw0 : ∀ μ1, TE μ μ1 → ∀ d, 7 ≤ d → z_C d mi_X3_waiting [.ref 19] μ1 (zR μ1 (.long w0))) (w1 : Int64) (hw1 : ∀ μ1, TE μ μ1 → ∀ d, 7 ≤ d → z_C d mi_X3_waiting [.ref 27] μ1 (zR μ1 (.long w1))) (w2 : Int64) (hw2 : ∀ μ1, TE μ μ1 → ∀ d, 7 ≤ d → z_C d mi_X3_waiting [.ref 35] μ1 (zR μ1 (.long w2))) (w3 : Int64) (hw3 : ∀ μ1, TE μ μ1 → ∀ d, 7 ≤ d → z_C d mi_X3_waiting [.ref 43] μ1 (zR μ1 (.long w3))) (wd : Int64) (hwd : ∀ μ1, TE μ μ1 → ∀ d, 7 ≤ d → z_C d mi_X3_waiting [.ref (19 + 8 * dl)] μ1 (zR μ1 (.long wd))) (hb0 : decide (lg_cmp w0 0 = 0) = false) (hb1 : decide (lg_cmp w1 0 = 0) = true) (hb2 : decide (lg_cmp w2 0 = 0) = false) (hb3 : decide (lg_cmp w3 0 = 0) = true) : z_C d mi_X6_endUnwon [.ref 0] μ (fun r μ' => r = none ∧ μ' = eHB (z_ui (z_ui (z_ui (z_ui μ 18 4 ((μ.1 18 4) + 1500)) 26 4 ((μ.1 26 4) + (-1500))) 34 4 ((μ.1 34 4) + 1500)) 42 4 ((μ.1 42 4) + (-1500))) (!(decide ((lg_cmp wd 0) = 0))) false (xBk (z_ui (z_ui (z_ui (z_ui μ 18 4 ((μ.1 18 4) + 1500)) 26 4 ((μ.1 26 4) + (-1500))) 34 4 ((μ.1 34 4) + 1500)) 42 4 ((μ.1 42 4) + (-1500)))) dl e (rcM (z_ui (z_ui (z_ui (z_ui μ 18 4 ((μ.1 18 4) + 1500)) 26 4 ((μ.1 26 4) + (-1500))) 34 4 ((μ.1 34 4) + 1500)) 42 4 ((μ.1 42 4) + (-1500))))) := by
  refine z_C_in (by decide) (by omega) (fun d' Z ed hc hr => ?_)
  have hH : zH mi_X6_endUnwon zt_X6_endUnwon 79 6 6 := hh_X6_endUnwon
  refine z_rcs hc hH 9 (pc' := 11) (lv' := [(2, .int 0), (1, .int 0), (0, .ref 0)]) (st' := [.int 0, .ref 0]) (μ' := μ) (by rfl) ?_
  refine zq_call hc (z_cx_ok hH (by rfl)) (gc_at d' (by omega) μ 0 (by decide)) (by decide +kernel) (fun r9 μ9 hq => ?_)
  obtain ⟨hμ9, rfl⟩ := hq
  rw [hμ9]
  clear hμ9 μ9
  show Z 0 14 [(2, .int 0), (1, .int 0), (0, .ref 0)] [.ref 18] μ
  refine zq_gfr hc hH (by rfl) (ci := 1) (f := 0) (q := 19) (by rfl) (by decide +kernel) (by rfl) (by decide +kernel) ?_
  refine zq_call hc (z_cx_ok hH (by rfl)) (hw0 _ (TE_rf _) d' (by omega)) (by decide +kernel) (fun r9 μ9 hq => ?_)
  obtain ⟨hμ9, rfl⟩ := hq
  rw [hμ9]
  clear hμ9 μ9
  show Z 0 20 [(2, .int 0), (1, .int 0), (0, .ref 0)] [.long w0] μ
  refine z_rcs hc hH 2 (pc' := 22) (lv' := [(2, .int 0), (1, .int 0), (0, .ref 0)]) (st' := [.int (lg_cmp w0 0)]) (μ' := μ) (by rfl) ?_
  refine zq_if hc hH (by rfl) (tg := 28) (by rfl) (fun h1 => ?_) (fun h1 => ?_)
  · have h1 : (decide ((lg_cmp w0 0) = 0)) = true := decide_eq_true (cm_eq9.mp h1)
    exact absurd (Eq.trans (Eq.symm (hb0)) h1) (by decide)
  · have h1 : (decide ((lg_cmp w0 0) = 0)) = false := decide_eq_false (cn_eq.mp h1)
    refine z_rcs hc hH 8 (pc' := 11) (lv' := [(2, .int 1), (1, .int 1), (0, .ref 0)]) (st' := [.int 1, .ref 0]) (μ' := μ) (by rfl) ?_
    refine zq_call hc (z_cx_ok hH (by rfl)) (gc_at d' (by omega) μ 1 (by decide)) (by decide +kernel) (fun r9 μ9 hq => ?_)
    obtain ⟨hμ9, rfl⟩ := hq
    rw [hμ9]
    clear hμ9 μ9
    show Z 0 14 [(2, .int 1), (1, .int 1), (0, .ref 0)] [.ref 26] μ
    refine zq_gfr hc hH (by rfl) (ci := 1) (f := 0) (q := 27) (by rfl) (by decide +kernel) (by rfl) (by decide +kernel) ?_
    refine zq_call hc (z_cx_ok hH (by rfl)) (hw1 _ (TE_rf _) d' (by omega)) (by decide +kernel) (fun r9 μ9 hq => ?_)
    obtain ⟨hμ9, rfl⟩ := hq
    rw [hμ9]
    clear hμ9 μ9
    show Z 0 20 [(2, .int 1), (1, .int 1), (0, .ref 0)] [.long w1] μ
    refine z_rcs hc hH 2 (pc' := 22) (lv' := [(2, .int 1), (1, .int 1), (0, .ref 0)]) (st' := [.int (lg_cmp w1 0)]) (μ' := μ) (by rfl) ?_
    refine zq_if hc hH (by rfl) (tg := 28) (by rfl) (fun h2 => ?_) (fun h2 => ?_)
    · have h2 : (decide ((lg_cmp w1 0) = 0)) = true := decide_eq_true (cm_eq9.mp h2)
      refine z_rcs hc hH 7 (pc' := 11) (lv' := [(2, .int 2), (1, .int 1), (0, .ref 0)]) (st' := [.int 2, .ref 0]) (μ' := μ) (by rfl) ?_
      refine zq_call hc (z_cx_ok hH (by rfl)) (gc_at d' (by omega) μ 2 (by decide)) (by decide +kernel) (fun r9 μ9 hq => ?_)
      obtain ⟨hμ9, rfl⟩ := hq
      rw [hμ9]
      clear hμ9 μ9
      show Z 0 14 [(2, .int 2), (1, .int 1), (0, .ref 0)] [.ref 34] μ
      refine zq_gfr hc hH (by rfl) (ci := 1) (f := 0) (q := 35) (by rfl) (by decide +kernel) (by rfl) (by decide +kernel) ?_
      refine zq_call hc (z_cx_ok hH (by rfl)) (hw2 _ (TE_rf _) d' (by omega)) (by decide +kernel) (fun r9 μ9 hq => ?_)
      obtain ⟨hμ9, rfl⟩ := hq
      rw [hμ9]
      clear hμ9 μ9
      show Z 0 20 [(2, .int 2), (1, .int 1), (0, .ref 0)] [.long w2] μ
      refine z_rcs hc hH 2 (pc' := 22) (lv' := [(2, .int 2), (1, .int 1), (0, .ref 0)]) (st' := [.int (lg_cmp w2 0)]) (μ' := μ) (by rfl) ?_
      refine zq_if hc hH (by rfl) (tg := 28) (by rfl) (fun h3 => ?_) (fun h3 => ?_)
      · have h3 : (decide ((lg_cmp w2 0) = 0)) = true := decide_eq_true (cm_eq9.mp h3)
        exact absurd (Eq.trans (Eq.symm (hb2)) h3) (by decide)
      · have h3 : (decide ((lg_cmp w2 0) = 0)) = false := decide_eq_false (cn_eq.mp h3)
        refine z_rcs hc hH 8 (pc' := 11) (lv' := [(2, .int 3), (1, .int 2), (0, .ref 0)]) (st' := [.int 3, .ref 0]) (μ' := μ) (by rfl) ?_
        refine zq_call hc (z_cx_ok hH (by rfl)) (gc_at d' (by omega) μ 3 (by decide)) (by decide +kernel) (fun r9 μ9 hq => ?_)
        obtain ⟨hμ9, rfl⟩ := hq
        rw [hμ9]
        clear hμ9 μ9
        show Z 0 14 [(2, .int 3), (1, .int 2), (0, .ref 0)] [.ref 42] μ
        refine zq_gfr hc hH (by rfl) (ci := 1) (f := 0) (q := 43) (by rfl) (by decide +kernel) (by rfl) (by decide +kernel) ?_
        refine zq_call hc (z_cx_ok hH (by rfl)) (hw3 _ (TE_rf _) d' (by omega)) (by decide +kernel) (fun r9 μ9 hq => ?_)
        obtain ⟨hμ9, rfl⟩ := hq
        rw [hμ9]
        clear hμ9 μ9
        show Z 0 20 [(2, .int 3), (1, .int 2), (0, .ref 0)] [.long w3] μ
        refine z_rcs hc hH 2 (pc' := 22) (lv' := [(2, .int 3), (1, .int 2), (0, .ref 0)]) (st' := [.int (lg_cmp w3 0)]) (μ' := μ) (by rfl) ?_
        refine zq_if hc hH (by rfl) (tg := 28) (by rfl) (fun h4 => ?_) (fun h4 => ?_)
        · have h4 : (decide ((lg_cmp w3 0) = 0)) = true := decide_eq_true (cm_eq9.mp h4)
          refine z_rcs hc hH 7 (pc' := 36) (lv' := [(2, .int 4), (1, .int 2), (0, .ref 0)]) (st' := [.ref 0, .ref 0]) (μ' := μ) (by rfl) ?_
          refine zq_gfi hc hH (by rfl) (ci := 5) (f := 9) (by rfl) (by decide +kernel) (by rfl) ?_
          rw [hdl]
          refine zq_call hc (z_cx_ok hH (by rfl)) (gc_at4 d' (by omega) μ dl hdl4) (by decide +kernel) (fun r9 μ9 hq => ?_)
          obtain ⟨hμ9, rfl⟩ := hq
          rw [hμ9]
          clear hμ9 μ9
          show Z 0 42 [(2, .int 4), (1, .int 2), (0, .ref 0)] [.ref (18 + 8 * dl)] μ
          refine zq_gfr hc hH (by rfl) (ci := 1) (f := 0) (q := 19 + 8 * dl) (by rfl) (sj (P := fun i => okf 79 1 0 (18 + 8 * i)) hdl4 (by decide +kernel)) (by rfl) (sj (P := fun i => Nat.beq (z_gr (18 + 8 * i) 0) (19 + 8 * i)) hdl4 (by decide +kernel)) ?_
          refine zq_call hc (z_clv9 hH (by rfl) (by rfl) (by rfl) (by rfl) (sj (P := fun i => okr 79 2 (19 + 8 * i)) hdl4 (by decide +kernel)) (by rfl) (by rfl)) ((hwd _ (TE_rf _) d' (by omega))) (by decide +kernel) (fun r9 μ9 hq => ?_)
          obtain ⟨hμ9, rfl⟩ := hq
          rw [hμ9]
          clear hμ9 μ9
          show Z 0 48 [(2, .int 4), (1, .int 2), (0, .ref 0)] [.long wd] μ
          refine z_rcs hc hH 2 (pc' := 50) (lv' := [(2, .int 4), (1, .int 2), (0, .ref 0)]) (st' := [.int (lg_cmp wd 0)]) (μ' := μ) (by rfl) ?_
          have hJ5 : Z 0 58 [(2, .int 4), (1, .int 2), (0, .ref 0)] [.int (nB (!(decide ((lg_cmp wd 0) = 0))))] μ := by
            refine z_rcs hc hH 23 (pc' := 95) (lv' := [(5, .int 0), (4, .int 1500), (3, .int 1500), (2, .int (nB (!(decide ((lg_cmp wd 0) = 0))))), (1, .int 2), (0, .ref 0)]) (st' := [.int 0, .ref 0]) (μ' := μ) (by rfl) ?_
            refine zq_call hc (z_cx_ok hH (by rfl)) (gc_at d' (by omega) μ 0 (by decide)) (by decide +kernel) (fun r9 μ9 hq => ?_)
            obtain ⟨hμ9, rfl⟩ := hq
            rw [hμ9]
            clear hμ9 μ9
            show Z 0 98 [(5, .int 0), (4, .int 1500), (3, .int 1500), (2, .int (nB (!(decide ((lg_cmp wd 0) = 0))))), (1, .int 2), (0, .ref 0)] [.ref 18] μ
            refine z_rcs hc hH 1 (pc' := 99) (lv' := [(5, .int 0), (4, .int 1500), (3, .int 1500), (2, .int (nB (!(decide ((lg_cmp wd 0) = 0))))), (1, .int 2), (0, .ref 0)]) (st' := [.ref 18, .ref 18]) (μ' := μ) (by rfl) ?_
            refine zq_gfi hc hH (by rfl) (ci := 1) (f := 4) (by rfl) (by decide +kernel) (by rfl) ?_
            refine z_rcs hc hH 2 (pc' := 105) (lv' := [(5, .int 0), (4, .int 1500), (3, .int 1500), (2, .int (nB (!(decide ((lg_cmp wd 0) = 0))))), (1, .int 2), (0, .ref 0)]) (st' := [.int 0, .ref 0, .int (μ.1 18 4), .ref 18]) (μ' := μ) (by rfl) ?_
            refine zq_call hc (z_cx_ok hH (by rfl)) (gc_at d' (by omega) μ 0 (by decide)) (by decide +kernel) (fun r9 μ9 hq => ?_)
            obtain ⟨hμ9, rfl⟩ := hq
            rw [hμ9]
            clear hμ9 μ9
            show Z 0 108 [(5, .int 0), (4, .int 1500), (3, .int 1500), (2, .int (nB (!(decide ((lg_cmp wd 0) = 0))))), (1, .int 2), (0, .ref 0)] [.ref 18, .int (μ.1 18 4), .ref 18] μ
            refine zq_gfr hc hH (by rfl) (ci := 1) (f := 0) (q := 19) (by rfl) (by decide +kernel) (by rfl) (by decide +kernel) ?_
            refine zq_call hc (z_cx_ok hH (by rfl)) (hw0 _ (TE_rf _) d' (by omega)) (by decide +kernel) (fun r9 μ9 hq => ?_)
            obtain ⟨hμ9, rfl⟩ := hq
            rw [hμ9]
            clear hμ9 μ9
            show Z 0 114 [(5, .int 0), (4, .int 1500), (3, .int 1500), (2, .int (nB (!(decide ((lg_cmp wd 0) = 0))))), (1, .int 2), (0, .ref 0)] [.long w0, .int (μ.1 18 4), .ref 18] μ
            refine z_rcs hc hH 2 (pc' := 116) (lv' := [(5, .int 0), (4, .int 1500), (3, .int 1500), (2, .int (nB (!(decide ((lg_cmp wd 0) = 0))))), (1, .int 2), (0, .ref 0)]) (st' := [.int (lg_cmp w0 0), .int (μ.1 18 4), .ref 18]) (μ' := μ) (by rfl) ?_
            refine zq_if hc hH (by rfl) (tg := 123) (by rfl) (fun h6 => ?_) (fun h6 => ?_)
            · have h6 : (decide ((lg_cmp w0 0) = 0)) = true := decide_eq_true (cm_eq9.mp h6)
              exact absurd (Eq.trans (Eq.symm (hb0)) h6) (by decide)
            · have h6 : (decide ((lg_cmp w0 0) = 0)) = false := decide_eq_false (cn_eq.mp h6)
              refine z_rcs hc hH 3 (pc' := 127) (lv' := [(5, .int 0), (4, .int 1500), (3, .int 1500), (2, .int (nB (!(decide ((lg_cmp wd 0) = 0))))), (1, .int 2), (0, .ref 0)]) (st' := [.int ((μ.1 18 4) + 1500), .ref 18]) (μ' := μ) (by rfl) ?_
              refine zq_pfi hc hH (by rfl) (ci := 1) (f := 4) (by rfl) (by decide +kernel) (by rfl) ?_
              show Z 0 130 [(5, .int 0), (4, .int 1500), (3, .int 1500), (2, .int (nB (!(decide ((lg_cmp wd 0) = 0))))), (1, .int 2), (0, .ref 0)] [] (z_ui μ 18 4 ((μ.1 18 4) + 1500))
              refine z_rcs0 hc hH 7 (pc' := 95) (lv' := [(5, .int 1), (4, .int 1500), (3, .int 1500), (2, .int (nB (!(decide ((lg_cmp wd 0) = 0))))), (1, .int 2), (0, .ref 0)]) (st' := [.int 1, .ref 0]) (by rfl) ?_
              refine zq_call hc (z_cx_ok hH (by rfl)) (gc_at d' (by omega) (z_ui μ 18 4 ((μ.1 18 4) + 1500)) 1 (by decide)) (by decide +kernel) (fun r9 μ9 hq => ?_)
              obtain ⟨hμ9, rfl⟩ := hq
              rw [hμ9]
              clear hμ9 μ9
              show Z 0 98 [(5, .int 1), (4, .int 1500), (3, .int 1500), (2, .int (nB (!(decide ((lg_cmp wd 0) = 0))))), (1, .int 2), (0, .ref 0)] [.ref 26] _
              refine z_rcs0 hc hH 1 (pc' := 99) (lv' := [(5, .int 1), (4, .int 1500), (3, .int 1500), (2, .int (nB (!(decide ((lg_cmp wd 0) = 0))))), (1, .int 2), (0, .ref 0)]) (st' := [.ref 26, .ref 26]) (by rfl) ?_
              refine zq_gfi hc hH (by rfl) (ci := 1) (f := 4) (by rfl) (by decide +kernel) (by rfl) ?_
              refine zV1 (Z := Z) (ui_o (by first | decide | omega)) ?_
              refine z_rcs0 hc hH 2 (pc' := 105) (lv' := [(5, .int 1), (4, .int 1500), (3, .int 1500), (2, .int (nB (!(decide ((lg_cmp wd 0) = 0))))), (1, .int 2), (0, .ref 0)]) (st' := [.int 1, .ref 0, .int (μ.1 26 4), .ref 26]) (by rfl) ?_
              refine zq_call hc (z_cx_ok hH (by rfl)) (gc_at d' (by omega) (z_ui μ 18 4 ((μ.1 18 4) + 1500)) 1 (by decide)) (by decide +kernel) (fun r9 μ9 hq => ?_)
              obtain ⟨hμ9, rfl⟩ := hq
              rw [hμ9]
              clear hμ9 μ9
              show Z 0 108 [(5, .int 1), (4, .int 1500), (3, .int 1500), (2, .int (nB (!(decide ((lg_cmp wd 0) = 0))))), (1, .int 2), (0, .ref 0)] [.ref 26, .int (μ.1 26 4), .ref 26] _
              refine zq_gfr hc hH (by rfl) (ci := 1) (f := 0) (q := 27) (by rfl) (by decide +kernel) (by rfl) (by decide +kernel) ?_
              refine zq_call hc (z_cx_ok hH (by rfl)) (hw1 _ (TE_ui (TE_rf _) (by intro i a hi h1 h2; omega)) d' (by omega)) (by decide +kernel) (fun r9 μ9 hq => ?_)
              obtain ⟨hμ9, rfl⟩ := hq
              rw [hμ9]
              clear hμ9 μ9
              show Z 0 114 [(5, .int 1), (4, .int 1500), (3, .int 1500), (2, .int (nB (!(decide ((lg_cmp wd 0) = 0))))), (1, .int 2), (0, .ref 0)] [.long w1, .int (μ.1 26 4), .ref 26] _
              refine z_rcs0 hc hH 2 (pc' := 116) (lv' := [(5, .int 1), (4, .int 1500), (3, .int 1500), (2, .int (nB (!(decide ((lg_cmp wd 0) = 0))))), (1, .int 2), (0, .ref 0)]) (st' := [.int (lg_cmp w1 0), .int (μ.1 26 4), .ref 26]) (by rfl) ?_
              refine zq_if hc hH (by rfl) (tg := 123) (by rfl) (fun h7 => ?_) (fun h7 => ?_)
              · have h7 : (decide ((lg_cmp w1 0) = 0)) = true := decide_eq_true (cm_eq9.mp h7)
                refine z_rcs0 hc hH 3 (pc' := 127) (lv' := [(5, .int 1), (4, .int 1500), (3, .int 1500), (2, .int (nB (!(decide ((lg_cmp wd 0) = 0))))), (1, .int 2), (0, .ref 0)]) (st' := [.int ((μ.1 26 4) + (-1500)), .ref 26]) (by rfl) ?_
                refine zq_pfi hc hH (by rfl) (ci := 1) (f := 4) (by rfl) (by decide +kernel) (by rfl) ?_
                show Z 0 130 [(5, .int 1), (4, .int 1500), (3, .int 1500), (2, .int (nB (!(decide ((lg_cmp wd 0) = 0))))), (1, .int 2), (0, .ref 0)] [] (z_ui (z_ui μ 18 4 ((μ.1 18 4) + 1500)) 26 4 ((μ.1 26 4) + (-1500)))
                refine z_rcs0 hc hH 7 (pc' := 95) (lv' := [(5, .int 2), (4, .int 1500), (3, .int 1500), (2, .int (nB (!(decide ((lg_cmp wd 0) = 0))))), (1, .int 2), (0, .ref 0)]) (st' := [.int 2, .ref 0]) (by rfl) ?_
                refine zq_call hc (z_cx_ok hH (by rfl)) (gc_at d' (by omega) (z_ui (z_ui μ 18 4 ((μ.1 18 4) + 1500)) 26 4 ((μ.1 26 4) + (-1500))) 2 (by decide)) (by decide +kernel) (fun r9 μ9 hq => ?_)
                obtain ⟨hμ9, rfl⟩ := hq
                rw [hμ9]
                clear hμ9 μ9
                show Z 0 98 [(5, .int 2), (4, .int 1500), (3, .int 1500), (2, .int (nB (!(decide ((lg_cmp wd 0) = 0))))), (1, .int 2), (0, .ref 0)] [.ref 34] _
                refine z_rcs0 hc hH 1 (pc' := 99) (lv' := [(5, .int 2), (4, .int 1500), (3, .int 1500), (2, .int (nB (!(decide ((lg_cmp wd 0) = 0))))), (1, .int 2), (0, .ref 0)]) (st' := [.ref 34, .ref 34]) (by rfl) ?_
                refine zq_gfi hc hH (by rfl) (ci := 1) (f := 4) (by rfl) (by decide +kernel) (by rfl) ?_
                refine zV1 (Z := Z) (Eq.trans (ui_o (by first | decide | omega)) (ui_o (by first | decide | omega))) ?_
                refine z_rcs0 hc hH 2 (pc' := 105) (lv' := [(5, .int 2), (4, .int 1500), (3, .int 1500), (2, .int (nB (!(decide ((lg_cmp wd 0) = 0))))), (1, .int 2), (0, .ref 0)]) (st' := [.int 2, .ref 0, .int (μ.1 34 4), .ref 34]) (by rfl) ?_
                refine zq_call hc (z_cx_ok hH (by rfl)) (gc_at d' (by omega) (z_ui (z_ui μ 18 4 ((μ.1 18 4) + 1500)) 26 4 ((μ.1 26 4) + (-1500))) 2 (by decide)) (by decide +kernel) (fun r9 μ9 hq => ?_)
                obtain ⟨hμ9, rfl⟩ := hq
                rw [hμ9]
                clear hμ9 μ9
                show Z 0 108 [(5, .int 2), (4, .int 1500), (3, .int 1500), (2, .int (nB (!(decide ((lg_cmp wd 0) = 0))))), (1, .int 2), (0, .ref 0)] [.ref 34, .int (μ.1 34 4), .ref 34] _
                refine zq_gfr hc hH (by rfl) (ci := 1) (f := 0) (q := 35) (by rfl) (by decide +kernel) (by rfl) (by decide +kernel) ?_
                refine zq_call hc (z_cx_ok hH (by rfl)) (hw2 _ (TE_ui (TE_ui (TE_rf _) (by intro i a hi h1 h2; omega)) (by intro i a hi h1 h2; omega)) d' (by omega)) (by decide +kernel) (fun r9 μ9 hq => ?_)
                obtain ⟨hμ9, rfl⟩ := hq
                rw [hμ9]
                clear hμ9 μ9
                show Z 0 114 [(5, .int 2), (4, .int 1500), (3, .int 1500), (2, .int (nB (!(decide ((lg_cmp wd 0) = 0))))), (1, .int 2), (0, .ref 0)] [.long w2, .int (μ.1 34 4), .ref 34] _
                refine z_rcs0 hc hH 2 (pc' := 116) (lv' := [(5, .int 2), (4, .int 1500), (3, .int 1500), (2, .int (nB (!(decide ((lg_cmp wd 0) = 0))))), (1, .int 2), (0, .ref 0)]) (st' := [.int (lg_cmp w2 0), .int (μ.1 34 4), .ref 34]) (by rfl) ?_
                refine zq_if hc hH (by rfl) (tg := 123) (by rfl) (fun h8 => ?_) (fun h8 => ?_)
                · have h8 : (decide ((lg_cmp w2 0) = 0)) = true := decide_eq_true (cm_eq9.mp h8)
                  exact absurd (Eq.trans (Eq.symm (hb2)) h8) (by decide)
                · have h8 : (decide ((lg_cmp w2 0) = 0)) = false := decide_eq_false (cn_eq.mp h8)
                  refine z_rcs0 hc hH 3 (pc' := 127) (lv' := [(5, .int 2), (4, .int 1500), (3, .int 1500), (2, .int (nB (!(decide ((lg_cmp wd 0) = 0))))), (1, .int 2), (0, .ref 0)]) (st' := [.int ((μ.1 34 4) + 1500), .ref 34]) (by rfl) ?_
                  refine zq_pfi hc hH (by rfl) (ci := 1) (f := 4) (by rfl) (by decide +kernel) (by rfl) ?_
                  show Z 0 130 [(5, .int 2), (4, .int 1500), (3, .int 1500), (2, .int (nB (!(decide ((lg_cmp wd 0) = 0))))), (1, .int 2), (0, .ref 0)] [] (z_ui (z_ui (z_ui μ 18 4 ((μ.1 18 4) + 1500)) 26 4 ((μ.1 26 4) + (-1500))) 34 4 ((μ.1 34 4) + 1500))
                  refine z_rcs0 hc hH 7 (pc' := 95) (lv' := [(5, .int 3), (4, .int 1500), (3, .int 1500), (2, .int (nB (!(decide ((lg_cmp wd 0) = 0))))), (1, .int 2), (0, .ref 0)]) (st' := [.int 3, .ref 0]) (by rfl) ?_
                  refine zq_call hc (z_cx_ok hH (by rfl)) (gc_at d' (by omega) (z_ui (z_ui (z_ui μ 18 4 ((μ.1 18 4) + 1500)) 26 4 ((μ.1 26 4) + (-1500))) 34 4 ((μ.1 34 4) + 1500)) 3 (by decide)) (by decide +kernel) (fun r9 μ9 hq => ?_)
                  obtain ⟨hμ9, rfl⟩ := hq
                  rw [hμ9]
                  clear hμ9 μ9
                  show Z 0 98 [(5, .int 3), (4, .int 1500), (3, .int 1500), (2, .int (nB (!(decide ((lg_cmp wd 0) = 0))))), (1, .int 2), (0, .ref 0)] [.ref 42] _
                  refine z_rcs0 hc hH 1 (pc' := 99) (lv' := [(5, .int 3), (4, .int 1500), (3, .int 1500), (2, .int (nB (!(decide ((lg_cmp wd 0) = 0))))), (1, .int 2), (0, .ref 0)]) (st' := [.ref 42, .ref 42]) (by rfl) ?_
                  refine zq_gfi hc hH (by rfl) (ci := 1) (f := 4) (by rfl) (by decide +kernel) (by rfl) ?_
                  refine zV1 (Z := Z) (Eq.trans (ui_o (by first | decide | omega)) (Eq.trans (ui_o (by first | decide | omega)) (ui_o (by first | decide | omega)))) ?_
                  refine z_rcs0 hc hH 2 (pc' := 105) (lv' := [(5, .int 3), (4, .int 1500), (3, .int 1500), (2, .int (nB (!(decide ((lg_cmp wd 0) = 0))))), (1, .int 2), (0, .ref 0)]) (st' := [.int 3, .ref 0, .int (μ.1 42 4), .ref 42]) (by rfl) ?_
                  refine zq_call hc (z_cx_ok hH (by rfl)) (gc_at d' (by omega) (z_ui (z_ui (z_ui μ 18 4 ((μ.1 18 4) + 1500)) 26 4 ((μ.1 26 4) + (-1500))) 34 4 ((μ.1 34 4) + 1500)) 3 (by decide)) (by decide +kernel) (fun r9 μ9 hq => ?_)
                  obtain ⟨hμ9, rfl⟩ := hq
                  rw [hμ9]
                  clear hμ9 μ9
                  show Z 0 108 [(5, .int 3), (4, .int 1500), (3, .int 1500), (2, .int (nB (!(decide ((lg_cmp wd 0) = 0))))), (1, .int 2), (0, .ref 0)] [.ref 42, .int (μ.1 42 4), .ref 42] _
                  refine zq_gfr hc hH (by rfl) (ci := 1) (f := 0) (q := 43) (by rfl) (by decide +kernel) (by rfl) (by decide +kernel) ?_
                  refine zq_call hc (z_cx_ok hH (by rfl)) (hw3 _ (TE_ui (TE_ui (TE_ui (TE_rf _) (by intro i a hi h1 h2; omega)) (by intro i a hi h1 h2; omega)) (by intro i a hi h1 h2; omega)) d' (by omega)) (by decide +kernel) (fun r9 μ9 hq => ?_)
                  obtain ⟨hμ9, rfl⟩ := hq
                  rw [hμ9]
                  clear hμ9 μ9
                  show Z 0 114 [(5, .int 3), (4, .int 1500), (3, .int 1500), (2, .int (nB (!(decide ((lg_cmp wd 0) = 0))))), (1, .int 2), (0, .ref 0)] [.long w3, .int (μ.1 42 4), .ref 42] _
                  refine z_rcs0 hc hH 2 (pc' := 116) (lv' := [(5, .int 3), (4, .int 1500), (3, .int 1500), (2, .int (nB (!(decide ((lg_cmp wd 0) = 0))))), (1, .int 2), (0, .ref 0)]) (st' := [.int (lg_cmp w3 0), .int (μ.1 42 4), .ref 42]) (by rfl) ?_
                  refine zq_if hc hH (by rfl) (tg := 123) (by rfl) (fun h9 => ?_) (fun h9 => ?_)
                  · have h9 : (decide ((lg_cmp w3 0) = 0)) = true := decide_eq_true (cm_eq9.mp h9)
                    refine z_rcs0 hc hH 3 (pc' := 127) (lv' := [(5, .int 3), (4, .int 1500), (3, .int 1500), (2, .int (nB (!(decide ((lg_cmp wd 0) = 0))))), (1, .int 2), (0, .ref 0)]) (st' := [.int ((μ.1 42 4) + (-1500)), .ref 42]) (by rfl) ?_
                    refine zq_pfi hc hH (by rfl) (ci := 1) (f := 4) (by rfl) (by decide +kernel) (by rfl) ?_
                    show Z 0 130 [(5, .int 3), (4, .int 1500), (3, .int 1500), (2, .int (nB (!(decide ((lg_cmp wd 0) = 0))))), (1, .int 2), (0, .ref 0)] [] (z_ui (z_ui (z_ui (z_ui μ 18 4 ((μ.1 18 4) + 1500)) 26 4 ((μ.1 26 4) + (-1500))) 34 4 ((μ.1 34 4) + 1500)) 42 4 ((μ.1 42 4) + (-1500)))
                    refine z_rcs0 hc hH 8 (pc' := 139) (lv' := [(5, .int 4), (4, .int 1500), (3, .int 1500), (2, .int (nB (!(decide ((lg_cmp wd 0) = 0))))), (1, .int 2), (0, .ref 0)]) (st' := [.int 0, .int (nB (!(decide ((lg_cmp wd 0) = 0)))), .ref 0]) (by rfl) ?_
                    refine zq_call hc (z_cx_ok hH (by rfl)) (gc_endHandB d' (by omega) (z_ui (z_ui (z_ui (z_ui μ 18 4 ((μ.1 18 4) + 1500)) 26 4 ((μ.1 26 4) + (-1500))) 34 4 ((μ.1 34 4) + 1500)) 42 4 ((μ.1 42 4) + (-1500))) (!(decide ((lg_cmp wd 0) = 0))) false dl e (by rw [ui_o (by first | decide | omega), ui_o (by first | decide | omega), ui_o (by first | decide | omega), ui_o (by first | decide | omega)]; exact hdl) hdl4 he) (by decide +kernel) (fun r9 μ9 hq => ?_)
                    obtain ⟨rfl, rfl⟩ := hq
                    show Z 0 142 [(5, .int 4), (4, .int 1500), (3, .int 1500), (2, .int (nB (!(decide ((lg_cmp wd 0) = 0))))), (1, .int 2), (0, .ref 0)] [] (eHB (z_ui (z_ui (z_ui (z_ui μ 18 4 ((μ.1 18 4) + 1500)) 26 4 ((μ.1 26 4) + (-1500))) 34 4 ((μ.1 34 4) + 1500)) 42 4 ((μ.1 42 4) + (-1500))) (!(decide ((lg_cmp wd 0) = 0))) false (xBk (z_ui (z_ui (z_ui (z_ui μ 18 4 ((μ.1 18 4) + 1500)) 26 4 ((μ.1 26 4) + (-1500))) 34 4 ((μ.1 34 4) + 1500)) 42 4 ((μ.1 42 4) + (-1500)))) dl e (rcM (z_ui (z_ui (z_ui (z_ui μ 18 4 ((μ.1 18 4) + 1500)) 26 4 ((μ.1 26 4) + (-1500))) 34 4 ((μ.1 34 4) + 1500)) 42 4 ((μ.1 42 4) + (-1500)))))
                    exact hr 0 142 _ _ _ none (by decide +kernel) (by rfl) (⟨rfl, rfl⟩)
                  · have h9 : (decide ((lg_cmp w3 0) = 0)) = false := decide_eq_false (cn_eq.mp h9)
                    exact absurd (Eq.trans (Eq.symm (hb3)) h9) (by decide)
              · have h7 : (decide ((lg_cmp w1 0) = 0)) = false := decide_eq_false (cn_eq.mp h7)
                exact absurd (Eq.trans (Eq.symm (hb1)) h7) (by decide)
          refine zq_if hc hH (by rfl) (tg := 57) (by rfl) (fun h10 => ?_) (fun h10 => ?_)
          · have h10 : (decide ((lg_cmp wd 0) = 0)) = true := decide_eq_true (cm_eq9.mp h10)
            refine z_rcs hc hH 1 (pc' := 58) (lv' := [(2, .int 4), (1, .int 2), (0, .ref 0)]) (st' := [.int 0]) (μ' := μ) (by rfl) ?_
            exact zJ hJ5 rfl (by first | with_reducible rfl | (simp only [h10, lb_f, Int64.or_zero, Int32.add_zero, nB_t, nB_f, Bool.not_true, Bool.not_false, Bool.and_true, Bool.true_and, Bool.false_and, Bool.and_false, Bool.or_true, Bool.true_or, Bool.false_or, Bool.or_false, cond_true, cond_false]; done) | rfl) rfl
          · have h10 : (decide ((lg_cmp wd 0) = 0)) = false := decide_eq_false (cn_eq.mp h10)
            refine z_rcs hc hH 2 (pc' := 58) (lv' := [(2, .int 4), (1, .int 2), (0, .ref 0)]) (st' := [.int 1]) (μ' := μ) (by rfl) ?_
            exact zJ hJ5 rfl (by first | with_reducible rfl | (simp only [h10, lb_f, Int64.or_zero, Int32.add_zero, nB_t, nB_f, Bool.not_true, Bool.not_false, Bool.and_true, Bool.true_and, Bool.false_and, Bool.and_false, Bool.or_true, Bool.true_or, Bool.false_or, Bool.or_false, cond_true, cond_false]; done) | rfl) rfl
        · have h4 : (decide ((lg_cmp w3 0) = 0)) = false := decide_eq_false (cn_eq.mp h4)
          exact absurd (Eq.trans (Eq.symm (hb3)) h4) (by decide)
    · have h2 : (decide ((lg_cmp w1 0) = 0)) = false := decide_eq_false (cn_eq.mp h2)
      exact absurd (Eq.trans (Eq.symm (hb1)) h2) (by decide)
theorem gc_endUnwon1011 (d : Nat) (hd : 8 ≤ d) (μ : zM) (dl e : Nat) (hdl : μ.1 0 9 = nI dl) (hdl4 : dl < 4) (he : (dl + 1) % 4 = e) (w0 : Int64) (hw0 : ∀ μ1, TE μ μ1 → ∀ d, 7 ≤ d → z_C d mi_X3_waiting [.ref 19] μ1 (zR μ1 (.long w0))) (w1 : Int64) (hw1 : ∀ μ1, TE μ μ1 → ∀ d, 7 ≤ d → z_C d mi_X3_waiting [.ref 27] μ1 (zR μ1 (.long w1))) (w2 : Int64) (hw2 : ∀ μ1, TE μ μ1 → ∀ d, 7 ≤ d → z_C d mi_X3_waiting [.ref 35] μ1 (zR μ1 (.long w2))) (w3 : Int64) (hw3 : ∀ μ1, TE μ μ1 → ∀ d, 7 ≤ d → z_C d mi_X3_waiting [.ref 43] μ1 (zR μ1 (.long w3))) (wd : Int64) (hwd : ∀ μ1, TE μ μ1 → ∀ d, 7 ≤ d → z_C d mi_X3_waiting [.ref (19 + 8 * dl)] μ1 (zR μ1 (.long wd))) (hb0 : decide (lg_cmp w0 0 = 0) = false) (hb1 : decide (lg_cmp w1 0 = 0) = true) (hb2 : decide (lg_cmp w2 0 = 0) = false) (hb3 : decide (lg_cmp w3 0 = 0) = false) : z_C d mi_X6_endUnwon [.ref 0] μ (fun r μ' => r = none ∧ μ' = eHB (z_ui (z_ui (z_ui (z_ui μ 18 4 ((μ.1 18 4) + 1000)) 26 4 ((μ.1 26 4) + (-3000))) 34 4 ((μ.1 34 4) + 1000)) 42 4 ((μ.1 42 4) + 1000)) (!(decide ((lg_cmp wd 0) = 0))) false (xBk (z_ui (z_ui (z_ui (z_ui μ 18 4 ((μ.1 18 4) + 1000)) 26 4 ((μ.1 26 4) + (-3000))) 34 4 ((μ.1 34 4) + 1000)) 42 4 ((μ.1 42 4) + 1000))) dl e (rcM (z_ui (z_ui (z_ui (z_ui μ 18 4 ((μ.1 18 4) + 1000)) 26 4 ((μ.1 26 4) + (-3000))) 34 4 ((μ.1 34 4) + 1000)) 42 4 ((μ.1 42 4) + 1000)))) := by
  refine z_C_in (by decide) (by omega) (fun d' Z ed hc hr => ?_)
  have hH : zH mi_X6_endUnwon zt_X6_endUnwon 79 6 6 := hh_X6_endUnwon
  refine z_rcs hc hH 9 (pc' := 11) (lv' := [(2, .int 0), (1, .int 0), (0, .ref 0)]) (st' := [.int 0, .ref 0]) (μ' := μ) (by rfl) ?_
  refine zq_call hc (z_cx_ok hH (by rfl)) (gc_at d' (by omega) μ 0 (by decide)) (by decide +kernel) (fun r9 μ9 hq => ?_)
  obtain ⟨hμ9, rfl⟩ := hq
  rw [hμ9]
  clear hμ9 μ9
  show Z 0 14 [(2, .int 0), (1, .int 0), (0, .ref 0)] [.ref 18] μ
  refine zq_gfr hc hH (by rfl) (ci := 1) (f := 0) (q := 19) (by rfl) (by decide +kernel) (by rfl) (by decide +kernel) ?_
  refine zq_call hc (z_cx_ok hH (by rfl)) (hw0 _ (TE_rf _) d' (by omega)) (by decide +kernel) (fun r9 μ9 hq => ?_)
  obtain ⟨hμ9, rfl⟩ := hq
  rw [hμ9]
  clear hμ9 μ9
  show Z 0 20 [(2, .int 0), (1, .int 0), (0, .ref 0)] [.long w0] μ
  refine z_rcs hc hH 2 (pc' := 22) (lv' := [(2, .int 0), (1, .int 0), (0, .ref 0)]) (st' := [.int (lg_cmp w0 0)]) (μ' := μ) (by rfl) ?_
  refine zq_if hc hH (by rfl) (tg := 28) (by rfl) (fun h1 => ?_) (fun h1 => ?_)
  · have h1 : (decide ((lg_cmp w0 0) = 0)) = true := decide_eq_true (cm_eq9.mp h1)
    exact absurd (Eq.trans (Eq.symm (hb0)) h1) (by decide)
  · have h1 : (decide ((lg_cmp w0 0) = 0)) = false := decide_eq_false (cn_eq.mp h1)
    refine z_rcs hc hH 8 (pc' := 11) (lv' := [(2, .int 1), (1, .int 1), (0, .ref 0)]) (st' := [.int 1, .ref 0]) (μ' := μ) (by rfl) ?_
    refine zq_call hc (z_cx_ok hH (by rfl)) (gc_at d' (by omega) μ 1 (by decide)) (by decide +kernel) (fun r9 μ9 hq => ?_)
    obtain ⟨hμ9, rfl⟩ := hq
    rw [hμ9]
    clear hμ9 μ9
    show Z 0 14 [(2, .int 1), (1, .int 1), (0, .ref 0)] [.ref 26] μ
    refine zq_gfr hc hH (by rfl) (ci := 1) (f := 0) (q := 27) (by rfl) (by decide +kernel) (by rfl) (by decide +kernel) ?_
    refine zq_call hc (z_cx_ok hH (by rfl)) (hw1 _ (TE_rf _) d' (by omega)) (by decide +kernel) (fun r9 μ9 hq => ?_)
    obtain ⟨hμ9, rfl⟩ := hq
    rw [hμ9]
    clear hμ9 μ9
    show Z 0 20 [(2, .int 1), (1, .int 1), (0, .ref 0)] [.long w1] μ
    refine z_rcs hc hH 2 (pc' := 22) (lv' := [(2, .int 1), (1, .int 1), (0, .ref 0)]) (st' := [.int (lg_cmp w1 0)]) (μ' := μ) (by rfl) ?_
    refine zq_if hc hH (by rfl) (tg := 28) (by rfl) (fun h2 => ?_) (fun h2 => ?_)
    · have h2 : (decide ((lg_cmp w1 0) = 0)) = true := decide_eq_true (cm_eq9.mp h2)
      refine z_rcs hc hH 7 (pc' := 11) (lv' := [(2, .int 2), (1, .int 1), (0, .ref 0)]) (st' := [.int 2, .ref 0]) (μ' := μ) (by rfl) ?_
      refine zq_call hc (z_cx_ok hH (by rfl)) (gc_at d' (by omega) μ 2 (by decide)) (by decide +kernel) (fun r9 μ9 hq => ?_)
      obtain ⟨hμ9, rfl⟩ := hq
      rw [hμ9]
      clear hμ9 μ9
      show Z 0 14 [(2, .int 2), (1, .int 1), (0, .ref 0)] [.ref 34] μ
      refine zq_gfr hc hH (by rfl) (ci := 1) (f := 0) (q := 35) (by rfl) (by decide +kernel) (by rfl) (by decide +kernel) ?_
      refine zq_call hc (z_cx_ok hH (by rfl)) (hw2 _ (TE_rf _) d' (by omega)) (by decide +kernel) (fun r9 μ9 hq => ?_)
      obtain ⟨hμ9, rfl⟩ := hq
      rw [hμ9]
      clear hμ9 μ9
      show Z 0 20 [(2, .int 2), (1, .int 1), (0, .ref 0)] [.long w2] μ
      refine z_rcs hc hH 2 (pc' := 22) (lv' := [(2, .int 2), (1, .int 1), (0, .ref 0)]) (st' := [.int (lg_cmp w2 0)]) (μ' := μ) (by rfl) ?_
      refine zq_if hc hH (by rfl) (tg := 28) (by rfl) (fun h3 => ?_) (fun h3 => ?_)
      · have h3 : (decide ((lg_cmp w2 0) = 0)) = true := decide_eq_true (cm_eq9.mp h3)
        exact absurd (Eq.trans (Eq.symm (hb2)) h3) (by decide)
      · have h3 : (decide ((lg_cmp w2 0) = 0)) = false := decide_eq_false (cn_eq.mp h3)
        refine z_rcs hc hH 8 (pc' := 11) (lv' := [(2, .int 3), (1, .int 2), (0, .ref 0)]) (st' := [.int 3, .ref 0]) (μ' := μ) (by rfl) ?_
        refine zq_call hc (z_cx_ok hH (by rfl)) (gc_at d' (by omega) μ 3 (by decide)) (by decide +kernel) (fun r9 μ9 hq => ?_)
        obtain ⟨hμ9, rfl⟩ := hq
        rw [hμ9]
        clear hμ9 μ9
        show Z 0 14 [(2, .int 3), (1, .int 2), (0, .ref 0)] [.ref 42] μ
        refine zq_gfr hc hH (by rfl) (ci := 1) (f := 0) (q := 43) (by rfl) (by decide +kernel) (by rfl) (by decide +kernel) ?_
        refine zq_call hc (z_cx_ok hH (by rfl)) (hw3 _ (TE_rf _) d' (by omega)) (by decide +kernel) (fun r9 μ9 hq => ?_)
        obtain ⟨hμ9, rfl⟩ := hq
        rw [hμ9]
        clear hμ9 μ9
        show Z 0 20 [(2, .int 3), (1, .int 2), (0, .ref 0)] [.long w3] μ
        refine z_rcs hc hH 2 (pc' := 22) (lv' := [(2, .int 3), (1, .int 2), (0, .ref 0)]) (st' := [.int (lg_cmp w3 0)]) (μ' := μ) (by rfl) ?_
        refine zq_if hc hH (by rfl) (tg := 28) (by rfl) (fun h4 => ?_) (fun h4 => ?_)
        · have h4 : (decide ((lg_cmp w3 0) = 0)) = true := decide_eq_true (cm_eq9.mp h4)
          exact absurd (Eq.trans (Eq.symm (hb3)) h4) (by decide)
        · have h4 : (decide ((lg_cmp w3 0) = 0)) = false := decide_eq_false (cn_eq.mp h4)
          refine z_rcs hc hH 8 (pc' := 36) (lv' := [(2, .int 4), (1, .int 3), (0, .ref 0)]) (st' := [.ref 0, .ref 0]) (μ' := μ) (by rfl) ?_
          refine zq_gfi hc hH (by rfl) (ci := 5) (f := 9) (by rfl) (by decide +kernel) (by rfl) ?_
          rw [hdl]
          refine zq_call hc (z_cx_ok hH (by rfl)) (gc_at4 d' (by omega) μ dl hdl4) (by decide +kernel) (fun r9 μ9 hq => ?_)
          obtain ⟨hμ9, rfl⟩ := hq
          rw [hμ9]
          clear hμ9 μ9
          show Z 0 42 [(2, .int 4), (1, .int 3), (0, .ref 0)] [.ref (18 + 8 * dl)] μ
          refine zq_gfr hc hH (by rfl) (ci := 1) (f := 0) (q := 19 + 8 * dl) (by rfl) (sj (P := fun i => okf 79 1 0 (18 + 8 * i)) hdl4 (by decide +kernel)) (by rfl) (sj (P := fun i => Nat.beq (z_gr (18 + 8 * i) 0) (19 + 8 * i)) hdl4 (by decide +kernel)) ?_
          refine zq_call hc (z_clv9 hH (by rfl) (by rfl) (by rfl) (by rfl) (sj (P := fun i => okr 79 2 (19 + 8 * i)) hdl4 (by decide +kernel)) (by rfl) (by rfl)) ((hwd _ (TE_rf _) d' (by omega))) (by decide +kernel) (fun r9 μ9 hq => ?_)
          obtain ⟨hμ9, rfl⟩ := hq
          rw [hμ9]
          clear hμ9 μ9
          show Z 0 48 [(2, .int 4), (1, .int 3), (0, .ref 0)] [.long wd] μ
          refine z_rcs hc hH 2 (pc' := 50) (lv' := [(2, .int 4), (1, .int 3), (0, .ref 0)]) (st' := [.int (lg_cmp wd 0)]) (μ' := μ) (by rfl) ?_
          have hJ5 : Z 0 58 [(2, .int 4), (1, .int 3), (0, .ref 0)] [.int (nB (!(decide ((lg_cmp wd 0) = 0))))] μ := by
            refine z_rcs hc hH 23 (pc' := 95) (lv' := [(5, .int 0), (4, .int 3000), (3, .int 1000), (2, .int (nB (!(decide ((lg_cmp wd 0) = 0))))), (1, .int 3), (0, .ref 0)]) (st' := [.int 0, .ref 0]) (μ' := μ) (by rfl) ?_
            refine zq_call hc (z_cx_ok hH (by rfl)) (gc_at d' (by omega) μ 0 (by decide)) (by decide +kernel) (fun r9 μ9 hq => ?_)
            obtain ⟨hμ9, rfl⟩ := hq
            rw [hμ9]
            clear hμ9 μ9
            show Z 0 98 [(5, .int 0), (4, .int 3000), (3, .int 1000), (2, .int (nB (!(decide ((lg_cmp wd 0) = 0))))), (1, .int 3), (0, .ref 0)] [.ref 18] μ
            refine z_rcs hc hH 1 (pc' := 99) (lv' := [(5, .int 0), (4, .int 3000), (3, .int 1000), (2, .int (nB (!(decide ((lg_cmp wd 0) = 0))))), (1, .int 3), (0, .ref 0)]) (st' := [.ref 18, .ref 18]) (μ' := μ) (by rfl) ?_
            refine zq_gfi hc hH (by rfl) (ci := 1) (f := 4) (by rfl) (by decide +kernel) (by rfl) ?_
            refine z_rcs hc hH 2 (pc' := 105) (lv' := [(5, .int 0), (4, .int 3000), (3, .int 1000), (2, .int (nB (!(decide ((lg_cmp wd 0) = 0))))), (1, .int 3), (0, .ref 0)]) (st' := [.int 0, .ref 0, .int (μ.1 18 4), .ref 18]) (μ' := μ) (by rfl) ?_
            refine zq_call hc (z_cx_ok hH (by rfl)) (gc_at d' (by omega) μ 0 (by decide)) (by decide +kernel) (fun r9 μ9 hq => ?_)
            obtain ⟨hμ9, rfl⟩ := hq
            rw [hμ9]
            clear hμ9 μ9
            show Z 0 108 [(5, .int 0), (4, .int 3000), (3, .int 1000), (2, .int (nB (!(decide ((lg_cmp wd 0) = 0))))), (1, .int 3), (0, .ref 0)] [.ref 18, .int (μ.1 18 4), .ref 18] μ
            refine zq_gfr hc hH (by rfl) (ci := 1) (f := 0) (q := 19) (by rfl) (by decide +kernel) (by rfl) (by decide +kernel) ?_
            refine zq_call hc (z_cx_ok hH (by rfl)) (hw0 _ (TE_rf _) d' (by omega)) (by decide +kernel) (fun r9 μ9 hq => ?_)
            obtain ⟨hμ9, rfl⟩ := hq
            rw [hμ9]
            clear hμ9 μ9
            show Z 0 114 [(5, .int 0), (4, .int 3000), (3, .int 1000), (2, .int (nB (!(decide ((lg_cmp wd 0) = 0))))), (1, .int 3), (0, .ref 0)] [.long w0, .int (μ.1 18 4), .ref 18] μ
            refine z_rcs hc hH 2 (pc' := 116) (lv' := [(5, .int 0), (4, .int 3000), (3, .int 1000), (2, .int (nB (!(decide ((lg_cmp wd 0) = 0))))), (1, .int 3), (0, .ref 0)]) (st' := [.int (lg_cmp w0 0), .int (μ.1 18 4), .ref 18]) (μ' := μ) (by rfl) ?_
            refine zq_if hc hH (by rfl) (tg := 123) (by rfl) (fun h6 => ?_) (fun h6 => ?_)
            · have h6 : (decide ((lg_cmp w0 0) = 0)) = true := decide_eq_true (cm_eq9.mp h6)
              exact absurd (Eq.trans (Eq.symm (hb0)) h6) (by decide)
            · have h6 : (decide ((lg_cmp w0 0) = 0)) = false := decide_eq_false (cn_eq.mp h6)
              refine z_rcs hc hH 3 (pc' := 127) (lv' := [(5, .int 0), (4, .int 3000), (3, .int 1000), (2, .int (nB (!(decide ((lg_cmp wd 0) = 0))))), (1, .int 3), (0, .ref 0)]) (st' := [.int ((μ.1 18 4) + 1000), .ref 18]) (μ' := μ) (by rfl) ?_
              refine zq_pfi hc hH (by rfl) (ci := 1) (f := 4) (by rfl) (by decide +kernel) (by rfl) ?_
              show Z 0 130 [(5, .int 0), (4, .int 3000), (3, .int 1000), (2, .int (nB (!(decide ((lg_cmp wd 0) = 0))))), (1, .int 3), (0, .ref 0)] [] (z_ui μ 18 4 ((μ.1 18 4) + 1000))
              refine z_rcs0 hc hH 7 (pc' := 95) (lv' := [(5, .int 1), (4, .int 3000), (3, .int 1000), (2, .int (nB (!(decide ((lg_cmp wd 0) = 0))))), (1, .int 3), (0, .ref 0)]) (st' := [.int 1, .ref 0]) (by rfl) ?_
              refine zq_call hc (z_cx_ok hH (by rfl)) (gc_at d' (by omega) (z_ui μ 18 4 ((μ.1 18 4) + 1000)) 1 (by decide)) (by decide +kernel) (fun r9 μ9 hq => ?_)
              obtain ⟨hμ9, rfl⟩ := hq
              rw [hμ9]
              clear hμ9 μ9
              show Z 0 98 [(5, .int 1), (4, .int 3000), (3, .int 1000), (2, .int (nB (!(decide ((lg_cmp wd 0) = 0))))), (1, .int 3), (0, .ref 0)] [.ref 26] _
              refine z_rcs0 hc hH 1 (pc' := 99) (lv' := [(5, .int 1), (4, .int 3000), (3, .int 1000), (2, .int (nB (!(decide ((lg_cmp wd 0) = 0))))), (1, .int 3), (0, .ref 0)]) (st' := [.ref 26, .ref 26]) (by rfl) ?_
              refine zq_gfi hc hH (by rfl) (ci := 1) (f := 4) (by rfl) (by decide +kernel) (by rfl) ?_
              refine zV1 (Z := Z) (ui_o (by first | decide | omega)) ?_
              refine z_rcs0 hc hH 2 (pc' := 105) (lv' := [(5, .int 1), (4, .int 3000), (3, .int 1000), (2, .int (nB (!(decide ((lg_cmp wd 0) = 0))))), (1, .int 3), (0, .ref 0)]) (st' := [.int 1, .ref 0, .int (μ.1 26 4), .ref 26]) (by rfl) ?_
              refine zq_call hc (z_cx_ok hH (by rfl)) (gc_at d' (by omega) (z_ui μ 18 4 ((μ.1 18 4) + 1000)) 1 (by decide)) (by decide +kernel) (fun r9 μ9 hq => ?_)
              obtain ⟨hμ9, rfl⟩ := hq
              rw [hμ9]
              clear hμ9 μ9
              show Z 0 108 [(5, .int 1), (4, .int 3000), (3, .int 1000), (2, .int (nB (!(decide ((lg_cmp wd 0) = 0))))), (1, .int 3), (0, .ref 0)] [.ref 26, .int (μ.1 26 4), .ref 26] _
              refine zq_gfr hc hH (by rfl) (ci := 1) (f := 0) (q := 27) (by rfl) (by decide +kernel) (by rfl) (by decide +kernel) ?_
              refine zq_call hc (z_cx_ok hH (by rfl)) (hw1 _ (TE_ui (TE_rf _) (by intro i a hi h1 h2; omega)) d' (by omega)) (by decide +kernel) (fun r9 μ9 hq => ?_)
              obtain ⟨hμ9, rfl⟩ := hq
              rw [hμ9]
              clear hμ9 μ9
              show Z 0 114 [(5, .int 1), (4, .int 3000), (3, .int 1000), (2, .int (nB (!(decide ((lg_cmp wd 0) = 0))))), (1, .int 3), (0, .ref 0)] [.long w1, .int (μ.1 26 4), .ref 26] _
              refine z_rcs0 hc hH 2 (pc' := 116) (lv' := [(5, .int 1), (4, .int 3000), (3, .int 1000), (2, .int (nB (!(decide ((lg_cmp wd 0) = 0))))), (1, .int 3), (0, .ref 0)]) (st' := [.int (lg_cmp w1 0), .int (μ.1 26 4), .ref 26]) (by rfl) ?_
              refine zq_if hc hH (by rfl) (tg := 123) (by rfl) (fun h7 => ?_) (fun h7 => ?_)
              · have h7 : (decide ((lg_cmp w1 0) = 0)) = true := decide_eq_true (cm_eq9.mp h7)
                refine z_rcs0 hc hH 3 (pc' := 127) (lv' := [(5, .int 1), (4, .int 3000), (3, .int 1000), (2, .int (nB (!(decide ((lg_cmp wd 0) = 0))))), (1, .int 3), (0, .ref 0)]) (st' := [.int ((μ.1 26 4) + (-3000)), .ref 26]) (by rfl) ?_
                refine zq_pfi hc hH (by rfl) (ci := 1) (f := 4) (by rfl) (by decide +kernel) (by rfl) ?_
                show Z 0 130 [(5, .int 1), (4, .int 3000), (3, .int 1000), (2, .int (nB (!(decide ((lg_cmp wd 0) = 0))))), (1, .int 3), (0, .ref 0)] [] (z_ui (z_ui μ 18 4 ((μ.1 18 4) + 1000)) 26 4 ((μ.1 26 4) + (-3000)))
                refine z_rcs0 hc hH 7 (pc' := 95) (lv' := [(5, .int 2), (4, .int 3000), (3, .int 1000), (2, .int (nB (!(decide ((lg_cmp wd 0) = 0))))), (1, .int 3), (0, .ref 0)]) (st' := [.int 2, .ref 0]) (by rfl) ?_
                refine zq_call hc (z_cx_ok hH (by rfl)) (gc_at d' (by omega) (z_ui (z_ui μ 18 4 ((μ.1 18 4) + 1000)) 26 4 ((μ.1 26 4) + (-3000))) 2 (by decide)) (by decide +kernel) (fun r9 μ9 hq => ?_)
                obtain ⟨hμ9, rfl⟩ := hq
                rw [hμ9]
                clear hμ9 μ9
                show Z 0 98 [(5, .int 2), (4, .int 3000), (3, .int 1000), (2, .int (nB (!(decide ((lg_cmp wd 0) = 0))))), (1, .int 3), (0, .ref 0)] [.ref 34] _
                refine z_rcs0 hc hH 1 (pc' := 99) (lv' := [(5, .int 2), (4, .int 3000), (3, .int 1000), (2, .int (nB (!(decide ((lg_cmp wd 0) = 0))))), (1, .int 3), (0, .ref 0)]) (st' := [.ref 34, .ref 34]) (by rfl) ?_
                refine zq_gfi hc hH (by rfl) (ci := 1) (f := 4) (by rfl) (by decide +kernel) (by rfl) ?_
                refine zV1 (Z := Z) (Eq.trans (ui_o (by first | decide | omega)) (ui_o (by first | decide | omega))) ?_
                refine z_rcs0 hc hH 2 (pc' := 105) (lv' := [(5, .int 2), (4, .int 3000), (3, .int 1000), (2, .int (nB (!(decide ((lg_cmp wd 0) = 0))))), (1, .int 3), (0, .ref 0)]) (st' := [.int 2, .ref 0, .int (μ.1 34 4), .ref 34]) (by rfl) ?_
                refine zq_call hc (z_cx_ok hH (by rfl)) (gc_at d' (by omega) (z_ui (z_ui μ 18 4 ((μ.1 18 4) + 1000)) 26 4 ((μ.1 26 4) + (-3000))) 2 (by decide)) (by decide +kernel) (fun r9 μ9 hq => ?_)
                obtain ⟨hμ9, rfl⟩ := hq
                rw [hμ9]
                clear hμ9 μ9
                show Z 0 108 [(5, .int 2), (4, .int 3000), (3, .int 1000), (2, .int (nB (!(decide ((lg_cmp wd 0) = 0))))), (1, .int 3), (0, .ref 0)] [.ref 34, .int (μ.1 34 4), .ref 34] _
                refine zq_gfr hc hH (by rfl) (ci := 1) (f := 0) (q := 35) (by rfl) (by decide +kernel) (by rfl) (by decide +kernel) ?_
                refine zq_call hc (z_cx_ok hH (by rfl)) (hw2 _ (TE_ui (TE_ui (TE_rf _) (by intro i a hi h1 h2; omega)) (by intro i a hi h1 h2; omega)) d' (by omega)) (by decide +kernel) (fun r9 μ9 hq => ?_)
                obtain ⟨hμ9, rfl⟩ := hq
                rw [hμ9]
                clear hμ9 μ9
                show Z 0 114 [(5, .int 2), (4, .int 3000), (3, .int 1000), (2, .int (nB (!(decide ((lg_cmp wd 0) = 0))))), (1, .int 3), (0, .ref 0)] [.long w2, .int (μ.1 34 4), .ref 34] _
                refine z_rcs0 hc hH 2 (pc' := 116) (lv' := [(5, .int 2), (4, .int 3000), (3, .int 1000), (2, .int (nB (!(decide ((lg_cmp wd 0) = 0))))), (1, .int 3), (0, .ref 0)]) (st' := [.int (lg_cmp w2 0), .int (μ.1 34 4), .ref 34]) (by rfl) ?_
                refine zq_if hc hH (by rfl) (tg := 123) (by rfl) (fun h8 => ?_) (fun h8 => ?_)
                · have h8 : (decide ((lg_cmp w2 0) = 0)) = true := decide_eq_true (cm_eq9.mp h8)
                  exact absurd (Eq.trans (Eq.symm (hb2)) h8) (by decide)
                · have h8 : (decide ((lg_cmp w2 0) = 0)) = false := decide_eq_false (cn_eq.mp h8)
                  refine z_rcs0 hc hH 3 (pc' := 127) (lv' := [(5, .int 2), (4, .int 3000), (3, .int 1000), (2, .int (nB (!(decide ((lg_cmp wd 0) = 0))))), (1, .int 3), (0, .ref 0)]) (st' := [.int ((μ.1 34 4) + 1000), .ref 34]) (by rfl) ?_
                  refine zq_pfi hc hH (by rfl) (ci := 1) (f := 4) (by rfl) (by decide +kernel) (by rfl) ?_
                  show Z 0 130 [(5, .int 2), (4, .int 3000), (3, .int 1000), (2, .int (nB (!(decide ((lg_cmp wd 0) = 0))))), (1, .int 3), (0, .ref 0)] [] (z_ui (z_ui (z_ui μ 18 4 ((μ.1 18 4) + 1000)) 26 4 ((μ.1 26 4) + (-3000))) 34 4 ((μ.1 34 4) + 1000))
                  refine z_rcs0 hc hH 7 (pc' := 95) (lv' := [(5, .int 3), (4, .int 3000), (3, .int 1000), (2, .int (nB (!(decide ((lg_cmp wd 0) = 0))))), (1, .int 3), (0, .ref 0)]) (st' := [.int 3, .ref 0]) (by rfl) ?_
                  refine zq_call hc (z_cx_ok hH (by rfl)) (gc_at d' (by omega) (z_ui (z_ui (z_ui μ 18 4 ((μ.1 18 4) + 1000)) 26 4 ((μ.1 26 4) + (-3000))) 34 4 ((μ.1 34 4) + 1000)) 3 (by decide)) (by decide +kernel) (fun r9 μ9 hq => ?_)
                  obtain ⟨hμ9, rfl⟩ := hq
                  rw [hμ9]
                  clear hμ9 μ9
                  show Z 0 98 [(5, .int 3), (4, .int 3000), (3, .int 1000), (2, .int (nB (!(decide ((lg_cmp wd 0) = 0))))), (1, .int 3), (0, .ref 0)] [.ref 42] _
                  refine z_rcs0 hc hH 1 (pc' := 99) (lv' := [(5, .int 3), (4, .int 3000), (3, .int 1000), (2, .int (nB (!(decide ((lg_cmp wd 0) = 0))))), (1, .int 3), (0, .ref 0)]) (st' := [.ref 42, .ref 42]) (by rfl) ?_
                  refine zq_gfi hc hH (by rfl) (ci := 1) (f := 4) (by rfl) (by decide +kernel) (by rfl) ?_
                  refine zV1 (Z := Z) (Eq.trans (ui_o (by first | decide | omega)) (Eq.trans (ui_o (by first | decide | omega)) (ui_o (by first | decide | omega)))) ?_
                  refine z_rcs0 hc hH 2 (pc' := 105) (lv' := [(5, .int 3), (4, .int 3000), (3, .int 1000), (2, .int (nB (!(decide ((lg_cmp wd 0) = 0))))), (1, .int 3), (0, .ref 0)]) (st' := [.int 3, .ref 0, .int (μ.1 42 4), .ref 42]) (by rfl) ?_
                  refine zq_call hc (z_cx_ok hH (by rfl)) (gc_at d' (by omega) (z_ui (z_ui (z_ui μ 18 4 ((μ.1 18 4) + 1000)) 26 4 ((μ.1 26 4) + (-3000))) 34 4 ((μ.1 34 4) + 1000)) 3 (by decide)) (by decide +kernel) (fun r9 μ9 hq => ?_)
                  obtain ⟨hμ9, rfl⟩ := hq
                  rw [hμ9]
                  clear hμ9 μ9
                  show Z 0 108 [(5, .int 3), (4, .int 3000), (3, .int 1000), (2, .int (nB (!(decide ((lg_cmp wd 0) = 0))))), (1, .int 3), (0, .ref 0)] [.ref 42, .int (μ.1 42 4), .ref 42] _
                  refine zq_gfr hc hH (by rfl) (ci := 1) (f := 0) (q := 43) (by rfl) (by decide +kernel) (by rfl) (by decide +kernel) ?_
                  refine zq_call hc (z_cx_ok hH (by rfl)) (hw3 _ (TE_ui (TE_ui (TE_ui (TE_rf _) (by intro i a hi h1 h2; omega)) (by intro i a hi h1 h2; omega)) (by intro i a hi h1 h2; omega)) d' (by omega)) (by decide +kernel) (fun r9 μ9 hq => ?_)
                  obtain ⟨hμ9, rfl⟩ := hq
                  rw [hμ9]
                  clear hμ9 μ9
                  show Z 0 114 [(5, .int 3), (4, .int 3000), (3, .int 1000), (2, .int (nB (!(decide ((lg_cmp wd 0) = 0))))), (1, .int 3), (0, .ref 0)] [.long w3, .int (μ.1 42 4), .ref 42] _
                  refine z_rcs0 hc hH 2 (pc' := 116) (lv' := [(5, .int 3), (4, .int 3000), (3, .int 1000), (2, .int (nB (!(decide ((lg_cmp wd 0) = 0))))), (1, .int 3), (0, .ref 0)]) (st' := [.int (lg_cmp w3 0), .int (μ.1 42 4), .ref 42]) (by rfl) ?_
                  refine zq_if hc hH (by rfl) (tg := 123) (by rfl) (fun h9 => ?_) (fun h9 => ?_)
                  · have h9 : (decide ((lg_cmp w3 0) = 0)) = true := decide_eq_true (cm_eq9.mp h9)
                    exact absurd (Eq.trans (Eq.symm (hb3)) h9) (by decide)
                  · have h9 : (decide ((lg_cmp w3 0) = 0)) = false := decide_eq_false (cn_eq.mp h9)
                    refine z_rcs0 hc hH 3 (pc' := 127) (lv' := [(5, .int 3), (4, .int 3000), (3, .int 1000), (2, .int (nB (!(decide ((lg_cmp wd 0) = 0))))), (1, .int 3), (0, .ref 0)]) (st' := [.int ((μ.1 42 4) + 1000), .ref 42]) (by rfl) ?_
                    refine zq_pfi hc hH (by rfl) (ci := 1) (f := 4) (by rfl) (by decide +kernel) (by rfl) ?_
                    show Z 0 130 [(5, .int 3), (4, .int 3000), (3, .int 1000), (2, .int (nB (!(decide ((lg_cmp wd 0) = 0))))), (1, .int 3), (0, .ref 0)] [] (z_ui (z_ui (z_ui (z_ui μ 18 4 ((μ.1 18 4) + 1000)) 26 4 ((μ.1 26 4) + (-3000))) 34 4 ((μ.1 34 4) + 1000)) 42 4 ((μ.1 42 4) + 1000))
                    refine z_rcs0 hc hH 8 (pc' := 139) (lv' := [(5, .int 4), (4, .int 3000), (3, .int 1000), (2, .int (nB (!(decide ((lg_cmp wd 0) = 0))))), (1, .int 3), (0, .ref 0)]) (st' := [.int 0, .int (nB (!(decide ((lg_cmp wd 0) = 0)))), .ref 0]) (by rfl) ?_
                    refine zq_call hc (z_cx_ok hH (by rfl)) (gc_endHandB d' (by omega) (z_ui (z_ui (z_ui (z_ui μ 18 4 ((μ.1 18 4) + 1000)) 26 4 ((μ.1 26 4) + (-3000))) 34 4 ((μ.1 34 4) + 1000)) 42 4 ((μ.1 42 4) + 1000)) (!(decide ((lg_cmp wd 0) = 0))) false dl e (by rw [ui_o (by first | decide | omega), ui_o (by first | decide | omega), ui_o (by first | decide | omega), ui_o (by first | decide | omega)]; exact hdl) hdl4 he) (by decide +kernel) (fun r9 μ9 hq => ?_)
                    obtain ⟨rfl, rfl⟩ := hq
                    show Z 0 142 [(5, .int 4), (4, .int 3000), (3, .int 1000), (2, .int (nB (!(decide ((lg_cmp wd 0) = 0))))), (1, .int 3), (0, .ref 0)] [] (eHB (z_ui (z_ui (z_ui (z_ui μ 18 4 ((μ.1 18 4) + 1000)) 26 4 ((μ.1 26 4) + (-3000))) 34 4 ((μ.1 34 4) + 1000)) 42 4 ((μ.1 42 4) + 1000)) (!(decide ((lg_cmp wd 0) = 0))) false (xBk (z_ui (z_ui (z_ui (z_ui μ 18 4 ((μ.1 18 4) + 1000)) 26 4 ((μ.1 26 4) + (-3000))) 34 4 ((μ.1 34 4) + 1000)) 42 4 ((μ.1 42 4) + 1000))) dl e (rcM (z_ui (z_ui (z_ui (z_ui μ 18 4 ((μ.1 18 4) + 1000)) 26 4 ((μ.1 26 4) + (-3000))) 34 4 ((μ.1 34 4) + 1000)) 42 4 ((μ.1 42 4) + 1000))))
                    exact hr 0 142 _ _ _ none (by decide +kernel) (by rfl) (⟨rfl, rfl⟩)
              · have h7 : (decide ((lg_cmp w1 0) = 0)) = false := decide_eq_false (cn_eq.mp h7)
                exact absurd (Eq.trans (Eq.symm (hb1)) h7) (by decide)
          refine zq_if hc hH (by rfl) (tg := 57) (by rfl) (fun h10 => ?_) (fun h10 => ?_)
          · have h10 : (decide ((lg_cmp wd 0) = 0)) = true := decide_eq_true (cm_eq9.mp h10)
            refine z_rcs hc hH 1 (pc' := 58) (lv' := [(2, .int 4), (1, .int 3), (0, .ref 0)]) (st' := [.int 0]) (μ' := μ) (by rfl) ?_
            exact zJ hJ5 rfl (by first | with_reducible rfl | (simp only [h10, lb_f, Int64.or_zero, Int32.add_zero, nB_t, nB_f, Bool.not_true, Bool.not_false, Bool.and_true, Bool.true_and, Bool.false_and, Bool.and_false, Bool.or_true, Bool.true_or, Bool.false_or, Bool.or_false, cond_true, cond_false]; done) | rfl) rfl
          · have h10 : (decide ((lg_cmp wd 0) = 0)) = false := decide_eq_false (cn_eq.mp h10)
            refine z_rcs hc hH 2 (pc' := 58) (lv' := [(2, .int 4), (1, .int 3), (0, .ref 0)]) (st' := [.int 1]) (μ' := μ) (by rfl) ?_
            exact zJ hJ5 rfl (by first | with_reducible rfl | (simp only [h10, lb_f, Int64.or_zero, Int32.add_zero, nB_t, nB_f, Bool.not_true, Bool.not_false, Bool.and_true, Bool.true_and, Bool.false_and, Bool.and_false, Bool.or_true, Bool.true_or, Bool.false_or, Bool.or_false, cond_true, cond_false]; done) | rfl) rfl
    · have h2 : (decide ((lg_cmp w1 0) = 0)) = false := decide_eq_false (cn_eq.mp h2)
      exact absurd (Eq.trans (Eq.symm (hb1)) h2) (by decide)
theorem gc_endUnwon1100 (d : Nat) (hd : 8 ≤ d) (μ : zM) (dl e : Nat) (hdl : μ.1 0 9 = nI dl) (hdl4 : dl < 4) (he : (dl + 1) % 4 = e) (w0 : Int64) (hw0 : ∀ μ1, TE μ μ1 → ∀ d, 7 ≤ d → z_C d mi_X3_waiting [.ref 19] μ1 (zR μ1 (.long w0))) (w1 : Int64) (hw1 : ∀ μ1, TE μ μ1 → ∀ d, 7 ≤ d → z_C d mi_X3_waiting [.ref 27] μ1 (zR μ1 (.long w1))) (w2 : Int64) (hw2 : ∀ μ1, TE μ μ1 → ∀ d, 7 ≤ d → z_C d mi_X3_waiting [.ref 35] μ1 (zR μ1 (.long w2))) (w3 : Int64) (hw3 : ∀ μ1, TE μ μ1 → ∀ d, 7 ≤ d → z_C d mi_X3_waiting [.ref 43] μ1 (zR μ1 (.long w3))) (wd : Int64) (hwd : ∀ μ1, TE μ μ1 → ∀ d, 7 ≤ d → z_C d mi_X3_waiting [.ref (19 + 8 * dl)] μ1 (zR μ1 (.long wd))) (hb0 : decide (lg_cmp w0 0 = 0) = false) (hb1 : decide (lg_cmp w1 0 = 0) = false) (hb2 : decide (lg_cmp w2 0 = 0) = true) (hb3 : decide (lg_cmp w3 0 = 0) = true) : z_C d mi_X6_endUnwon [.ref 0] μ (fun r μ' => r = none ∧ μ' = eHB (z_ui (z_ui (z_ui (z_ui μ 18 4 ((μ.1 18 4) + 1500)) 26 4 ((μ.1 26 4) + 1500)) 34 4 ((μ.1 34 4) + (-1500))) 42 4 ((μ.1 42 4) + (-1500))) (!(decide ((lg_cmp wd 0) = 0))) false (xBk (z_ui (z_ui (z_ui (z_ui μ 18 4 ((μ.1 18 4) + 1500)) 26 4 ((μ.1 26 4) + 1500)) 34 4 ((μ.1 34 4) + (-1500))) 42 4 ((μ.1 42 4) + (-1500)))) dl e (rcM (z_ui (z_ui (z_ui (z_ui μ 18 4 ((μ.1 18 4) + 1500)) 26 4 ((μ.1 26 4) + 1500)) 34 4 ((μ.1 34 4) + (-1500))) 42 4 ((μ.1 42 4) + (-1500))))) := by
  refine z_C_in (by decide) (by omega) (fun d' Z ed hc hr => ?_)
  have hH : zH mi_X6_endUnwon zt_X6_endUnwon 79 6 6 := hh_X6_endUnwon
  refine z_rcs hc hH 9 (pc' := 11) (lv' := [(2, .int 0), (1, .int 0), (0, .ref 0)]) (st' := [.int 0, .ref 0]) (μ' := μ) (by rfl) ?_
  refine zq_call hc (z_cx_ok hH (by rfl)) (gc_at d' (by omega) μ 0 (by decide)) (by decide +kernel) (fun r9 μ9 hq => ?_)
  obtain ⟨hμ9, rfl⟩ := hq
  rw [hμ9]
  clear hμ9 μ9
  show Z 0 14 [(2, .int 0), (1, .int 0), (0, .ref 0)] [.ref 18] μ
  refine zq_gfr hc hH (by rfl) (ci := 1) (f := 0) (q := 19) (by rfl) (by decide +kernel) (by rfl) (by decide +kernel) ?_
  refine zq_call hc (z_cx_ok hH (by rfl)) (hw0 _ (TE_rf _) d' (by omega)) (by decide +kernel) (fun r9 μ9 hq => ?_)
  obtain ⟨hμ9, rfl⟩ := hq
  rw [hμ9]
  clear hμ9 μ9
  show Z 0 20 [(2, .int 0), (1, .int 0), (0, .ref 0)] [.long w0] μ
  refine z_rcs hc hH 2 (pc' := 22) (lv' := [(2, .int 0), (1, .int 0), (0, .ref 0)]) (st' := [.int (lg_cmp w0 0)]) (μ' := μ) (by rfl) ?_
  refine zq_if hc hH (by rfl) (tg := 28) (by rfl) (fun h1 => ?_) (fun h1 => ?_)
  · have h1 : (decide ((lg_cmp w0 0) = 0)) = true := decide_eq_true (cm_eq9.mp h1)
    exact absurd (Eq.trans (Eq.symm (hb0)) h1) (by decide)
  · have h1 : (decide ((lg_cmp w0 0) = 0)) = false := decide_eq_false (cn_eq.mp h1)
    refine z_rcs hc hH 8 (pc' := 11) (lv' := [(2, .int 1), (1, .int 1), (0, .ref 0)]) (st' := [.int 1, .ref 0]) (μ' := μ) (by rfl) ?_
    refine zq_call hc (z_cx_ok hH (by rfl)) (gc_at d' (by omega) μ 1 (by decide)) (by decide +kernel) (fun r9 μ9 hq => ?_)
    obtain ⟨hμ9, rfl⟩ := hq
    rw [hμ9]
    clear hμ9 μ9
    show Z 0 14 [(2, .int 1), (1, .int 1), (0, .ref 0)] [.ref 26] μ
    refine zq_gfr hc hH (by rfl) (ci := 1) (f := 0) (q := 27) (by rfl) (by decide +kernel) (by rfl) (by decide +kernel) ?_
    refine zq_call hc (z_cx_ok hH (by rfl)) (hw1 _ (TE_rf _) d' (by omega)) (by decide +kernel) (fun r9 μ9 hq => ?_)
    obtain ⟨hμ9, rfl⟩ := hq
    rw [hμ9]
    clear hμ9 μ9
    show Z 0 20 [(2, .int 1), (1, .int 1), (0, .ref 0)] [.long w1] μ
    refine z_rcs hc hH 2 (pc' := 22) (lv' := [(2, .int 1), (1, .int 1), (0, .ref 0)]) (st' := [.int (lg_cmp w1 0)]) (μ' := μ) (by rfl) ?_
    refine zq_if hc hH (by rfl) (tg := 28) (by rfl) (fun h2 => ?_) (fun h2 => ?_)
    · have h2 : (decide ((lg_cmp w1 0) = 0)) = true := decide_eq_true (cm_eq9.mp h2)
      exact absurd (Eq.trans (Eq.symm (hb1)) h2) (by decide)
    · have h2 : (decide ((lg_cmp w1 0) = 0)) = false := decide_eq_false (cn_eq.mp h2)
      refine z_rcs hc hH 8 (pc' := 11) (lv' := [(2, .int 2), (1, .int 2), (0, .ref 0)]) (st' := [.int 2, .ref 0]) (μ' := μ) (by rfl) ?_
      refine zq_call hc (z_cx_ok hH (by rfl)) (gc_at d' (by omega) μ 2 (by decide)) (by decide +kernel) (fun r9 μ9 hq => ?_)
      obtain ⟨hμ9, rfl⟩ := hq
      rw [hμ9]
      clear hμ9 μ9
      show Z 0 14 [(2, .int 2), (1, .int 2), (0, .ref 0)] [.ref 34] μ
      refine zq_gfr hc hH (by rfl) (ci := 1) (f := 0) (q := 35) (by rfl) (by decide +kernel) (by rfl) (by decide +kernel) ?_
      refine zq_call hc (z_cx_ok hH (by rfl)) (hw2 _ (TE_rf _) d' (by omega)) (by decide +kernel) (fun r9 μ9 hq => ?_)
      obtain ⟨hμ9, rfl⟩ := hq
      rw [hμ9]
      clear hμ9 μ9
      show Z 0 20 [(2, .int 2), (1, .int 2), (0, .ref 0)] [.long w2] μ
      refine z_rcs hc hH 2 (pc' := 22) (lv' := [(2, .int 2), (1, .int 2), (0, .ref 0)]) (st' := [.int (lg_cmp w2 0)]) (μ' := μ) (by rfl) ?_
      refine zq_if hc hH (by rfl) (tg := 28) (by rfl) (fun h3 => ?_) (fun h3 => ?_)
      · have h3 : (decide ((lg_cmp w2 0) = 0)) = true := decide_eq_true (cm_eq9.mp h3)
        refine z_rcs hc hH 7 (pc' := 11) (lv' := [(2, .int 3), (1, .int 2), (0, .ref 0)]) (st' := [.int 3, .ref 0]) (μ' := μ) (by rfl) ?_
        refine zq_call hc (z_cx_ok hH (by rfl)) (gc_at d' (by omega) μ 3 (by decide)) (by decide +kernel) (fun r9 μ9 hq => ?_)
        obtain ⟨hμ9, rfl⟩ := hq
        rw [hμ9]
        clear hμ9 μ9
        show Z 0 14 [(2, .int 3), (1, .int 2), (0, .ref 0)] [.ref 42] μ
        refine zq_gfr hc hH (by rfl) (ci := 1) (f := 0) (q := 43) (by rfl) (by decide +kernel) (by rfl) (by decide +kernel) ?_
        refine zq_call hc (z_cx_ok hH (by rfl)) (hw3 _ (TE_rf _) d' (by omega)) (by decide +kernel) (fun r9 μ9 hq => ?_)
        obtain ⟨hμ9, rfl⟩ := hq
        rw [hμ9]
        clear hμ9 μ9
        show Z 0 20 [(2, .int 3), (1, .int 2), (0, .ref 0)] [.long w3] μ
        refine z_rcs hc hH 2 (pc' := 22) (lv' := [(2, .int 3), (1, .int 2), (0, .ref 0)]) (st' := [.int (lg_cmp w3 0)]) (μ' := μ) (by rfl) ?_
        refine zq_if hc hH (by rfl) (tg := 28) (by rfl) (fun h4 => ?_) (fun h4 => ?_)
        · have h4 : (decide ((lg_cmp w3 0) = 0)) = true := decide_eq_true (cm_eq9.mp h4)
          refine z_rcs hc hH 7 (pc' := 36) (lv' := [(2, .int 4), (1, .int 2), (0, .ref 0)]) (st' := [.ref 0, .ref 0]) (μ' := μ) (by rfl) ?_
          refine zq_gfi hc hH (by rfl) (ci := 5) (f := 9) (by rfl) (by decide +kernel) (by rfl) ?_
          rw [hdl]
          refine zq_call hc (z_cx_ok hH (by rfl)) (gc_at4 d' (by omega) μ dl hdl4) (by decide +kernel) (fun r9 μ9 hq => ?_)
          obtain ⟨hμ9, rfl⟩ := hq
          rw [hμ9]
          clear hμ9 μ9
          show Z 0 42 [(2, .int 4), (1, .int 2), (0, .ref 0)] [.ref (18 + 8 * dl)] μ
          refine zq_gfr hc hH (by rfl) (ci := 1) (f := 0) (q := 19 + 8 * dl) (by rfl) (sj (P := fun i => okf 79 1 0 (18 + 8 * i)) hdl4 (by decide +kernel)) (by rfl) (sj (P := fun i => Nat.beq (z_gr (18 + 8 * i) 0) (19 + 8 * i)) hdl4 (by decide +kernel)) ?_
          refine zq_call hc (z_clv9 hH (by rfl) (by rfl) (by rfl) (by rfl) (sj (P := fun i => okr 79 2 (19 + 8 * i)) hdl4 (by decide +kernel)) (by rfl) (by rfl)) ((hwd _ (TE_rf _) d' (by omega))) (by decide +kernel) (fun r9 μ9 hq => ?_)
          obtain ⟨hμ9, rfl⟩ := hq
          rw [hμ9]
          clear hμ9 μ9
          show Z 0 48 [(2, .int 4), (1, .int 2), (0, .ref 0)] [.long wd] μ
          refine z_rcs hc hH 2 (pc' := 50) (lv' := [(2, .int 4), (1, .int 2), (0, .ref 0)]) (st' := [.int (lg_cmp wd 0)]) (μ' := μ) (by rfl) ?_
          have hJ5 : Z 0 58 [(2, .int 4), (1, .int 2), (0, .ref 0)] [.int (nB (!(decide ((lg_cmp wd 0) = 0))))] μ := by
            refine z_rcs hc hH 23 (pc' := 95) (lv' := [(5, .int 0), (4, .int 1500), (3, .int 1500), (2, .int (nB (!(decide ((lg_cmp wd 0) = 0))))), (1, .int 2), (0, .ref 0)]) (st' := [.int 0, .ref 0]) (μ' := μ) (by rfl) ?_
            refine zq_call hc (z_cx_ok hH (by rfl)) (gc_at d' (by omega) μ 0 (by decide)) (by decide +kernel) (fun r9 μ9 hq => ?_)
            obtain ⟨hμ9, rfl⟩ := hq
            rw [hμ9]
            clear hμ9 μ9
            show Z 0 98 [(5, .int 0), (4, .int 1500), (3, .int 1500), (2, .int (nB (!(decide ((lg_cmp wd 0) = 0))))), (1, .int 2), (0, .ref 0)] [.ref 18] μ
            refine z_rcs hc hH 1 (pc' := 99) (lv' := [(5, .int 0), (4, .int 1500), (3, .int 1500), (2, .int (nB (!(decide ((lg_cmp wd 0) = 0))))), (1, .int 2), (0, .ref 0)]) (st' := [.ref 18, .ref 18]) (μ' := μ) (by rfl) ?_
            refine zq_gfi hc hH (by rfl) (ci := 1) (f := 4) (by rfl) (by decide +kernel) (by rfl) ?_
            refine z_rcs hc hH 2 (pc' := 105) (lv' := [(5, .int 0), (4, .int 1500), (3, .int 1500), (2, .int (nB (!(decide ((lg_cmp wd 0) = 0))))), (1, .int 2), (0, .ref 0)]) (st' := [.int 0, .ref 0, .int (μ.1 18 4), .ref 18]) (μ' := μ) (by rfl) ?_
            refine zq_call hc (z_cx_ok hH (by rfl)) (gc_at d' (by omega) μ 0 (by decide)) (by decide +kernel) (fun r9 μ9 hq => ?_)
            obtain ⟨hμ9, rfl⟩ := hq
            rw [hμ9]
            clear hμ9 μ9
            show Z 0 108 [(5, .int 0), (4, .int 1500), (3, .int 1500), (2, .int (nB (!(decide ((lg_cmp wd 0) = 0))))), (1, .int 2), (0, .ref 0)] [.ref 18, .int (μ.1 18 4), .ref 18] μ
            refine zq_gfr hc hH (by rfl) (ci := 1) (f := 0) (q := 19) (by rfl) (by decide +kernel) (by rfl) (by decide +kernel) ?_
            refine zq_call hc (z_cx_ok hH (by rfl)) (hw0 _ (TE_rf _) d' (by omega)) (by decide +kernel) (fun r9 μ9 hq => ?_)
            obtain ⟨hμ9, rfl⟩ := hq
            rw [hμ9]
            clear hμ9 μ9
            show Z 0 114 [(5, .int 0), (4, .int 1500), (3, .int 1500), (2, .int (nB (!(decide ((lg_cmp wd 0) = 0))))), (1, .int 2), (0, .ref 0)] [.long w0, .int (μ.1 18 4), .ref 18] μ
            refine z_rcs hc hH 2 (pc' := 116) (lv' := [(5, .int 0), (4, .int 1500), (3, .int 1500), (2, .int (nB (!(decide ((lg_cmp wd 0) = 0))))), (1, .int 2), (0, .ref 0)]) (st' := [.int (lg_cmp w0 0), .int (μ.1 18 4), .ref 18]) (μ' := μ) (by rfl) ?_
            refine zq_if hc hH (by rfl) (tg := 123) (by rfl) (fun h6 => ?_) (fun h6 => ?_)
            · have h6 : (decide ((lg_cmp w0 0) = 0)) = true := decide_eq_true (cm_eq9.mp h6)
              exact absurd (Eq.trans (Eq.symm (hb0)) h6) (by decide)
            · have h6 : (decide ((lg_cmp w0 0) = 0)) = false := decide_eq_false (cn_eq.mp h6)
              refine z_rcs hc hH 3 (pc' := 127) (lv' := [(5, .int 0), (4, .int 1500), (3, .int 1500), (2, .int (nB (!(decide ((lg_cmp wd 0) = 0))))), (1, .int 2), (0, .ref 0)]) (st' := [.int ((μ.1 18 4) + 1500), .ref 18]) (μ' := μ) (by rfl) ?_
              refine zq_pfi hc hH (by rfl) (ci := 1) (f := 4) (by rfl) (by decide +kernel) (by rfl) ?_
              show Z 0 130 [(5, .int 0), (4, .int 1500), (3, .int 1500), (2, .int (nB (!(decide ((lg_cmp wd 0) = 0))))), (1, .int 2), (0, .ref 0)] [] (z_ui μ 18 4 ((μ.1 18 4) + 1500))
              refine z_rcs0 hc hH 7 (pc' := 95) (lv' := [(5, .int 1), (4, .int 1500), (3, .int 1500), (2, .int (nB (!(decide ((lg_cmp wd 0) = 0))))), (1, .int 2), (0, .ref 0)]) (st' := [.int 1, .ref 0]) (by rfl) ?_
              refine zq_call hc (z_cx_ok hH (by rfl)) (gc_at d' (by omega) (z_ui μ 18 4 ((μ.1 18 4) + 1500)) 1 (by decide)) (by decide +kernel) (fun r9 μ9 hq => ?_)
              obtain ⟨hμ9, rfl⟩ := hq
              rw [hμ9]
              clear hμ9 μ9
              show Z 0 98 [(5, .int 1), (4, .int 1500), (3, .int 1500), (2, .int (nB (!(decide ((lg_cmp wd 0) = 0))))), (1, .int 2), (0, .ref 0)] [.ref 26] _
              refine z_rcs0 hc hH 1 (pc' := 99) (lv' := [(5, .int 1), (4, .int 1500), (3, .int 1500), (2, .int (nB (!(decide ((lg_cmp wd 0) = 0))))), (1, .int 2), (0, .ref 0)]) (st' := [.ref 26, .ref 26]) (by rfl) ?_
              refine zq_gfi hc hH (by rfl) (ci := 1) (f := 4) (by rfl) (by decide +kernel) (by rfl) ?_
              refine zV1 (Z := Z) (ui_o (by first | decide | omega)) ?_
              refine z_rcs0 hc hH 2 (pc' := 105) (lv' := [(5, .int 1), (4, .int 1500), (3, .int 1500), (2, .int (nB (!(decide ((lg_cmp wd 0) = 0))))), (1, .int 2), (0, .ref 0)]) (st' := [.int 1, .ref 0, .int (μ.1 26 4), .ref 26]) (by rfl) ?_
              refine zq_call hc (z_cx_ok hH (by rfl)) (gc_at d' (by omega) (z_ui μ 18 4 ((μ.1 18 4) + 1500)) 1 (by decide)) (by decide +kernel) (fun r9 μ9 hq => ?_)
              obtain ⟨hμ9, rfl⟩ := hq
              rw [hμ9]
              clear hμ9 μ9
              show Z 0 108 [(5, .int 1), (4, .int 1500), (3, .int 1500), (2, .int (nB (!(decide ((lg_cmp wd 0) = 0))))), (1, .int 2), (0, .ref 0)] [.ref 26, .int (μ.1 26 4), .ref 26] _
              refine zq_gfr hc hH (by rfl) (ci := 1) (f := 0) (q := 27) (by rfl) (by decide +kernel) (by rfl) (by decide +kernel) ?_
              refine zq_call hc (z_cx_ok hH (by rfl)) (hw1 _ (TE_ui (TE_rf _) (by intro i a hi h1 h2; omega)) d' (by omega)) (by decide +kernel) (fun r9 μ9 hq => ?_)
              obtain ⟨hμ9, rfl⟩ := hq
              rw [hμ9]
              clear hμ9 μ9
              show Z 0 114 [(5, .int 1), (4, .int 1500), (3, .int 1500), (2, .int (nB (!(decide ((lg_cmp wd 0) = 0))))), (1, .int 2), (0, .ref 0)] [.long w1, .int (μ.1 26 4), .ref 26] _
              refine z_rcs0 hc hH 2 (pc' := 116) (lv' := [(5, .int 1), (4, .int 1500), (3, .int 1500), (2, .int (nB (!(decide ((lg_cmp wd 0) = 0))))), (1, .int 2), (0, .ref 0)]) (st' := [.int (lg_cmp w1 0), .int (μ.1 26 4), .ref 26]) (by rfl) ?_
              refine zq_if hc hH (by rfl) (tg := 123) (by rfl) (fun h7 => ?_) (fun h7 => ?_)
              · have h7 : (decide ((lg_cmp w1 0) = 0)) = true := decide_eq_true (cm_eq9.mp h7)
                exact absurd (Eq.trans (Eq.symm (hb1)) h7) (by decide)
              · have h7 : (decide ((lg_cmp w1 0) = 0)) = false := decide_eq_false (cn_eq.mp h7)
                refine z_rcs0 hc hH 3 (pc' := 127) (lv' := [(5, .int 1), (4, .int 1500), (3, .int 1500), (2, .int (nB (!(decide ((lg_cmp wd 0) = 0))))), (1, .int 2), (0, .ref 0)]) (st' := [.int ((μ.1 26 4) + 1500), .ref 26]) (by rfl) ?_
                refine zq_pfi hc hH (by rfl) (ci := 1) (f := 4) (by rfl) (by decide +kernel) (by rfl) ?_
                show Z 0 130 [(5, .int 1), (4, .int 1500), (3, .int 1500), (2, .int (nB (!(decide ((lg_cmp wd 0) = 0))))), (1, .int 2), (0, .ref 0)] [] (z_ui (z_ui μ 18 4 ((μ.1 18 4) + 1500)) 26 4 ((μ.1 26 4) + 1500))
                refine z_rcs0 hc hH 7 (pc' := 95) (lv' := [(5, .int 2), (4, .int 1500), (3, .int 1500), (2, .int (nB (!(decide ((lg_cmp wd 0) = 0))))), (1, .int 2), (0, .ref 0)]) (st' := [.int 2, .ref 0]) (by rfl) ?_
                refine zq_call hc (z_cx_ok hH (by rfl)) (gc_at d' (by omega) (z_ui (z_ui μ 18 4 ((μ.1 18 4) + 1500)) 26 4 ((μ.1 26 4) + 1500)) 2 (by decide)) (by decide +kernel) (fun r9 μ9 hq => ?_)
                obtain ⟨hμ9, rfl⟩ := hq
                rw [hμ9]
                clear hμ9 μ9
                show Z 0 98 [(5, .int 2), (4, .int 1500), (3, .int 1500), (2, .int (nB (!(decide ((lg_cmp wd 0) = 0))))), (1, .int 2), (0, .ref 0)] [.ref 34] _
                refine z_rcs0 hc hH 1 (pc' := 99) (lv' := [(5, .int 2), (4, .int 1500), (3, .int 1500), (2, .int (nB (!(decide ((lg_cmp wd 0) = 0))))), (1, .int 2), (0, .ref 0)]) (st' := [.ref 34, .ref 34]) (by rfl) ?_
                refine zq_gfi hc hH (by rfl) (ci := 1) (f := 4) (by rfl) (by decide +kernel) (by rfl) ?_
                refine zV1 (Z := Z) (Eq.trans (ui_o (by first | decide | omega)) (ui_o (by first | decide | omega))) ?_
                refine z_rcs0 hc hH 2 (pc' := 105) (lv' := [(5, .int 2), (4, .int 1500), (3, .int 1500), (2, .int (nB (!(decide ((lg_cmp wd 0) = 0))))), (1, .int 2), (0, .ref 0)]) (st' := [.int 2, .ref 0, .int (μ.1 34 4), .ref 34]) (by rfl) ?_
                refine zq_call hc (z_cx_ok hH (by rfl)) (gc_at d' (by omega) (z_ui (z_ui μ 18 4 ((μ.1 18 4) + 1500)) 26 4 ((μ.1 26 4) + 1500)) 2 (by decide)) (by decide +kernel) (fun r9 μ9 hq => ?_)
                obtain ⟨hμ9, rfl⟩ := hq
                rw [hμ9]
                clear hμ9 μ9
                show Z 0 108 [(5, .int 2), (4, .int 1500), (3, .int 1500), (2, .int (nB (!(decide ((lg_cmp wd 0) = 0))))), (1, .int 2), (0, .ref 0)] [.ref 34, .int (μ.1 34 4), .ref 34] _
                refine zq_gfr hc hH (by rfl) (ci := 1) (f := 0) (q := 35) (by rfl) (by decide +kernel) (by rfl) (by decide +kernel) ?_
                refine zq_call hc (z_cx_ok hH (by rfl)) (hw2 _ (TE_ui (TE_ui (TE_rf _) (by intro i a hi h1 h2; omega)) (by intro i a hi h1 h2; omega)) d' (by omega)) (by decide +kernel) (fun r9 μ9 hq => ?_)
                obtain ⟨hμ9, rfl⟩ := hq
                rw [hμ9]
                clear hμ9 μ9
                show Z 0 114 [(5, .int 2), (4, .int 1500), (3, .int 1500), (2, .int (nB (!(decide ((lg_cmp wd 0) = 0))))), (1, .int 2), (0, .ref 0)] [.long w2, .int (μ.1 34 4), .ref 34] _
                refine z_rcs0 hc hH 2 (pc' := 116) (lv' := [(5, .int 2), (4, .int 1500), (3, .int 1500), (2, .int (nB (!(decide ((lg_cmp wd 0) = 0))))), (1, .int 2), (0, .ref 0)]) (st' := [.int (lg_cmp w2 0), .int (μ.1 34 4), .ref 34]) (by rfl) ?_
                refine zq_if hc hH (by rfl) (tg := 123) (by rfl) (fun h8 => ?_) (fun h8 => ?_)
                · have h8 : (decide ((lg_cmp w2 0) = 0)) = true := decide_eq_true (cm_eq9.mp h8)
                  refine z_rcs0 hc hH 3 (pc' := 127) (lv' := [(5, .int 2), (4, .int 1500), (3, .int 1500), (2, .int (nB (!(decide ((lg_cmp wd 0) = 0))))), (1, .int 2), (0, .ref 0)]) (st' := [.int ((μ.1 34 4) + (-1500)), .ref 34]) (by rfl) ?_
                  refine zq_pfi hc hH (by rfl) (ci := 1) (f := 4) (by rfl) (by decide +kernel) (by rfl) ?_
                  show Z 0 130 [(5, .int 2), (4, .int 1500), (3, .int 1500), (2, .int (nB (!(decide ((lg_cmp wd 0) = 0))))), (1, .int 2), (0, .ref 0)] [] (z_ui (z_ui (z_ui μ 18 4 ((μ.1 18 4) + 1500)) 26 4 ((μ.1 26 4) + 1500)) 34 4 ((μ.1 34 4) + (-1500)))
                  refine z_rcs0 hc hH 7 (pc' := 95) (lv' := [(5, .int 3), (4, .int 1500), (3, .int 1500), (2, .int (nB (!(decide ((lg_cmp wd 0) = 0))))), (1, .int 2), (0, .ref 0)]) (st' := [.int 3, .ref 0]) (by rfl) ?_
                  refine zq_call hc (z_cx_ok hH (by rfl)) (gc_at d' (by omega) (z_ui (z_ui (z_ui μ 18 4 ((μ.1 18 4) + 1500)) 26 4 ((μ.1 26 4) + 1500)) 34 4 ((μ.1 34 4) + (-1500))) 3 (by decide)) (by decide +kernel) (fun r9 μ9 hq => ?_)
                  obtain ⟨hμ9, rfl⟩ := hq
                  rw [hμ9]
                  clear hμ9 μ9
                  show Z 0 98 [(5, .int 3), (4, .int 1500), (3, .int 1500), (2, .int (nB (!(decide ((lg_cmp wd 0) = 0))))), (1, .int 2), (0, .ref 0)] [.ref 42] _
                  refine z_rcs0 hc hH 1 (pc' := 99) (lv' := [(5, .int 3), (4, .int 1500), (3, .int 1500), (2, .int (nB (!(decide ((lg_cmp wd 0) = 0))))), (1, .int 2), (0, .ref 0)]) (st' := [.ref 42, .ref 42]) (by rfl) ?_
                  refine zq_gfi hc hH (by rfl) (ci := 1) (f := 4) (by rfl) (by decide +kernel) (by rfl) ?_
                  refine zV1 (Z := Z) (Eq.trans (ui_o (by first | decide | omega)) (Eq.trans (ui_o (by first | decide | omega)) (ui_o (by first | decide | omega)))) ?_
                  refine z_rcs0 hc hH 2 (pc' := 105) (lv' := [(5, .int 3), (4, .int 1500), (3, .int 1500), (2, .int (nB (!(decide ((lg_cmp wd 0) = 0))))), (1, .int 2), (0, .ref 0)]) (st' := [.int 3, .ref 0, .int (μ.1 42 4), .ref 42]) (by rfl) ?_
                  refine zq_call hc (z_cx_ok hH (by rfl)) (gc_at d' (by omega) (z_ui (z_ui (z_ui μ 18 4 ((μ.1 18 4) + 1500)) 26 4 ((μ.1 26 4) + 1500)) 34 4 ((μ.1 34 4) + (-1500))) 3 (by decide)) (by decide +kernel) (fun r9 μ9 hq => ?_)
                  obtain ⟨hμ9, rfl⟩ := hq
                  rw [hμ9]
                  clear hμ9 μ9
                  show Z 0 108 [(5, .int 3), (4, .int 1500), (3, .int 1500), (2, .int (nB (!(decide ((lg_cmp wd 0) = 0))))), (1, .int 2), (0, .ref 0)] [.ref 42, .int (μ.1 42 4), .ref 42] _
                  refine zq_gfr hc hH (by rfl) (ci := 1) (f := 0) (q := 43) (by rfl) (by decide +kernel) (by rfl) (by decide +kernel) ?_
                  refine zq_call hc (z_cx_ok hH (by rfl)) (hw3 _ (TE_ui (TE_ui (TE_ui (TE_rf _) (by intro i a hi h1 h2; omega)) (by intro i a hi h1 h2; omega)) (by intro i a hi h1 h2; omega)) d' (by omega)) (by decide +kernel) (fun r9 μ9 hq => ?_)
                  obtain ⟨hμ9, rfl⟩ := hq
                  rw [hμ9]
                  clear hμ9 μ9
                  show Z 0 114 [(5, .int 3), (4, .int 1500), (3, .int 1500), (2, .int (nB (!(decide ((lg_cmp wd 0) = 0))))), (1, .int 2), (0, .ref 0)] [.long w3, .int (μ.1 42 4), .ref 42] _
                  refine z_rcs0 hc hH 2 (pc' := 116) (lv' := [(5, .int 3), (4, .int 1500), (3, .int 1500), (2, .int (nB (!(decide ((lg_cmp wd 0) = 0))))), (1, .int 2), (0, .ref 0)]) (st' := [.int (lg_cmp w3 0), .int (μ.1 42 4), .ref 42]) (by rfl) ?_
                  refine zq_if hc hH (by rfl) (tg := 123) (by rfl) (fun h9 => ?_) (fun h9 => ?_)
                  · have h9 : (decide ((lg_cmp w3 0) = 0)) = true := decide_eq_true (cm_eq9.mp h9)
                    refine z_rcs0 hc hH 3 (pc' := 127) (lv' := [(5, .int 3), (4, .int 1500), (3, .int 1500), (2, .int (nB (!(decide ((lg_cmp wd 0) = 0))))), (1, .int 2), (0, .ref 0)]) (st' := [.int ((μ.1 42 4) + (-1500)), .ref 42]) (by rfl) ?_
                    refine zq_pfi hc hH (by rfl) (ci := 1) (f := 4) (by rfl) (by decide +kernel) (by rfl) ?_
                    show Z 0 130 [(5, .int 3), (4, .int 1500), (3, .int 1500), (2, .int (nB (!(decide ((lg_cmp wd 0) = 0))))), (1, .int 2), (0, .ref 0)] [] (z_ui (z_ui (z_ui (z_ui μ 18 4 ((μ.1 18 4) + 1500)) 26 4 ((μ.1 26 4) + 1500)) 34 4 ((μ.1 34 4) + (-1500))) 42 4 ((μ.1 42 4) + (-1500)))
                    refine z_rcs0 hc hH 8 (pc' := 139) (lv' := [(5, .int 4), (4, .int 1500), (3, .int 1500), (2, .int (nB (!(decide ((lg_cmp wd 0) = 0))))), (1, .int 2), (0, .ref 0)]) (st' := [.int 0, .int (nB (!(decide ((lg_cmp wd 0) = 0)))), .ref 0]) (by rfl) ?_
                    refine zq_call hc (z_cx_ok hH (by rfl)) (gc_endHandB d' (by omega) (z_ui (z_ui (z_ui (z_ui μ 18 4 ((μ.1 18 4) + 1500)) 26 4 ((μ.1 26 4) + 1500)) 34 4 ((μ.1 34 4) + (-1500))) 42 4 ((μ.1 42 4) + (-1500))) (!(decide ((lg_cmp wd 0) = 0))) false dl e (by rw [ui_o (by first | decide | omega), ui_o (by first | decide | omega), ui_o (by first | decide | omega), ui_o (by first | decide | omega)]; exact hdl) hdl4 he) (by decide +kernel) (fun r9 μ9 hq => ?_)
                    obtain ⟨rfl, rfl⟩ := hq
                    show Z 0 142 [(5, .int 4), (4, .int 1500), (3, .int 1500), (2, .int (nB (!(decide ((lg_cmp wd 0) = 0))))), (1, .int 2), (0, .ref 0)] [] (eHB (z_ui (z_ui (z_ui (z_ui μ 18 4 ((μ.1 18 4) + 1500)) 26 4 ((μ.1 26 4) + 1500)) 34 4 ((μ.1 34 4) + (-1500))) 42 4 ((μ.1 42 4) + (-1500))) (!(decide ((lg_cmp wd 0) = 0))) false (xBk (z_ui (z_ui (z_ui (z_ui μ 18 4 ((μ.1 18 4) + 1500)) 26 4 ((μ.1 26 4) + 1500)) 34 4 ((μ.1 34 4) + (-1500))) 42 4 ((μ.1 42 4) + (-1500)))) dl e (rcM (z_ui (z_ui (z_ui (z_ui μ 18 4 ((μ.1 18 4) + 1500)) 26 4 ((μ.1 26 4) + 1500)) 34 4 ((μ.1 34 4) + (-1500))) 42 4 ((μ.1 42 4) + (-1500)))))
                    exact hr 0 142 _ _ _ none (by decide +kernel) (by rfl) (⟨rfl, rfl⟩)
                  · have h9 : (decide ((lg_cmp w3 0) = 0)) = false := decide_eq_false (cn_eq.mp h9)
                    exact absurd (Eq.trans (Eq.symm (hb3)) h9) (by decide)
                · have h8 : (decide ((lg_cmp w2 0) = 0)) = false := decide_eq_false (cn_eq.mp h8)
                  exact absurd (Eq.trans (Eq.symm (hb2)) h8) (by decide)
          refine zq_if hc hH (by rfl) (tg := 57) (by rfl) (fun h10 => ?_) (fun h10 => ?_)
          · have h10 : (decide ((lg_cmp wd 0) = 0)) = true := decide_eq_true (cm_eq9.mp h10)
            refine z_rcs hc hH 1 (pc' := 58) (lv' := [(2, .int 4), (1, .int 2), (0, .ref 0)]) (st' := [.int 0]) (μ' := μ) (by rfl) ?_
            exact zJ hJ5 rfl (by first | with_reducible rfl | (simp only [h10, lb_f, Int64.or_zero, Int32.add_zero, nB_t, nB_f, Bool.not_true, Bool.not_false, Bool.and_true, Bool.true_and, Bool.false_and, Bool.and_false, Bool.or_true, Bool.true_or, Bool.false_or, Bool.or_false, cond_true, cond_false]; done) | rfl) rfl
          · have h10 : (decide ((lg_cmp wd 0) = 0)) = false := decide_eq_false (cn_eq.mp h10)
            refine z_rcs hc hH 2 (pc' := 58) (lv' := [(2, .int 4), (1, .int 2), (0, .ref 0)]) (st' := [.int 1]) (μ' := μ) (by rfl) ?_
            exact zJ hJ5 rfl (by first | with_reducible rfl | (simp only [h10, lb_f, Int64.or_zero, Int32.add_zero, nB_t, nB_f, Bool.not_true, Bool.not_false, Bool.and_true, Bool.true_and, Bool.false_and, Bool.and_false, Bool.or_true, Bool.true_or, Bool.false_or, Bool.or_false, cond_true, cond_false]; done) | rfl) rfl
        · have h4 : (decide ((lg_cmp w3 0) = 0)) = false := decide_eq_false (cn_eq.mp h4)
          exact absurd (Eq.trans (Eq.symm (hb3)) h4) (by decide)
      · have h3 : (decide ((lg_cmp w2 0) = 0)) = false := decide_eq_false (cn_eq.mp h3)
        exact absurd (Eq.trans (Eq.symm (hb2)) h3) (by decide)
theorem gc_endUnwon1101 (d : Nat) (hd : 8 ≤ d) (μ : zM) (dl e : Nat) (hdl : μ.1 0 9 = nI dl) (hdl4 : dl < 4) (he : (dl + 1) % 4 = e) (w0 : Int64) (hw0 : ∀ μ1, TE μ μ1 → ∀ d, 7 ≤ d → z_C d mi_X3_waiting [.ref 19] μ1 (zR μ1 (.long w0))) (w1 : Int64) (hw1 : ∀ μ1, TE μ μ1 → ∀ d, 7 ≤ d → z_C d mi_X3_waiting [.ref 27] μ1 (zR μ1 (.long w1))) (w2 : Int64) (hw2 : ∀ μ1, TE μ μ1 → ∀ d, 7 ≤ d → z_C d mi_X3_waiting [.ref 35] μ1 (zR μ1 (.long w2))) (w3 : Int64) (hw3 : ∀ μ1, TE μ μ1 → ∀ d, 7 ≤ d → z_C d mi_X3_waiting [.ref 43] μ1 (zR μ1 (.long w3))) (wd : Int64) (hwd : ∀ μ1, TE μ μ1 → ∀ d, 7 ≤ d → z_C d mi_X3_waiting [.ref (19 + 8 * dl)] μ1 (zR μ1 (.long wd))) (hb0 : decide (lg_cmp w0 0 = 0) = false) (hb1 : decide (lg_cmp w1 0 = 0) = false) (hb2 : decide (lg_cmp w2 0 = 0) = true) (hb3 : decide (lg_cmp w3 0 = 0) = false) : z_C d mi_X6_endUnwon [.ref 0] μ (fun r μ' => r = none ∧ μ' = eHB (z_ui (z_ui (z_ui (z_ui μ 18 4 ((μ.1 18 4) + 1000)) 26 4 ((μ.1 26 4) + 1000)) 34 4 ((μ.1 34 4) + (-3000))) 42 4 ((μ.1 42 4) + 1000)) (!(decide ((lg_cmp wd 0) = 0))) false (xBk (z_ui (z_ui (z_ui (z_ui μ 18 4 ((μ.1 18 4) + 1000)) 26 4 ((μ.1 26 4) + 1000)) 34 4 ((μ.1 34 4) + (-3000))) 42 4 ((μ.1 42 4) + 1000))) dl e (rcM (z_ui (z_ui (z_ui (z_ui μ 18 4 ((μ.1 18 4) + 1000)) 26 4 ((μ.1 26 4) + 1000)) 34 4 ((μ.1 34 4) + (-3000))) 42 4 ((μ.1 42 4) + 1000)))) := by
  refine z_C_in (by decide) (by omega) (fun d' Z ed hc hr => ?_)
  have hH : zH mi_X6_endUnwon zt_X6_endUnwon 79 6 6 := hh_X6_endUnwon
  refine z_rcs hc hH 9 (pc' := 11) (lv' := [(2, .int 0), (1, .int 0), (0, .ref 0)]) (st' := [.int 0, .ref 0]) (μ' := μ) (by rfl) ?_
  refine zq_call hc (z_cx_ok hH (by rfl)) (gc_at d' (by omega) μ 0 (by decide)) (by decide +kernel) (fun r9 μ9 hq => ?_)
  obtain ⟨hμ9, rfl⟩ := hq
  rw [hμ9]
  clear hμ9 μ9
  show Z 0 14 [(2, .int 0), (1, .int 0), (0, .ref 0)] [.ref 18] μ
  refine zq_gfr hc hH (by rfl) (ci := 1) (f := 0) (q := 19) (by rfl) (by decide +kernel) (by rfl) (by decide +kernel) ?_
  refine zq_call hc (z_cx_ok hH (by rfl)) (hw0 _ (TE_rf _) d' (by omega)) (by decide +kernel) (fun r9 μ9 hq => ?_)
  obtain ⟨hμ9, rfl⟩ := hq
  rw [hμ9]
  clear hμ9 μ9
  show Z 0 20 [(2, .int 0), (1, .int 0), (0, .ref 0)] [.long w0] μ
  refine z_rcs hc hH 2 (pc' := 22) (lv' := [(2, .int 0), (1, .int 0), (0, .ref 0)]) (st' := [.int (lg_cmp w0 0)]) (μ' := μ) (by rfl) ?_
  refine zq_if hc hH (by rfl) (tg := 28) (by rfl) (fun h1 => ?_) (fun h1 => ?_)
  · have h1 : (decide ((lg_cmp w0 0) = 0)) = true := decide_eq_true (cm_eq9.mp h1)
    exact absurd (Eq.trans (Eq.symm (hb0)) h1) (by decide)
  · have h1 : (decide ((lg_cmp w0 0) = 0)) = false := decide_eq_false (cn_eq.mp h1)
    refine z_rcs hc hH 8 (pc' := 11) (lv' := [(2, .int 1), (1, .int 1), (0, .ref 0)]) (st' := [.int 1, .ref 0]) (μ' := μ) (by rfl) ?_
    refine zq_call hc (z_cx_ok hH (by rfl)) (gc_at d' (by omega) μ 1 (by decide)) (by decide +kernel) (fun r9 μ9 hq => ?_)
    obtain ⟨hμ9, rfl⟩ := hq
    rw [hμ9]
    clear hμ9 μ9
    show Z 0 14 [(2, .int 1), (1, .int 1), (0, .ref 0)] [.ref 26] μ
    refine zq_gfr hc hH (by rfl) (ci := 1) (f := 0) (q := 27) (by rfl) (by decide +kernel) (by rfl) (by decide +kernel) ?_
    refine zq_call hc (z_cx_ok hH (by rfl)) (hw1 _ (TE_rf _) d' (by omega)) (by decide +kernel) (fun r9 μ9 hq => ?_)
    obtain ⟨hμ9, rfl⟩ := hq
    rw [hμ9]
    clear hμ9 μ9
    show Z 0 20 [(2, .int 1), (1, .int 1), (0, .ref 0)] [.long w1] μ
    refine z_rcs hc hH 2 (pc' := 22) (lv' := [(2, .int 1), (1, .int 1), (0, .ref 0)]) (st' := [.int (lg_cmp w1 0)]) (μ' := μ) (by rfl) ?_
    refine zq_if hc hH (by rfl) (tg := 28) (by rfl) (fun h2 => ?_) (fun h2 => ?_)
    · have h2 : (decide ((lg_cmp w1 0) = 0)) = true := decide_eq_true (cm_eq9.mp h2)
      exact absurd (Eq.trans (Eq.symm (hb1)) h2) (by decide)
    · have h2 : (decide ((lg_cmp w1 0) = 0)) = false := decide_eq_false (cn_eq.mp h2)
      refine z_rcs hc hH 8 (pc' := 11) (lv' := [(2, .int 2), (1, .int 2), (0, .ref 0)]) (st' := [.int 2, .ref 0]) (μ' := μ) (by rfl) ?_
      refine zq_call hc (z_cx_ok hH (by rfl)) (gc_at d' (by omega) μ 2 (by decide)) (by decide +kernel) (fun r9 μ9 hq => ?_)
      obtain ⟨hμ9, rfl⟩ := hq
      rw [hμ9]
      clear hμ9 μ9
      show Z 0 14 [(2, .int 2), (1, .int 2), (0, .ref 0)] [.ref 34] μ
      refine zq_gfr hc hH (by rfl) (ci := 1) (f := 0) (q := 35) (by rfl) (by decide +kernel) (by rfl) (by decide +kernel) ?_
      refine zq_call hc (z_cx_ok hH (by rfl)) (hw2 _ (TE_rf _) d' (by omega)) (by decide +kernel) (fun r9 μ9 hq => ?_)
      obtain ⟨hμ9, rfl⟩ := hq
      rw [hμ9]
      clear hμ9 μ9
      show Z 0 20 [(2, .int 2), (1, .int 2), (0, .ref 0)] [.long w2] μ
      refine z_rcs hc hH 2 (pc' := 22) (lv' := [(2, .int 2), (1, .int 2), (0, .ref 0)]) (st' := [.int (lg_cmp w2 0)]) (μ' := μ) (by rfl) ?_
      refine zq_if hc hH (by rfl) (tg := 28) (by rfl) (fun h3 => ?_) (fun h3 => ?_)
      · have h3 : (decide ((lg_cmp w2 0) = 0)) = true := decide_eq_true (cm_eq9.mp h3)
        refine z_rcs hc hH 7 (pc' := 11) (lv' := [(2, .int 3), (1, .int 2), (0, .ref 0)]) (st' := [.int 3, .ref 0]) (μ' := μ) (by rfl) ?_
        refine zq_call hc (z_cx_ok hH (by rfl)) (gc_at d' (by omega) μ 3 (by decide)) (by decide +kernel) (fun r9 μ9 hq => ?_)
        obtain ⟨hμ9, rfl⟩ := hq
        rw [hμ9]
        clear hμ9 μ9
        show Z 0 14 [(2, .int 3), (1, .int 2), (0, .ref 0)] [.ref 42] μ
        refine zq_gfr hc hH (by rfl) (ci := 1) (f := 0) (q := 43) (by rfl) (by decide +kernel) (by rfl) (by decide +kernel) ?_
        refine zq_call hc (z_cx_ok hH (by rfl)) (hw3 _ (TE_rf _) d' (by omega)) (by decide +kernel) (fun r9 μ9 hq => ?_)
        obtain ⟨hμ9, rfl⟩ := hq
        rw [hμ9]
        clear hμ9 μ9
        show Z 0 20 [(2, .int 3), (1, .int 2), (0, .ref 0)] [.long w3] μ
        refine z_rcs hc hH 2 (pc' := 22) (lv' := [(2, .int 3), (1, .int 2), (0, .ref 0)]) (st' := [.int (lg_cmp w3 0)]) (μ' := μ) (by rfl) ?_
        refine zq_if hc hH (by rfl) (tg := 28) (by rfl) (fun h4 => ?_) (fun h4 => ?_)
        · have h4 : (decide ((lg_cmp w3 0) = 0)) = true := decide_eq_true (cm_eq9.mp h4)
          exact absurd (Eq.trans (Eq.symm (hb3)) h4) (by decide)
        · have h4 : (decide ((lg_cmp w3 0) = 0)) = false := decide_eq_false (cn_eq.mp h4)
          refine z_rcs hc hH 8 (pc' := 36) (lv' := [(2, .int 4), (1, .int 3), (0, .ref 0)]) (st' := [.ref 0, .ref 0]) (μ' := μ) (by rfl) ?_
          refine zq_gfi hc hH (by rfl) (ci := 5) (f := 9) (by rfl) (by decide +kernel) (by rfl) ?_
          rw [hdl]
          refine zq_call hc (z_cx_ok hH (by rfl)) (gc_at4 d' (by omega) μ dl hdl4) (by decide +kernel) (fun r9 μ9 hq => ?_)
          obtain ⟨hμ9, rfl⟩ := hq
          rw [hμ9]
          clear hμ9 μ9
          show Z 0 42 [(2, .int 4), (1, .int 3), (0, .ref 0)] [.ref (18 + 8 * dl)] μ
          refine zq_gfr hc hH (by rfl) (ci := 1) (f := 0) (q := 19 + 8 * dl) (by rfl) (sj (P := fun i => okf 79 1 0 (18 + 8 * i)) hdl4 (by decide +kernel)) (by rfl) (sj (P := fun i => Nat.beq (z_gr (18 + 8 * i) 0) (19 + 8 * i)) hdl4 (by decide +kernel)) ?_
          refine zq_call hc (z_clv9 hH (by rfl) (by rfl) (by rfl) (by rfl) (sj (P := fun i => okr 79 2 (19 + 8 * i)) hdl4 (by decide +kernel)) (by rfl) (by rfl)) ((hwd _ (TE_rf _) d' (by omega))) (by decide +kernel) (fun r9 μ9 hq => ?_)
          obtain ⟨hμ9, rfl⟩ := hq
          rw [hμ9]
          clear hμ9 μ9
          show Z 0 48 [(2, .int 4), (1, .int 3), (0, .ref 0)] [.long wd] μ
          refine z_rcs hc hH 2 (pc' := 50) (lv' := [(2, .int 4), (1, .int 3), (0, .ref 0)]) (st' := [.int (lg_cmp wd 0)]) (μ' := μ) (by rfl) ?_
          have hJ5 : Z 0 58 [(2, .int 4), (1, .int 3), (0, .ref 0)] [.int (nB (!(decide ((lg_cmp wd 0) = 0))))] μ := by
            refine z_rcs hc hH 23 (pc' := 95) (lv' := [(5, .int 0), (4, .int 3000), (3, .int 1000), (2, .int (nB (!(decide ((lg_cmp wd 0) = 0))))), (1, .int 3), (0, .ref 0)]) (st' := [.int 0, .ref 0]) (μ' := μ) (by rfl) ?_
            refine zq_call hc (z_cx_ok hH (by rfl)) (gc_at d' (by omega) μ 0 (by decide)) (by decide +kernel) (fun r9 μ9 hq => ?_)
            obtain ⟨hμ9, rfl⟩ := hq
            rw [hμ9]
            clear hμ9 μ9
            show Z 0 98 [(5, .int 0), (4, .int 3000), (3, .int 1000), (2, .int (nB (!(decide ((lg_cmp wd 0) = 0))))), (1, .int 3), (0, .ref 0)] [.ref 18] μ
            refine z_rcs hc hH 1 (pc' := 99) (lv' := [(5, .int 0), (4, .int 3000), (3, .int 1000), (2, .int (nB (!(decide ((lg_cmp wd 0) = 0))))), (1, .int 3), (0, .ref 0)]) (st' := [.ref 18, .ref 18]) (μ' := μ) (by rfl) ?_
            refine zq_gfi hc hH (by rfl) (ci := 1) (f := 4) (by rfl) (by decide +kernel) (by rfl) ?_
            refine z_rcs hc hH 2 (pc' := 105) (lv' := [(5, .int 0), (4, .int 3000), (3, .int 1000), (2, .int (nB (!(decide ((lg_cmp wd 0) = 0))))), (1, .int 3), (0, .ref 0)]) (st' := [.int 0, .ref 0, .int (μ.1 18 4), .ref 18]) (μ' := μ) (by rfl) ?_
            refine zq_call hc (z_cx_ok hH (by rfl)) (gc_at d' (by omega) μ 0 (by decide)) (by decide +kernel) (fun r9 μ9 hq => ?_)
            obtain ⟨hμ9, rfl⟩ := hq
            rw [hμ9]
            clear hμ9 μ9
            show Z 0 108 [(5, .int 0), (4, .int 3000), (3, .int 1000), (2, .int (nB (!(decide ((lg_cmp wd 0) = 0))))), (1, .int 3), (0, .ref 0)] [.ref 18, .int (μ.1 18 4), .ref 18] μ
            refine zq_gfr hc hH (by rfl) (ci := 1) (f := 0) (q := 19) (by rfl) (by decide +kernel) (by rfl) (by decide +kernel) ?_
            refine zq_call hc (z_cx_ok hH (by rfl)) (hw0 _ (TE_rf _) d' (by omega)) (by decide +kernel) (fun r9 μ9 hq => ?_)
            obtain ⟨hμ9, rfl⟩ := hq
            rw [hμ9]
            clear hμ9 μ9
            show Z 0 114 [(5, .int 0), (4, .int 3000), (3, .int 1000), (2, .int (nB (!(decide ((lg_cmp wd 0) = 0))))), (1, .int 3), (0, .ref 0)] [.long w0, .int (μ.1 18 4), .ref 18] μ
            refine z_rcs hc hH 2 (pc' := 116) (lv' := [(5, .int 0), (4, .int 3000), (3, .int 1000), (2, .int (nB (!(decide ((lg_cmp wd 0) = 0))))), (1, .int 3), (0, .ref 0)]) (st' := [.int (lg_cmp w0 0), .int (μ.1 18 4), .ref 18]) (μ' := μ) (by rfl) ?_
            refine zq_if hc hH (by rfl) (tg := 123) (by rfl) (fun h6 => ?_) (fun h6 => ?_)
            · have h6 : (decide ((lg_cmp w0 0) = 0)) = true := decide_eq_true (cm_eq9.mp h6)
              exact absurd (Eq.trans (Eq.symm (hb0)) h6) (by decide)
            · have h6 : (decide ((lg_cmp w0 0) = 0)) = false := decide_eq_false (cn_eq.mp h6)
              refine z_rcs hc hH 3 (pc' := 127) (lv' := [(5, .int 0), (4, .int 3000), (3, .int 1000), (2, .int (nB (!(decide ((lg_cmp wd 0) = 0))))), (1, .int 3), (0, .ref 0)]) (st' := [.int ((μ.1 18 4) + 1000), .ref 18]) (μ' := μ) (by rfl) ?_
              refine zq_pfi hc hH (by rfl) (ci := 1) (f := 4) (by rfl) (by decide +kernel) (by rfl) ?_
              show Z 0 130 [(5, .int 0), (4, .int 3000), (3, .int 1000), (2, .int (nB (!(decide ((lg_cmp wd 0) = 0))))), (1, .int 3), (0, .ref 0)] [] (z_ui μ 18 4 ((μ.1 18 4) + 1000))
              refine z_rcs0 hc hH 7 (pc' := 95) (lv' := [(5, .int 1), (4, .int 3000), (3, .int 1000), (2, .int (nB (!(decide ((lg_cmp wd 0) = 0))))), (1, .int 3), (0, .ref 0)]) (st' := [.int 1, .ref 0]) (by rfl) ?_
              refine zq_call hc (z_cx_ok hH (by rfl)) (gc_at d' (by omega) (z_ui μ 18 4 ((μ.1 18 4) + 1000)) 1 (by decide)) (by decide +kernel) (fun r9 μ9 hq => ?_)
              obtain ⟨hμ9, rfl⟩ := hq
              rw [hμ9]
              clear hμ9 μ9
              show Z 0 98 [(5, .int 1), (4, .int 3000), (3, .int 1000), (2, .int (nB (!(decide ((lg_cmp wd 0) = 0))))), (1, .int 3), (0, .ref 0)] [.ref 26] _
              refine z_rcs0 hc hH 1 (pc' := 99) (lv' := [(5, .int 1), (4, .int 3000), (3, .int 1000), (2, .int (nB (!(decide ((lg_cmp wd 0) = 0))))), (1, .int 3), (0, .ref 0)]) (st' := [.ref 26, .ref 26]) (by rfl) ?_
              refine zq_gfi hc hH (by rfl) (ci := 1) (f := 4) (by rfl) (by decide +kernel) (by rfl) ?_
              refine zV1 (Z := Z) (ui_o (by first | decide | omega)) ?_
              refine z_rcs0 hc hH 2 (pc' := 105) (lv' := [(5, .int 1), (4, .int 3000), (3, .int 1000), (2, .int (nB (!(decide ((lg_cmp wd 0) = 0))))), (1, .int 3), (0, .ref 0)]) (st' := [.int 1, .ref 0, .int (μ.1 26 4), .ref 26]) (by rfl) ?_
              refine zq_call hc (z_cx_ok hH (by rfl)) (gc_at d' (by omega) (z_ui μ 18 4 ((μ.1 18 4) + 1000)) 1 (by decide)) (by decide +kernel) (fun r9 μ9 hq => ?_)
              obtain ⟨hμ9, rfl⟩ := hq
              rw [hμ9]
              clear hμ9 μ9
              show Z 0 108 [(5, .int 1), (4, .int 3000), (3, .int 1000), (2, .int (nB (!(decide ((lg_cmp wd 0) = 0))))), (1, .int 3), (0, .ref 0)] [.ref 26, .int (μ.1 26 4), .ref 26] _
              refine zq_gfr hc hH (by rfl) (ci := 1) (f := 0) (q := 27) (by rfl) (by decide +kernel) (by rfl) (by decide +kernel) ?_
              refine zq_call hc (z_cx_ok hH (by rfl)) (hw1 _ (TE_ui (TE_rf _) (by intro i a hi h1 h2; omega)) d' (by omega)) (by decide +kernel) (fun r9 μ9 hq => ?_)
              obtain ⟨hμ9, rfl⟩ := hq
              rw [hμ9]
              clear hμ9 μ9
              show Z 0 114 [(5, .int 1), (4, .int 3000), (3, .int 1000), (2, .int (nB (!(decide ((lg_cmp wd 0) = 0))))), (1, .int 3), (0, .ref 0)] [.long w1, .int (μ.1 26 4), .ref 26] _
              refine z_rcs0 hc hH 2 (pc' := 116) (lv' := [(5, .int 1), (4, .int 3000), (3, .int 1000), (2, .int (nB (!(decide ((lg_cmp wd 0) = 0))))), (1, .int 3), (0, .ref 0)]) (st' := [.int (lg_cmp w1 0), .int (μ.1 26 4), .ref 26]) (by rfl) ?_
              refine zq_if hc hH (by rfl) (tg := 123) (by rfl) (fun h7 => ?_) (fun h7 => ?_)
              · have h7 : (decide ((lg_cmp w1 0) = 0)) = true := decide_eq_true (cm_eq9.mp h7)
                exact absurd (Eq.trans (Eq.symm (hb1)) h7) (by decide)
              · have h7 : (decide ((lg_cmp w1 0) = 0)) = false := decide_eq_false (cn_eq.mp h7)
                refine z_rcs0 hc hH 3 (pc' := 127) (lv' := [(5, .int 1), (4, .int 3000), (3, .int 1000), (2, .int (nB (!(decide ((lg_cmp wd 0) = 0))))), (1, .int 3), (0, .ref 0)]) (st' := [.int ((μ.1 26 4) + 1000), .ref 26]) (by rfl) ?_
                refine zq_pfi hc hH (by rfl) (ci := 1) (f := 4) (by rfl) (by decide +kernel) (by rfl) ?_
                show Z 0 130 [(5, .int 1), (4, .int 3000), (3, .int 1000), (2, .int (nB (!(decide ((lg_cmp wd 0) = 0))))), (1, .int 3), (0, .ref 0)] [] (z_ui (z_ui μ 18 4 ((μ.1 18 4) + 1000)) 26 4 ((μ.1 26 4) + 1000))
                refine z_rcs0 hc hH 7 (pc' := 95) (lv' := [(5, .int 2), (4, .int 3000), (3, .int 1000), (2, .int (nB (!(decide ((lg_cmp wd 0) = 0))))), (1, .int 3), (0, .ref 0)]) (st' := [.int 2, .ref 0]) (by rfl) ?_
                refine zq_call hc (z_cx_ok hH (by rfl)) (gc_at d' (by omega) (z_ui (z_ui μ 18 4 ((μ.1 18 4) + 1000)) 26 4 ((μ.1 26 4) + 1000)) 2 (by decide)) (by decide +kernel) (fun r9 μ9 hq => ?_)
                obtain ⟨hμ9, rfl⟩ := hq
                rw [hμ9]
                clear hμ9 μ9
                show Z 0 98 [(5, .int 2), (4, .int 3000), (3, .int 1000), (2, .int (nB (!(decide ((lg_cmp wd 0) = 0))))), (1, .int 3), (0, .ref 0)] [.ref 34] _
                refine z_rcs0 hc hH 1 (pc' := 99) (lv' := [(5, .int 2), (4, .int 3000), (3, .int 1000), (2, .int (nB (!(decide ((lg_cmp wd 0) = 0))))), (1, .int 3), (0, .ref 0)]) (st' := [.ref 34, .ref 34]) (by rfl) ?_
                refine zq_gfi hc hH (by rfl) (ci := 1) (f := 4) (by rfl) (by decide +kernel) (by rfl) ?_
                refine zV1 (Z := Z) (Eq.trans (ui_o (by first | decide | omega)) (ui_o (by first | decide | omega))) ?_
                refine z_rcs0 hc hH 2 (pc' := 105) (lv' := [(5, .int 2), (4, .int 3000), (3, .int 1000), (2, .int (nB (!(decide ((lg_cmp wd 0) = 0))))), (1, .int 3), (0, .ref 0)]) (st' := [.int 2, .ref 0, .int (μ.1 34 4), .ref 34]) (by rfl) ?_
                refine zq_call hc (z_cx_ok hH (by rfl)) (gc_at d' (by omega) (z_ui (z_ui μ 18 4 ((μ.1 18 4) + 1000)) 26 4 ((μ.1 26 4) + 1000)) 2 (by decide)) (by decide +kernel) (fun r9 μ9 hq => ?_)
                obtain ⟨hμ9, rfl⟩ := hq
                rw [hμ9]
                clear hμ9 μ9
                show Z 0 108 [(5, .int 2), (4, .int 3000), (3, .int 1000), (2, .int (nB (!(decide ((lg_cmp wd 0) = 0))))), (1, .int 3), (0, .ref 0)] [.ref 34, .int (μ.1 34 4), .ref 34] _
                refine zq_gfr hc hH (by rfl) (ci := 1) (f := 0) (q := 35) (by rfl) (by decide +kernel) (by rfl) (by decide +kernel) ?_
                refine zq_call hc (z_cx_ok hH (by rfl)) (hw2 _ (TE_ui (TE_ui (TE_rf _) (by intro i a hi h1 h2; omega)) (by intro i a hi h1 h2; omega)) d' (by omega)) (by decide +kernel) (fun r9 μ9 hq => ?_)
                obtain ⟨hμ9, rfl⟩ := hq
                rw [hμ9]
                clear hμ9 μ9
                show Z 0 114 [(5, .int 2), (4, .int 3000), (3, .int 1000), (2, .int (nB (!(decide ((lg_cmp wd 0) = 0))))), (1, .int 3), (0, .ref 0)] [.long w2, .int (μ.1 34 4), .ref 34] _
                refine z_rcs0 hc hH 2 (pc' := 116) (lv' := [(5, .int 2), (4, .int 3000), (3, .int 1000), (2, .int (nB (!(decide ((lg_cmp wd 0) = 0))))), (1, .int 3), (0, .ref 0)]) (st' := [.int (lg_cmp w2 0), .int (μ.1 34 4), .ref 34]) (by rfl) ?_
                refine zq_if hc hH (by rfl) (tg := 123) (by rfl) (fun h8 => ?_) (fun h8 => ?_)
                · have h8 : (decide ((lg_cmp w2 0) = 0)) = true := decide_eq_true (cm_eq9.mp h8)
                  refine z_rcs0 hc hH 3 (pc' := 127) (lv' := [(5, .int 2), (4, .int 3000), (3, .int 1000), (2, .int (nB (!(decide ((lg_cmp wd 0) = 0))))), (1, .int 3), (0, .ref 0)]) (st' := [.int ((μ.1 34 4) + (-3000)), .ref 34]) (by rfl) ?_
                  refine zq_pfi hc hH (by rfl) (ci := 1) (f := 4) (by rfl) (by decide +kernel) (by rfl) ?_
                  show Z 0 130 [(5, .int 2), (4, .int 3000), (3, .int 1000), (2, .int (nB (!(decide ((lg_cmp wd 0) = 0))))), (1, .int 3), (0, .ref 0)] [] (z_ui (z_ui (z_ui μ 18 4 ((μ.1 18 4) + 1000)) 26 4 ((μ.1 26 4) + 1000)) 34 4 ((μ.1 34 4) + (-3000)))
                  refine z_rcs0 hc hH 7 (pc' := 95) (lv' := [(5, .int 3), (4, .int 3000), (3, .int 1000), (2, .int (nB (!(decide ((lg_cmp wd 0) = 0))))), (1, .int 3), (0, .ref 0)]) (st' := [.int 3, .ref 0]) (by rfl) ?_
                  refine zq_call hc (z_cx_ok hH (by rfl)) (gc_at d' (by omega) (z_ui (z_ui (z_ui μ 18 4 ((μ.1 18 4) + 1000)) 26 4 ((μ.1 26 4) + 1000)) 34 4 ((μ.1 34 4) + (-3000))) 3 (by decide)) (by decide +kernel) (fun r9 μ9 hq => ?_)
                  obtain ⟨hμ9, rfl⟩ := hq
                  rw [hμ9]
                  clear hμ9 μ9
                  show Z 0 98 [(5, .int 3), (4, .int 3000), (3, .int 1000), (2, .int (nB (!(decide ((lg_cmp wd 0) = 0))))), (1, .int 3), (0, .ref 0)] [.ref 42] _
                  refine z_rcs0 hc hH 1 (pc' := 99) (lv' := [(5, .int 3), (4, .int 3000), (3, .int 1000), (2, .int (nB (!(decide ((lg_cmp wd 0) = 0))))), (1, .int 3), (0, .ref 0)]) (st' := [.ref 42, .ref 42]) (by rfl) ?_
                  refine zq_gfi hc hH (by rfl) (ci := 1) (f := 4) (by rfl) (by decide +kernel) (by rfl) ?_
                  refine zV1 (Z := Z) (Eq.trans (ui_o (by first | decide | omega)) (Eq.trans (ui_o (by first | decide | omega)) (ui_o (by first | decide | omega)))) ?_
                  refine z_rcs0 hc hH 2 (pc' := 105) (lv' := [(5, .int 3), (4, .int 3000), (3, .int 1000), (2, .int (nB (!(decide ((lg_cmp wd 0) = 0))))), (1, .int 3), (0, .ref 0)]) (st' := [.int 3, .ref 0, .int (μ.1 42 4), .ref 42]) (by rfl) ?_
                  refine zq_call hc (z_cx_ok hH (by rfl)) (gc_at d' (by omega) (z_ui (z_ui (z_ui μ 18 4 ((μ.1 18 4) + 1000)) 26 4 ((μ.1 26 4) + 1000)) 34 4 ((μ.1 34 4) + (-3000))) 3 (by decide)) (by decide +kernel) (fun r9 μ9 hq => ?_)
                  obtain ⟨hμ9, rfl⟩ := hq
                  rw [hμ9]
                  clear hμ9 μ9
                  show Z 0 108 [(5, .int 3), (4, .int 3000), (3, .int 1000), (2, .int (nB (!(decide ((lg_cmp wd 0) = 0))))), (1, .int 3), (0, .ref 0)] [.ref 42, .int (μ.1 42 4), .ref 42] _
                  refine zq_gfr hc hH (by rfl) (ci := 1) (f := 0) (q := 43) (by rfl) (by decide +kernel) (by rfl) (by decide +kernel) ?_
                  refine zq_call hc (z_cx_ok hH (by rfl)) (hw3 _ (TE_ui (TE_ui (TE_ui (TE_rf _) (by intro i a hi h1 h2; omega)) (by intro i a hi h1 h2; omega)) (by intro i a hi h1 h2; omega)) d' (by omega)) (by decide +kernel) (fun r9 μ9 hq => ?_)
                  obtain ⟨hμ9, rfl⟩ := hq
                  rw [hμ9]
                  clear hμ9 μ9
                  show Z 0 114 [(5, .int 3), (4, .int 3000), (3, .int 1000), (2, .int (nB (!(decide ((lg_cmp wd 0) = 0))))), (1, .int 3), (0, .ref 0)] [.long w3, .int (μ.1 42 4), .ref 42] _
                  refine z_rcs0 hc hH 2 (pc' := 116) (lv' := [(5, .int 3), (4, .int 3000), (3, .int 1000), (2, .int (nB (!(decide ((lg_cmp wd 0) = 0))))), (1, .int 3), (0, .ref 0)]) (st' := [.int (lg_cmp w3 0), .int (μ.1 42 4), .ref 42]) (by rfl) ?_
                  refine zq_if hc hH (by rfl) (tg := 123) (by rfl) (fun h9 => ?_) (fun h9 => ?_)
                  · have h9 : (decide ((lg_cmp w3 0) = 0)) = true := decide_eq_true (cm_eq9.mp h9)
                    exact absurd (Eq.trans (Eq.symm (hb3)) h9) (by decide)
                  · have h9 : (decide ((lg_cmp w3 0) = 0)) = false := decide_eq_false (cn_eq.mp h9)
                    refine z_rcs0 hc hH 3 (pc' := 127) (lv' := [(5, .int 3), (4, .int 3000), (3, .int 1000), (2, .int (nB (!(decide ((lg_cmp wd 0) = 0))))), (1, .int 3), (0, .ref 0)]) (st' := [.int ((μ.1 42 4) + 1000), .ref 42]) (by rfl) ?_
                    refine zq_pfi hc hH (by rfl) (ci := 1) (f := 4) (by rfl) (by decide +kernel) (by rfl) ?_
                    show Z 0 130 [(5, .int 3), (4, .int 3000), (3, .int 1000), (2, .int (nB (!(decide ((lg_cmp wd 0) = 0))))), (1, .int 3), (0, .ref 0)] [] (z_ui (z_ui (z_ui (z_ui μ 18 4 ((μ.1 18 4) + 1000)) 26 4 ((μ.1 26 4) + 1000)) 34 4 ((μ.1 34 4) + (-3000))) 42 4 ((μ.1 42 4) + 1000))
                    refine z_rcs0 hc hH 8 (pc' := 139) (lv' := [(5, .int 4), (4, .int 3000), (3, .int 1000), (2, .int (nB (!(decide ((lg_cmp wd 0) = 0))))), (1, .int 3), (0, .ref 0)]) (st' := [.int 0, .int (nB (!(decide ((lg_cmp wd 0) = 0)))), .ref 0]) (by rfl) ?_
                    refine zq_call hc (z_cx_ok hH (by rfl)) (gc_endHandB d' (by omega) (z_ui (z_ui (z_ui (z_ui μ 18 4 ((μ.1 18 4) + 1000)) 26 4 ((μ.1 26 4) + 1000)) 34 4 ((μ.1 34 4) + (-3000))) 42 4 ((μ.1 42 4) + 1000)) (!(decide ((lg_cmp wd 0) = 0))) false dl e (by rw [ui_o (by first | decide | omega), ui_o (by first | decide | omega), ui_o (by first | decide | omega), ui_o (by first | decide | omega)]; exact hdl) hdl4 he) (by decide +kernel) (fun r9 μ9 hq => ?_)
                    obtain ⟨rfl, rfl⟩ := hq
                    show Z 0 142 [(5, .int 4), (4, .int 3000), (3, .int 1000), (2, .int (nB (!(decide ((lg_cmp wd 0) = 0))))), (1, .int 3), (0, .ref 0)] [] (eHB (z_ui (z_ui (z_ui (z_ui μ 18 4 ((μ.1 18 4) + 1000)) 26 4 ((μ.1 26 4) + 1000)) 34 4 ((μ.1 34 4) + (-3000))) 42 4 ((μ.1 42 4) + 1000)) (!(decide ((lg_cmp wd 0) = 0))) false (xBk (z_ui (z_ui (z_ui (z_ui μ 18 4 ((μ.1 18 4) + 1000)) 26 4 ((μ.1 26 4) + 1000)) 34 4 ((μ.1 34 4) + (-3000))) 42 4 ((μ.1 42 4) + 1000))) dl e (rcM (z_ui (z_ui (z_ui (z_ui μ 18 4 ((μ.1 18 4) + 1000)) 26 4 ((μ.1 26 4) + 1000)) 34 4 ((μ.1 34 4) + (-3000))) 42 4 ((μ.1 42 4) + 1000))))
                    exact hr 0 142 _ _ _ none (by decide +kernel) (by rfl) (⟨rfl, rfl⟩)
                · have h8 : (decide ((lg_cmp w2 0) = 0)) = false := decide_eq_false (cn_eq.mp h8)
                  exact absurd (Eq.trans (Eq.symm (hb2)) h8) (by decide)
          refine zq_if hc hH (by rfl) (tg := 57) (by rfl) (fun h10 => ?_) (fun h10 => ?_)
          · have h10 : (decide ((lg_cmp wd 0) = 0)) = true := decide_eq_true (cm_eq9.mp h10)
            refine z_rcs hc hH 1 (pc' := 58) (lv' := [(2, .int 4), (1, .int 3), (0, .ref 0)]) (st' := [.int 0]) (μ' := μ) (by rfl) ?_
            exact zJ hJ5 rfl (by first | with_reducible rfl | (simp only [h10, lb_f, Int64.or_zero, Int32.add_zero, nB_t, nB_f, Bool.not_true, Bool.not_false, Bool.and_true, Bool.true_and, Bool.false_and, Bool.and_false, Bool.or_true, Bool.true_or, Bool.false_or, Bool.or_false, cond_true, cond_false]; done) | rfl) rfl
          · have h10 : (decide ((lg_cmp wd 0) = 0)) = false := decide_eq_false (cn_eq.mp h10)
            refine z_rcs hc hH 2 (pc' := 58) (lv' := [(2, .int 4), (1, .int 3), (0, .ref 0)]) (st' := [.int 1]) (μ' := μ) (by rfl) ?_
            exact zJ hJ5 rfl (by first | with_reducible rfl | (simp only [h10, lb_f, Int64.or_zero, Int32.add_zero, nB_t, nB_f, Bool.not_true, Bool.not_false, Bool.and_true, Bool.true_and, Bool.false_and, Bool.and_false, Bool.or_true, Bool.true_or, Bool.false_or, Bool.or_false, cond_true, cond_false]; done) | rfl) rfl
      · have h3 : (decide ((lg_cmp w2 0) = 0)) = false := decide_eq_false (cn_eq.mp h3)
        exact absurd (Eq.trans (Eq.symm (hb2)) h3) (by decide)
theorem gc_endUnwon1110 (d : Nat) (hd : 8 ≤ d) (μ : zM) (dl e : Nat) (hdl : μ.1 0 9 = nI dl) (hdl4 : dl < 4) (he : (dl + 1) % 4 = e) (w0 : Int64) (hw0 : ∀ μ1, TE μ μ1 → ∀ d, 7 ≤ d → z_C d mi_X3_waiting [.ref 19] μ1 (zR μ1 (.long w0))) (w1 : Int64) (hw1 : ∀ μ1, TE μ μ1 → ∀ d, 7 ≤ d → z_C d mi_X3_waiting [.ref 27] μ1 (zR μ1 (.long w1))) (w2 : Int64) (hw2 : ∀ μ1, TE μ μ1 → ∀ d, 7 ≤ d → z_C d mi_X3_waiting [.ref 35] μ1 (zR μ1 (.long w2))) (w3 : Int64) (hw3 : ∀ μ1, TE μ μ1 → ∀ d, 7 ≤ d → z_C d mi_X3_waiting [.ref 43] μ1 (zR μ1 (.long w3))) (wd : Int64) (hwd : ∀ μ1, TE μ μ1 → ∀ d, 7 ≤ d → z_C d mi_X3_waiting [.ref (19 + 8 * dl)] μ1 (zR μ1 (.long wd))) (hb0 : decide (lg_cmp w0 0 = 0) = false) (hb1 : decide (lg_cmp w1 0 = 0) = false) (hb2 : decide (lg_cmp w2 0 = 0) = false) (hb3 : decide (lg_cmp w3 0 = 0) = true) : z_C d mi_X6_endUnwon [.ref 0] μ (fun r μ' => r = none ∧ μ' = eHB (z_ui (z_ui (z_ui (z_ui μ 18 4 ((μ.1 18 4) + 1000)) 26 4 ((μ.1 26 4) + 1000)) 34 4 ((μ.1 34 4) + 1000)) 42 4 ((μ.1 42 4) + (-3000))) (!(decide ((lg_cmp wd 0) = 0))) false (xBk (z_ui (z_ui (z_ui (z_ui μ 18 4 ((μ.1 18 4) + 1000)) 26 4 ((μ.1 26 4) + 1000)) 34 4 ((μ.1 34 4) + 1000)) 42 4 ((μ.1 42 4) + (-3000)))) dl e (rcM (z_ui (z_ui (z_ui (z_ui μ 18 4 ((μ.1 18 4) + 1000)) 26 4 ((μ.1 26 4) + 1000)) 34 4 ((μ.1 34 4) + 1000)) 42 4 ((μ.1 42 4) + (-3000))))) := by
  refine z_C_in (by decide) (by omega) (fun d' Z ed hc hr => ?_)
  have hH : zH mi_X6_endUnwon zt_X6_endUnwon 79 6 6 := hh_X6_endUnwon
  refine z_rcs hc hH 9 (pc' := 11) (lv' := [(2, .int 0), (1, .int 0), (0, .ref 0)]) (st' := [.int 0, .ref 0]) (μ' := μ) (by rfl) ?_
  refine zq_call hc (z_cx_ok hH (by rfl)) (gc_at d' (by omega) μ 0 (by decide)) (by decide +kernel) (fun r9 μ9 hq => ?_)
  obtain ⟨hμ9, rfl⟩ := hq
  rw [hμ9]
  clear hμ9 μ9
  show Z 0 14 [(2, .int 0), (1, .int 0), (0, .ref 0)] [.ref 18] μ
  refine zq_gfr hc hH (by rfl) (ci := 1) (f := 0) (q := 19) (by rfl) (by decide +kernel) (by rfl) (by decide +kernel) ?_
  refine zq_call hc (z_cx_ok hH (by rfl)) (hw0 _ (TE_rf _) d' (by omega)) (by decide +kernel) (fun r9 μ9 hq => ?_)
  obtain ⟨hμ9, rfl⟩ := hq
  rw [hμ9]
  clear hμ9 μ9
  show Z 0 20 [(2, .int 0), (1, .int 0), (0, .ref 0)] [.long w0] μ
  refine z_rcs hc hH 2 (pc' := 22) (lv' := [(2, .int 0), (1, .int 0), (0, .ref 0)]) (st' := [.int (lg_cmp w0 0)]) (μ' := μ) (by rfl) ?_
  refine zq_if hc hH (by rfl) (tg := 28) (by rfl) (fun h1 => ?_) (fun h1 => ?_)
  · have h1 : (decide ((lg_cmp w0 0) = 0)) = true := decide_eq_true (cm_eq9.mp h1)
    exact absurd (Eq.trans (Eq.symm (hb0)) h1) (by decide)
  · have h1 : (decide ((lg_cmp w0 0) = 0)) = false := decide_eq_false (cn_eq.mp h1)
    refine z_rcs hc hH 8 (pc' := 11) (lv' := [(2, .int 1), (1, .int 1), (0, .ref 0)]) (st' := [.int 1, .ref 0]) (μ' := μ) (by rfl) ?_
    refine zq_call hc (z_cx_ok hH (by rfl)) (gc_at d' (by omega) μ 1 (by decide)) (by decide +kernel) (fun r9 μ9 hq => ?_)
    obtain ⟨hμ9, rfl⟩ := hq
    rw [hμ9]
    clear hμ9 μ9
    show Z 0 14 [(2, .int 1), (1, .int 1), (0, .ref 0)] [.ref 26] μ
    refine zq_gfr hc hH (by rfl) (ci := 1) (f := 0) (q := 27) (by rfl) (by decide +kernel) (by rfl) (by decide +kernel) ?_
    refine zq_call hc (z_cx_ok hH (by rfl)) (hw1 _ (TE_rf _) d' (by omega)) (by decide +kernel) (fun r9 μ9 hq => ?_)
    obtain ⟨hμ9, rfl⟩ := hq
    rw [hμ9]
    clear hμ9 μ9
    show Z 0 20 [(2, .int 1), (1, .int 1), (0, .ref 0)] [.long w1] μ
    refine z_rcs hc hH 2 (pc' := 22) (lv' := [(2, .int 1), (1, .int 1), (0, .ref 0)]) (st' := [.int (lg_cmp w1 0)]) (μ' := μ) (by rfl) ?_
    refine zq_if hc hH (by rfl) (tg := 28) (by rfl) (fun h2 => ?_) (fun h2 => ?_)
    · have h2 : (decide ((lg_cmp w1 0) = 0)) = true := decide_eq_true (cm_eq9.mp h2)
      exact absurd (Eq.trans (Eq.symm (hb1)) h2) (by decide)
    · have h2 : (decide ((lg_cmp w1 0) = 0)) = false := decide_eq_false (cn_eq.mp h2)
      refine z_rcs hc hH 8 (pc' := 11) (lv' := [(2, .int 2), (1, .int 2), (0, .ref 0)]) (st' := [.int 2, .ref 0]) (μ' := μ) (by rfl) ?_
      refine zq_call hc (z_cx_ok hH (by rfl)) (gc_at d' (by omega) μ 2 (by decide)) (by decide +kernel) (fun r9 μ9 hq => ?_)
      obtain ⟨hμ9, rfl⟩ := hq
      rw [hμ9]
      clear hμ9 μ9
      show Z 0 14 [(2, .int 2), (1, .int 2), (0, .ref 0)] [.ref 34] μ
      refine zq_gfr hc hH (by rfl) (ci := 1) (f := 0) (q := 35) (by rfl) (by decide +kernel) (by rfl) (by decide +kernel) ?_
      refine zq_call hc (z_cx_ok hH (by rfl)) (hw2 _ (TE_rf _) d' (by omega)) (by decide +kernel) (fun r9 μ9 hq => ?_)
      obtain ⟨hμ9, rfl⟩ := hq
      rw [hμ9]
      clear hμ9 μ9
      show Z 0 20 [(2, .int 2), (1, .int 2), (0, .ref 0)] [.long w2] μ
      refine z_rcs hc hH 2 (pc' := 22) (lv' := [(2, .int 2), (1, .int 2), (0, .ref 0)]) (st' := [.int (lg_cmp w2 0)]) (μ' := μ) (by rfl) ?_
      refine zq_if hc hH (by rfl) (tg := 28) (by rfl) (fun h3 => ?_) (fun h3 => ?_)
      · have h3 : (decide ((lg_cmp w2 0) = 0)) = true := decide_eq_true (cm_eq9.mp h3)
        exact absurd (Eq.trans (Eq.symm (hb2)) h3) (by decide)
      · have h3 : (decide ((lg_cmp w2 0) = 0)) = false := decide_eq_false (cn_eq.mp h3)
        refine z_rcs hc hH 8 (pc' := 11) (lv' := [(2, .int 3), (1, .int 3), (0, .ref 0)]) (st' := [.int 3, .ref 0]) (μ' := μ) (by rfl) ?_
        refine zq_call hc (z_cx_ok hH (by rfl)) (gc_at d' (by omega) μ 3 (by decide)) (by decide +kernel) (fun r9 μ9 hq => ?_)
        obtain ⟨hμ9, rfl⟩ := hq
        rw [hμ9]
        clear hμ9 μ9
        show Z 0 14 [(2, .int 3), (1, .int 3), (0, .ref 0)] [.ref 42] μ
        refine zq_gfr hc hH (by rfl) (ci := 1) (f := 0) (q := 43) (by rfl) (by decide +kernel) (by rfl) (by decide +kernel) ?_
        refine zq_call hc (z_cx_ok hH (by rfl)) (hw3 _ (TE_rf _) d' (by omega)) (by decide +kernel) (fun r9 μ9 hq => ?_)
        obtain ⟨hμ9, rfl⟩ := hq
        rw [hμ9]
        clear hμ9 μ9
        show Z 0 20 [(2, .int 3), (1, .int 3), (0, .ref 0)] [.long w3] μ
        refine z_rcs hc hH 2 (pc' := 22) (lv' := [(2, .int 3), (1, .int 3), (0, .ref 0)]) (st' := [.int (lg_cmp w3 0)]) (μ' := μ) (by rfl) ?_
        refine zq_if hc hH (by rfl) (tg := 28) (by rfl) (fun h4 => ?_) (fun h4 => ?_)
        · have h4 : (decide ((lg_cmp w3 0) = 0)) = true := decide_eq_true (cm_eq9.mp h4)
          refine z_rcs hc hH 7 (pc' := 36) (lv' := [(2, .int 4), (1, .int 3), (0, .ref 0)]) (st' := [.ref 0, .ref 0]) (μ' := μ) (by rfl) ?_
          refine zq_gfi hc hH (by rfl) (ci := 5) (f := 9) (by rfl) (by decide +kernel) (by rfl) ?_
          rw [hdl]
          refine zq_call hc (z_cx_ok hH (by rfl)) (gc_at4 d' (by omega) μ dl hdl4) (by decide +kernel) (fun r9 μ9 hq => ?_)
          obtain ⟨hμ9, rfl⟩ := hq
          rw [hμ9]
          clear hμ9 μ9
          show Z 0 42 [(2, .int 4), (1, .int 3), (0, .ref 0)] [.ref (18 + 8 * dl)] μ
          refine zq_gfr hc hH (by rfl) (ci := 1) (f := 0) (q := 19 + 8 * dl) (by rfl) (sj (P := fun i => okf 79 1 0 (18 + 8 * i)) hdl4 (by decide +kernel)) (by rfl) (sj (P := fun i => Nat.beq (z_gr (18 + 8 * i) 0) (19 + 8 * i)) hdl4 (by decide +kernel)) ?_
          refine zq_call hc (z_clv9 hH (by rfl) (by rfl) (by rfl) (by rfl) (sj (P := fun i => okr 79 2 (19 + 8 * i)) hdl4 (by decide +kernel)) (by rfl) (by rfl)) ((hwd _ (TE_rf _) d' (by omega))) (by decide +kernel) (fun r9 μ9 hq => ?_)
          obtain ⟨hμ9, rfl⟩ := hq
          rw [hμ9]
          clear hμ9 μ9
          show Z 0 48 [(2, .int 4), (1, .int 3), (0, .ref 0)] [.long wd] μ
          refine z_rcs hc hH 2 (pc' := 50) (lv' := [(2, .int 4), (1, .int 3), (0, .ref 0)]) (st' := [.int (lg_cmp wd 0)]) (μ' := μ) (by rfl) ?_
          have hJ5 : Z 0 58 [(2, .int 4), (1, .int 3), (0, .ref 0)] [.int (nB (!(decide ((lg_cmp wd 0) = 0))))] μ := by
            refine z_rcs hc hH 23 (pc' := 95) (lv' := [(5, .int 0), (4, .int 3000), (3, .int 1000), (2, .int (nB (!(decide ((lg_cmp wd 0) = 0))))), (1, .int 3), (0, .ref 0)]) (st' := [.int 0, .ref 0]) (μ' := μ) (by rfl) ?_
            refine zq_call hc (z_cx_ok hH (by rfl)) (gc_at d' (by omega) μ 0 (by decide)) (by decide +kernel) (fun r9 μ9 hq => ?_)
            obtain ⟨hμ9, rfl⟩ := hq
            rw [hμ9]
            clear hμ9 μ9
            show Z 0 98 [(5, .int 0), (4, .int 3000), (3, .int 1000), (2, .int (nB (!(decide ((lg_cmp wd 0) = 0))))), (1, .int 3), (0, .ref 0)] [.ref 18] μ
            refine z_rcs hc hH 1 (pc' := 99) (lv' := [(5, .int 0), (4, .int 3000), (3, .int 1000), (2, .int (nB (!(decide ((lg_cmp wd 0) = 0))))), (1, .int 3), (0, .ref 0)]) (st' := [.ref 18, .ref 18]) (μ' := μ) (by rfl) ?_
            refine zq_gfi hc hH (by rfl) (ci := 1) (f := 4) (by rfl) (by decide +kernel) (by rfl) ?_
            refine z_rcs hc hH 2 (pc' := 105) (lv' := [(5, .int 0), (4, .int 3000), (3, .int 1000), (2, .int (nB (!(decide ((lg_cmp wd 0) = 0))))), (1, .int 3), (0, .ref 0)]) (st' := [.int 0, .ref 0, .int (μ.1 18 4), .ref 18]) (μ' := μ) (by rfl) ?_
            refine zq_call hc (z_cx_ok hH (by rfl)) (gc_at d' (by omega) μ 0 (by decide)) (by decide +kernel) (fun r9 μ9 hq => ?_)
            obtain ⟨hμ9, rfl⟩ := hq
            rw [hμ9]
            clear hμ9 μ9
            show Z 0 108 [(5, .int 0), (4, .int 3000), (3, .int 1000), (2, .int (nB (!(decide ((lg_cmp wd 0) = 0))))), (1, .int 3), (0, .ref 0)] [.ref 18, .int (μ.1 18 4), .ref 18] μ
            refine zq_gfr hc hH (by rfl) (ci := 1) (f := 0) (q := 19) (by rfl) (by decide +kernel) (by rfl) (by decide +kernel) ?_
            refine zq_call hc (z_cx_ok hH (by rfl)) (hw0 _ (TE_rf _) d' (by omega)) (by decide +kernel) (fun r9 μ9 hq => ?_)
            obtain ⟨hμ9, rfl⟩ := hq
            rw [hμ9]
            clear hμ9 μ9
            show Z 0 114 [(5, .int 0), (4, .int 3000), (3, .int 1000), (2, .int (nB (!(decide ((lg_cmp wd 0) = 0))))), (1, .int 3), (0, .ref 0)] [.long w0, .int (μ.1 18 4), .ref 18] μ
            refine z_rcs hc hH 2 (pc' := 116) (lv' := [(5, .int 0), (4, .int 3000), (3, .int 1000), (2, .int (nB (!(decide ((lg_cmp wd 0) = 0))))), (1, .int 3), (0, .ref 0)]) (st' := [.int (lg_cmp w0 0), .int (μ.1 18 4), .ref 18]) (μ' := μ) (by rfl) ?_
            refine zq_if hc hH (by rfl) (tg := 123) (by rfl) (fun h6 => ?_) (fun h6 => ?_)
            · have h6 : (decide ((lg_cmp w0 0) = 0)) = true := decide_eq_true (cm_eq9.mp h6)
              exact absurd (Eq.trans (Eq.symm (hb0)) h6) (by decide)
            · have h6 : (decide ((lg_cmp w0 0) = 0)) = false := decide_eq_false (cn_eq.mp h6)
              refine z_rcs hc hH 3 (pc' := 127) (lv' := [(5, .int 0), (4, .int 3000), (3, .int 1000), (2, .int (nB (!(decide ((lg_cmp wd 0) = 0))))), (1, .int 3), (0, .ref 0)]) (st' := [.int ((μ.1 18 4) + 1000), .ref 18]) (μ' := μ) (by rfl) ?_
              refine zq_pfi hc hH (by rfl) (ci := 1) (f := 4) (by rfl) (by decide +kernel) (by rfl) ?_
              show Z 0 130 [(5, .int 0), (4, .int 3000), (3, .int 1000), (2, .int (nB (!(decide ((lg_cmp wd 0) = 0))))), (1, .int 3), (0, .ref 0)] [] (z_ui μ 18 4 ((μ.1 18 4) + 1000))
              refine z_rcs0 hc hH 7 (pc' := 95) (lv' := [(5, .int 1), (4, .int 3000), (3, .int 1000), (2, .int (nB (!(decide ((lg_cmp wd 0) = 0))))), (1, .int 3), (0, .ref 0)]) (st' := [.int 1, .ref 0]) (by rfl) ?_
              refine zq_call hc (z_cx_ok hH (by rfl)) (gc_at d' (by omega) (z_ui μ 18 4 ((μ.1 18 4) + 1000)) 1 (by decide)) (by decide +kernel) (fun r9 μ9 hq => ?_)
              obtain ⟨hμ9, rfl⟩ := hq
              rw [hμ9]
              clear hμ9 μ9
              show Z 0 98 [(5, .int 1), (4, .int 3000), (3, .int 1000), (2, .int (nB (!(decide ((lg_cmp wd 0) = 0))))), (1, .int 3), (0, .ref 0)] [.ref 26] _
              refine z_rcs0 hc hH 1 (pc' := 99) (lv' := [(5, .int 1), (4, .int 3000), (3, .int 1000), (2, .int (nB (!(decide ((lg_cmp wd 0) = 0))))), (1, .int 3), (0, .ref 0)]) (st' := [.ref 26, .ref 26]) (by rfl) ?_
              refine zq_gfi hc hH (by rfl) (ci := 1) (f := 4) (by rfl) (by decide +kernel) (by rfl) ?_
              refine zV1 (Z := Z) (ui_o (by first | decide | omega)) ?_
              refine z_rcs0 hc hH 2 (pc' := 105) (lv' := [(5, .int 1), (4, .int 3000), (3, .int 1000), (2, .int (nB (!(decide ((lg_cmp wd 0) = 0))))), (1, .int 3), (0, .ref 0)]) (st' := [.int 1, .ref 0, .int (μ.1 26 4), .ref 26]) (by rfl) ?_
              refine zq_call hc (z_cx_ok hH (by rfl)) (gc_at d' (by omega) (z_ui μ 18 4 ((μ.1 18 4) + 1000)) 1 (by decide)) (by decide +kernel) (fun r9 μ9 hq => ?_)
              obtain ⟨hμ9, rfl⟩ := hq
              rw [hμ9]
              clear hμ9 μ9
              show Z 0 108 [(5, .int 1), (4, .int 3000), (3, .int 1000), (2, .int (nB (!(decide ((lg_cmp wd 0) = 0))))), (1, .int 3), (0, .ref 0)] [.ref 26, .int (μ.1 26 4), .ref 26] _
              refine zq_gfr hc hH (by rfl) (ci := 1) (f := 0) (q := 27) (by rfl) (by decide +kernel) (by rfl) (by decide +kernel) ?_
              refine zq_call hc (z_cx_ok hH (by rfl)) (hw1 _ (TE_ui (TE_rf _) (by intro i a hi h1 h2; omega)) d' (by omega)) (by decide +kernel) (fun r9 μ9 hq => ?_)
              obtain ⟨hμ9, rfl⟩ := hq
              rw [hμ9]
              clear hμ9 μ9
              show Z 0 114 [(5, .int 1), (4, .int 3000), (3, .int 1000), (2, .int (nB (!(decide ((lg_cmp wd 0) = 0))))), (1, .int 3), (0, .ref 0)] [.long w1, .int (μ.1 26 4), .ref 26] _
              refine z_rcs0 hc hH 2 (pc' := 116) (lv' := [(5, .int 1), (4, .int 3000), (3, .int 1000), (2, .int (nB (!(decide ((lg_cmp wd 0) = 0))))), (1, .int 3), (0, .ref 0)]) (st' := [.int (lg_cmp w1 0), .int (μ.1 26 4), .ref 26]) (by rfl) ?_
              refine zq_if hc hH (by rfl) (tg := 123) (by rfl) (fun h7 => ?_) (fun h7 => ?_)
              · have h7 : (decide ((lg_cmp w1 0) = 0)) = true := decide_eq_true (cm_eq9.mp h7)
                exact absurd (Eq.trans (Eq.symm (hb1)) h7) (by decide)
              · have h7 : (decide ((lg_cmp w1 0) = 0)) = false := decide_eq_false (cn_eq.mp h7)
                refine z_rcs0 hc hH 3 (pc' := 127) (lv' := [(5, .int 1), (4, .int 3000), (3, .int 1000), (2, .int (nB (!(decide ((lg_cmp wd 0) = 0))))), (1, .int 3), (0, .ref 0)]) (st' := [.int ((μ.1 26 4) + 1000), .ref 26]) (by rfl) ?_
                refine zq_pfi hc hH (by rfl) (ci := 1) (f := 4) (by rfl) (by decide +kernel) (by rfl) ?_
                show Z 0 130 [(5, .int 1), (4, .int 3000), (3, .int 1000), (2, .int (nB (!(decide ((lg_cmp wd 0) = 0))))), (1, .int 3), (0, .ref 0)] [] (z_ui (z_ui μ 18 4 ((μ.1 18 4) + 1000)) 26 4 ((μ.1 26 4) + 1000))
                refine z_rcs0 hc hH 7 (pc' := 95) (lv' := [(5, .int 2), (4, .int 3000), (3, .int 1000), (2, .int (nB (!(decide ((lg_cmp wd 0) = 0))))), (1, .int 3), (0, .ref 0)]) (st' := [.int 2, .ref 0]) (by rfl) ?_
                refine zq_call hc (z_cx_ok hH (by rfl)) (gc_at d' (by omega) (z_ui (z_ui μ 18 4 ((μ.1 18 4) + 1000)) 26 4 ((μ.1 26 4) + 1000)) 2 (by decide)) (by decide +kernel) (fun r9 μ9 hq => ?_)
                obtain ⟨hμ9, rfl⟩ := hq
                rw [hμ9]
                clear hμ9 μ9
                show Z 0 98 [(5, .int 2), (4, .int 3000), (3, .int 1000), (2, .int (nB (!(decide ((lg_cmp wd 0) = 0))))), (1, .int 3), (0, .ref 0)] [.ref 34] _
                refine z_rcs0 hc hH 1 (pc' := 99) (lv' := [(5, .int 2), (4, .int 3000), (3, .int 1000), (2, .int (nB (!(decide ((lg_cmp wd 0) = 0))))), (1, .int 3), (0, .ref 0)]) (st' := [.ref 34, .ref 34]) (by rfl) ?_
                refine zq_gfi hc hH (by rfl) (ci := 1) (f := 4) (by rfl) (by decide +kernel) (by rfl) ?_
                refine zV1 (Z := Z) (Eq.trans (ui_o (by first | decide | omega)) (ui_o (by first | decide | omega))) ?_
                refine z_rcs0 hc hH 2 (pc' := 105) (lv' := [(5, .int 2), (4, .int 3000), (3, .int 1000), (2, .int (nB (!(decide ((lg_cmp wd 0) = 0))))), (1, .int 3), (0, .ref 0)]) (st' := [.int 2, .ref 0, .int (μ.1 34 4), .ref 34]) (by rfl) ?_
                refine zq_call hc (z_cx_ok hH (by rfl)) (gc_at d' (by omega) (z_ui (z_ui μ 18 4 ((μ.1 18 4) + 1000)) 26 4 ((μ.1 26 4) + 1000)) 2 (by decide)) (by decide +kernel) (fun r9 μ9 hq => ?_)
                obtain ⟨hμ9, rfl⟩ := hq
                rw [hμ9]
                clear hμ9 μ9
                show Z 0 108 [(5, .int 2), (4, .int 3000), (3, .int 1000), (2, .int (nB (!(decide ((lg_cmp wd 0) = 0))))), (1, .int 3), (0, .ref 0)] [.ref 34, .int (μ.1 34 4), .ref 34] _
                refine zq_gfr hc hH (by rfl) (ci := 1) (f := 0) (q := 35) (by rfl) (by decide +kernel) (by rfl) (by decide +kernel) ?_
                refine zq_call hc (z_cx_ok hH (by rfl)) (hw2 _ (TE_ui (TE_ui (TE_rf _) (by intro i a hi h1 h2; omega)) (by intro i a hi h1 h2; omega)) d' (by omega)) (by decide +kernel) (fun r9 μ9 hq => ?_)
                obtain ⟨hμ9, rfl⟩ := hq
                rw [hμ9]
                clear hμ9 μ9
                show Z 0 114 [(5, .int 2), (4, .int 3000), (3, .int 1000), (2, .int (nB (!(decide ((lg_cmp wd 0) = 0))))), (1, .int 3), (0, .ref 0)] [.long w2, .int (μ.1 34 4), .ref 34] _
                refine z_rcs0 hc hH 2 (pc' := 116) (lv' := [(5, .int 2), (4, .int 3000), (3, .int 1000), (2, .int (nB (!(decide ((lg_cmp wd 0) = 0))))), (1, .int 3), (0, .ref 0)]) (st' := [.int (lg_cmp w2 0), .int (μ.1 34 4), .ref 34]) (by rfl) ?_
                refine zq_if hc hH (by rfl) (tg := 123) (by rfl) (fun h8 => ?_) (fun h8 => ?_)
                · have h8 : (decide ((lg_cmp w2 0) = 0)) = true := decide_eq_true (cm_eq9.mp h8)
                  exact absurd (Eq.trans (Eq.symm (hb2)) h8) (by decide)
                · have h8 : (decide ((lg_cmp w2 0) = 0)) = false := decide_eq_false (cn_eq.mp h8)
                  refine z_rcs0 hc hH 3 (pc' := 127) (lv' := [(5, .int 2), (4, .int 3000), (3, .int 1000), (2, .int (nB (!(decide ((lg_cmp wd 0) = 0))))), (1, .int 3), (0, .ref 0)]) (st' := [.int ((μ.1 34 4) + 1000), .ref 34]) (by rfl) ?_
                  refine zq_pfi hc hH (by rfl) (ci := 1) (f := 4) (by rfl) (by decide +kernel) (by rfl) ?_
                  show Z 0 130 [(5, .int 2), (4, .int 3000), (3, .int 1000), (2, .int (nB (!(decide ((lg_cmp wd 0) = 0))))), (1, .int 3), (0, .ref 0)] [] (z_ui (z_ui (z_ui μ 18 4 ((μ.1 18 4) + 1000)) 26 4 ((μ.1 26 4) + 1000)) 34 4 ((μ.1 34 4) + 1000))
                  refine z_rcs0 hc hH 7 (pc' := 95) (lv' := [(5, .int 3), (4, .int 3000), (3, .int 1000), (2, .int (nB (!(decide ((lg_cmp wd 0) = 0))))), (1, .int 3), (0, .ref 0)]) (st' := [.int 3, .ref 0]) (by rfl) ?_
                  refine zq_call hc (z_cx_ok hH (by rfl)) (gc_at d' (by omega) (z_ui (z_ui (z_ui μ 18 4 ((μ.1 18 4) + 1000)) 26 4 ((μ.1 26 4) + 1000)) 34 4 ((μ.1 34 4) + 1000)) 3 (by decide)) (by decide +kernel) (fun r9 μ9 hq => ?_)
                  obtain ⟨hμ9, rfl⟩ := hq
                  rw [hμ9]
                  clear hμ9 μ9
                  show Z 0 98 [(5, .int 3), (4, .int 3000), (3, .int 1000), (2, .int (nB (!(decide ((lg_cmp wd 0) = 0))))), (1, .int 3), (0, .ref 0)] [.ref 42] _
                  refine z_rcs0 hc hH 1 (pc' := 99) (lv' := [(5, .int 3), (4, .int 3000), (3, .int 1000), (2, .int (nB (!(decide ((lg_cmp wd 0) = 0))))), (1, .int 3), (0, .ref 0)]) (st' := [.ref 42, .ref 42]) (by rfl) ?_
                  refine zq_gfi hc hH (by rfl) (ci := 1) (f := 4) (by rfl) (by decide +kernel) (by rfl) ?_
                  refine zV1 (Z := Z) (Eq.trans (ui_o (by first | decide | omega)) (Eq.trans (ui_o (by first | decide | omega)) (ui_o (by first | decide | omega)))) ?_
                  refine z_rcs0 hc hH 2 (pc' := 105) (lv' := [(5, .int 3), (4, .int 3000), (3, .int 1000), (2, .int (nB (!(decide ((lg_cmp wd 0) = 0))))), (1, .int 3), (0, .ref 0)]) (st' := [.int 3, .ref 0, .int (μ.1 42 4), .ref 42]) (by rfl) ?_
                  refine zq_call hc (z_cx_ok hH (by rfl)) (gc_at d' (by omega) (z_ui (z_ui (z_ui μ 18 4 ((μ.1 18 4) + 1000)) 26 4 ((μ.1 26 4) + 1000)) 34 4 ((μ.1 34 4) + 1000)) 3 (by decide)) (by decide +kernel) (fun r9 μ9 hq => ?_)
                  obtain ⟨hμ9, rfl⟩ := hq
                  rw [hμ9]
                  clear hμ9 μ9
                  show Z 0 108 [(5, .int 3), (4, .int 3000), (3, .int 1000), (2, .int (nB (!(decide ((lg_cmp wd 0) = 0))))), (1, .int 3), (0, .ref 0)] [.ref 42, .int (μ.1 42 4), .ref 42] _
                  refine zq_gfr hc hH (by rfl) (ci := 1) (f := 0) (q := 43) (by rfl) (by decide +kernel) (by rfl) (by decide +kernel) ?_
                  refine zq_call hc (z_cx_ok hH (by rfl)) (hw3 _ (TE_ui (TE_ui (TE_ui (TE_rf _) (by intro i a hi h1 h2; omega)) (by intro i a hi h1 h2; omega)) (by intro i a hi h1 h2; omega)) d' (by omega)) (by decide +kernel) (fun r9 μ9 hq => ?_)
                  obtain ⟨hμ9, rfl⟩ := hq
                  rw [hμ9]
                  clear hμ9 μ9
                  show Z 0 114 [(5, .int 3), (4, .int 3000), (3, .int 1000), (2, .int (nB (!(decide ((lg_cmp wd 0) = 0))))), (1, .int 3), (0, .ref 0)] [.long w3, .int (μ.1 42 4), .ref 42] _
                  refine z_rcs0 hc hH 2 (pc' := 116) (lv' := [(5, .int 3), (4, .int 3000), (3, .int 1000), (2, .int (nB (!(decide ((lg_cmp wd 0) = 0))))), (1, .int 3), (0, .ref 0)]) (st' := [.int (lg_cmp w3 0), .int (μ.1 42 4), .ref 42]) (by rfl) ?_
                  refine zq_if hc hH (by rfl) (tg := 123) (by rfl) (fun h9 => ?_) (fun h9 => ?_)
                  · have h9 : (decide ((lg_cmp w3 0) = 0)) = true := decide_eq_true (cm_eq9.mp h9)
                    refine z_rcs0 hc hH 3 (pc' := 127) (lv' := [(5, .int 3), (4, .int 3000), (3, .int 1000), (2, .int (nB (!(decide ((lg_cmp wd 0) = 0))))), (1, .int 3), (0, .ref 0)]) (st' := [.int ((μ.1 42 4) + (-3000)), .ref 42]) (by rfl) ?_
                    refine zq_pfi hc hH (by rfl) (ci := 1) (f := 4) (by rfl) (by decide +kernel) (by rfl) ?_
                    show Z 0 130 [(5, .int 3), (4, .int 3000), (3, .int 1000), (2, .int (nB (!(decide ((lg_cmp wd 0) = 0))))), (1, .int 3), (0, .ref 0)] [] (z_ui (z_ui (z_ui (z_ui μ 18 4 ((μ.1 18 4) + 1000)) 26 4 ((μ.1 26 4) + 1000)) 34 4 ((μ.1 34 4) + 1000)) 42 4 ((μ.1 42 4) + (-3000)))
                    refine z_rcs0 hc hH 8 (pc' := 139) (lv' := [(5, .int 4), (4, .int 3000), (3, .int 1000), (2, .int (nB (!(decide ((lg_cmp wd 0) = 0))))), (1, .int 3), (0, .ref 0)]) (st' := [.int 0, .int (nB (!(decide ((lg_cmp wd 0) = 0)))), .ref 0]) (by rfl) ?_
                    refine zq_call hc (z_cx_ok hH (by rfl)) (gc_endHandB d' (by omega) (z_ui (z_ui (z_ui (z_ui μ 18 4 ((μ.1 18 4) + 1000)) 26 4 ((μ.1 26 4) + 1000)) 34 4 ((μ.1 34 4) + 1000)) 42 4 ((μ.1 42 4) + (-3000))) (!(decide ((lg_cmp wd 0) = 0))) false dl e (by rw [ui_o (by first | decide | omega), ui_o (by first | decide | omega), ui_o (by first | decide | omega), ui_o (by first | decide | omega)]; exact hdl) hdl4 he) (by decide +kernel) (fun r9 μ9 hq => ?_)
                    obtain ⟨rfl, rfl⟩ := hq
                    show Z 0 142 [(5, .int 4), (4, .int 3000), (3, .int 1000), (2, .int (nB (!(decide ((lg_cmp wd 0) = 0))))), (1, .int 3), (0, .ref 0)] [] (eHB (z_ui (z_ui (z_ui (z_ui μ 18 4 ((μ.1 18 4) + 1000)) 26 4 ((μ.1 26 4) + 1000)) 34 4 ((μ.1 34 4) + 1000)) 42 4 ((μ.1 42 4) + (-3000))) (!(decide ((lg_cmp wd 0) = 0))) false (xBk (z_ui (z_ui (z_ui (z_ui μ 18 4 ((μ.1 18 4) + 1000)) 26 4 ((μ.1 26 4) + 1000)) 34 4 ((μ.1 34 4) + 1000)) 42 4 ((μ.1 42 4) + (-3000)))) dl e (rcM (z_ui (z_ui (z_ui (z_ui μ 18 4 ((μ.1 18 4) + 1000)) 26 4 ((μ.1 26 4) + 1000)) 34 4 ((μ.1 34 4) + 1000)) 42 4 ((μ.1 42 4) + (-3000)))))
                    exact hr 0 142 _ _ _ none (by decide +kernel) (by rfl) (⟨rfl, rfl⟩)
                  · have h9 : (decide ((lg_cmp w3 0) = 0)) = false := decide_eq_false (cn_eq.mp h9)
                    exact absurd (Eq.trans (Eq.symm (hb3)) h9) (by decide)
          refine zq_if hc hH (by rfl) (tg := 57) (by rfl) (fun h10 => ?_) (fun h10 => ?_)
          · have h10 : (decide ((lg_cmp wd 0) = 0)) = true := decide_eq_true (cm_eq9.mp h10)
            refine z_rcs hc hH 1 (pc' := 58) (lv' := [(2, .int 4), (1, .int 3), (0, .ref 0)]) (st' := [.int 0]) (μ' := μ) (by rfl) ?_
            exact zJ hJ5 rfl (by first | with_reducible rfl | (simp only [h10, lb_f, Int64.or_zero, Int32.add_zero, nB_t, nB_f, Bool.not_true, Bool.not_false, Bool.and_true, Bool.true_and, Bool.false_and, Bool.and_false, Bool.or_true, Bool.true_or, Bool.false_or, Bool.or_false, cond_true, cond_false]; done) | rfl) rfl
          · have h10 : (decide ((lg_cmp wd 0) = 0)) = false := decide_eq_false (cn_eq.mp h10)
            refine z_rcs hc hH 2 (pc' := 58) (lv' := [(2, .int 4), (1, .int 3), (0, .ref 0)]) (st' := [.int 1]) (μ' := μ) (by rfl) ?_
            exact zJ hJ5 rfl (by first | with_reducible rfl | (simp only [h10, lb_f, Int64.or_zero, Int32.add_zero, nB_t, nB_f, Bool.not_true, Bool.not_false, Bool.and_true, Bool.true_and, Bool.false_and, Bool.and_false, Bool.or_true, Bool.true_or, Bool.false_or, Bool.or_false, cond_true, cond_false]; done) | rfl) rfl
        · have h4 : (decide ((lg_cmp w3 0) = 0)) = false := decide_eq_false (cn_eq.mp h4)
          exact absurd (Eq.trans (Eq.symm (hb3)) h4) (by decide)
theorem gc_endUnwon1111 (d : Nat) (hd : 8 ≤ d) (μ : zM) (dl e : Nat) (hdl : μ.1 0 9 = nI dl) (hdl4 : dl < 4) (he : (dl + 1) % 4 = e) (w0 : Int64) (hw0 : ∀ μ1, TE μ μ1 → ∀ d, 7 ≤ d → z_C d mi_X3_waiting [.ref 19] μ1 (zR μ1 (.long w0))) (w1 : Int64) (hw1 : ∀ μ1, TE μ μ1 → ∀ d, 7 ≤ d → z_C d mi_X3_waiting [.ref 27] μ1 (zR μ1 (.long w1))) (w2 : Int64) (hw2 : ∀ μ1, TE μ μ1 → ∀ d, 7 ≤ d → z_C d mi_X3_waiting [.ref 35] μ1 (zR μ1 (.long w2))) (w3 : Int64) (hw3 : ∀ μ1, TE μ μ1 → ∀ d, 7 ≤ d → z_C d mi_X3_waiting [.ref 43] μ1 (zR μ1 (.long w3))) (wd : Int64) (hwd : ∀ μ1, TE μ μ1 → ∀ d, 7 ≤ d → z_C d mi_X3_waiting [.ref (19 + 8 * dl)] μ1 (zR μ1 (.long wd))) (hb0 : decide (lg_cmp w0 0 = 0) = false) (hb1 : decide (lg_cmp w1 0 = 0) = false) (hb2 : decide (lg_cmp w2 0 = 0) = false) (hb3 : decide (lg_cmp w3 0 = 0) = false) : z_C d mi_X6_endUnwon [.ref 0] μ (fun r μ' => r = none ∧ μ' = eHB μ (!(decide ((lg_cmp wd 0) = 0))) false (xBk μ) dl e (rcM μ)) := by
  refine z_C_in (by decide) (by omega) (fun d' Z ed hc hr => ?_)
  have hH : zH mi_X6_endUnwon zt_X6_endUnwon 79 6 6 := hh_X6_endUnwon
  refine z_rcs hc hH 9 (pc' := 11) (lv' := [(2, .int 0), (1, .int 0), (0, .ref 0)]) (st' := [.int 0, .ref 0]) (μ' := μ) (by rfl) ?_
  refine zq_call hc (z_cx_ok hH (by rfl)) (gc_at d' (by omega) μ 0 (by decide)) (by decide +kernel) (fun r9 μ9 hq => ?_)
  obtain ⟨hμ9, rfl⟩ := hq
  rw [hμ9]
  clear hμ9 μ9
  show Z 0 14 [(2, .int 0), (1, .int 0), (0, .ref 0)] [.ref 18] μ
  refine zq_gfr hc hH (by rfl) (ci := 1) (f := 0) (q := 19) (by rfl) (by decide +kernel) (by rfl) (by decide +kernel) ?_
  refine zq_call hc (z_cx_ok hH (by rfl)) (hw0 _ (TE_rf _) d' (by omega)) (by decide +kernel) (fun r9 μ9 hq => ?_)
  obtain ⟨hμ9, rfl⟩ := hq
  rw [hμ9]
  clear hμ9 μ9
  show Z 0 20 [(2, .int 0), (1, .int 0), (0, .ref 0)] [.long w0] μ
  refine z_rcs hc hH 2 (pc' := 22) (lv' := [(2, .int 0), (1, .int 0), (0, .ref 0)]) (st' := [.int (lg_cmp w0 0)]) (μ' := μ) (by rfl) ?_
  refine zq_if hc hH (by rfl) (tg := 28) (by rfl) (fun h1 => ?_) (fun h1 => ?_)
  · have h1 : (decide ((lg_cmp w0 0) = 0)) = true := decide_eq_true (cm_eq9.mp h1)
    exact absurd (Eq.trans (Eq.symm (hb0)) h1) (by decide)
  · have h1 : (decide ((lg_cmp w0 0) = 0)) = false := decide_eq_false (cn_eq.mp h1)
    refine z_rcs hc hH 8 (pc' := 11) (lv' := [(2, .int 1), (1, .int 1), (0, .ref 0)]) (st' := [.int 1, .ref 0]) (μ' := μ) (by rfl) ?_
    refine zq_call hc (z_cx_ok hH (by rfl)) (gc_at d' (by omega) μ 1 (by decide)) (by decide +kernel) (fun r9 μ9 hq => ?_)
    obtain ⟨hμ9, rfl⟩ := hq
    rw [hμ9]
    clear hμ9 μ9
    show Z 0 14 [(2, .int 1), (1, .int 1), (0, .ref 0)] [.ref 26] μ
    refine zq_gfr hc hH (by rfl) (ci := 1) (f := 0) (q := 27) (by rfl) (by decide +kernel) (by rfl) (by decide +kernel) ?_
    refine zq_call hc (z_cx_ok hH (by rfl)) (hw1 _ (TE_rf _) d' (by omega)) (by decide +kernel) (fun r9 μ9 hq => ?_)
    obtain ⟨hμ9, rfl⟩ := hq
    rw [hμ9]
    clear hμ9 μ9
    show Z 0 20 [(2, .int 1), (1, .int 1), (0, .ref 0)] [.long w1] μ
    refine z_rcs hc hH 2 (pc' := 22) (lv' := [(2, .int 1), (1, .int 1), (0, .ref 0)]) (st' := [.int (lg_cmp w1 0)]) (μ' := μ) (by rfl) ?_
    refine zq_if hc hH (by rfl) (tg := 28) (by rfl) (fun h2 => ?_) (fun h2 => ?_)
    · have h2 : (decide ((lg_cmp w1 0) = 0)) = true := decide_eq_true (cm_eq9.mp h2)
      exact absurd (Eq.trans (Eq.symm (hb1)) h2) (by decide)
    · have h2 : (decide ((lg_cmp w1 0) = 0)) = false := decide_eq_false (cn_eq.mp h2)
      refine z_rcs hc hH 8 (pc' := 11) (lv' := [(2, .int 2), (1, .int 2), (0, .ref 0)]) (st' := [.int 2, .ref 0]) (μ' := μ) (by rfl) ?_
      refine zq_call hc (z_cx_ok hH (by rfl)) (gc_at d' (by omega) μ 2 (by decide)) (by decide +kernel) (fun r9 μ9 hq => ?_)
      obtain ⟨hμ9, rfl⟩ := hq
      rw [hμ9]
      clear hμ9 μ9
      show Z 0 14 [(2, .int 2), (1, .int 2), (0, .ref 0)] [.ref 34] μ
      refine zq_gfr hc hH (by rfl) (ci := 1) (f := 0) (q := 35) (by rfl) (by decide +kernel) (by rfl) (by decide +kernel) ?_
      refine zq_call hc (z_cx_ok hH (by rfl)) (hw2 _ (TE_rf _) d' (by omega)) (by decide +kernel) (fun r9 μ9 hq => ?_)
      obtain ⟨hμ9, rfl⟩ := hq
      rw [hμ9]
      clear hμ9 μ9
      show Z 0 20 [(2, .int 2), (1, .int 2), (0, .ref 0)] [.long w2] μ
      refine z_rcs hc hH 2 (pc' := 22) (lv' := [(2, .int 2), (1, .int 2), (0, .ref 0)]) (st' := [.int (lg_cmp w2 0)]) (μ' := μ) (by rfl) ?_
      refine zq_if hc hH (by rfl) (tg := 28) (by rfl) (fun h3 => ?_) (fun h3 => ?_)
      · have h3 : (decide ((lg_cmp w2 0) = 0)) = true := decide_eq_true (cm_eq9.mp h3)
        exact absurd (Eq.trans (Eq.symm (hb2)) h3) (by decide)
      · have h3 : (decide ((lg_cmp w2 0) = 0)) = false := decide_eq_false (cn_eq.mp h3)
        refine z_rcs hc hH 8 (pc' := 11) (lv' := [(2, .int 3), (1, .int 3), (0, .ref 0)]) (st' := [.int 3, .ref 0]) (μ' := μ) (by rfl) ?_
        refine zq_call hc (z_cx_ok hH (by rfl)) (gc_at d' (by omega) μ 3 (by decide)) (by decide +kernel) (fun r9 μ9 hq => ?_)
        obtain ⟨hμ9, rfl⟩ := hq
        rw [hμ9]
        clear hμ9 μ9
        show Z 0 14 [(2, .int 3), (1, .int 3), (0, .ref 0)] [.ref 42] μ
        refine zq_gfr hc hH (by rfl) (ci := 1) (f := 0) (q := 43) (by rfl) (by decide +kernel) (by rfl) (by decide +kernel) ?_
        refine zq_call hc (z_cx_ok hH (by rfl)) (hw3 _ (TE_rf _) d' (by omega)) (by decide +kernel) (fun r9 μ9 hq => ?_)
        obtain ⟨hμ9, rfl⟩ := hq
        rw [hμ9]
        clear hμ9 μ9
        show Z 0 20 [(2, .int 3), (1, .int 3), (0, .ref 0)] [.long w3] μ
        refine z_rcs hc hH 2 (pc' := 22) (lv' := [(2, .int 3), (1, .int 3), (0, .ref 0)]) (st' := [.int (lg_cmp w3 0)]) (μ' := μ) (by rfl) ?_
        refine zq_if hc hH (by rfl) (tg := 28) (by rfl) (fun h4 => ?_) (fun h4 => ?_)
        · have h4 : (decide ((lg_cmp w3 0) = 0)) = true := decide_eq_true (cm_eq9.mp h4)
          exact absurd (Eq.trans (Eq.symm (hb3)) h4) (by decide)
        · have h4 : (decide ((lg_cmp w3 0) = 0)) = false := decide_eq_false (cn_eq.mp h4)
          refine z_rcs hc hH 8 (pc' := 36) (lv' := [(2, .int 4), (1, .int 4), (0, .ref 0)]) (st' := [.ref 0, .ref 0]) (μ' := μ) (by rfl) ?_
          refine zq_gfi hc hH (by rfl) (ci := 5) (f := 9) (by rfl) (by decide +kernel) (by rfl) ?_
          rw [hdl]
          refine zq_call hc (z_cx_ok hH (by rfl)) (gc_at4 d' (by omega) μ dl hdl4) (by decide +kernel) (fun r9 μ9 hq => ?_)
          obtain ⟨hμ9, rfl⟩ := hq
          rw [hμ9]
          clear hμ9 μ9
          show Z 0 42 [(2, .int 4), (1, .int 4), (0, .ref 0)] [.ref (18 + 8 * dl)] μ
          refine zq_gfr hc hH (by rfl) (ci := 1) (f := 0) (q := 19 + 8 * dl) (by rfl) (sj (P := fun i => okf 79 1 0 (18 + 8 * i)) hdl4 (by decide +kernel)) (by rfl) (sj (P := fun i => Nat.beq (z_gr (18 + 8 * i) 0) (19 + 8 * i)) hdl4 (by decide +kernel)) ?_
          refine zq_call hc (z_clv9 hH (by rfl) (by rfl) (by rfl) (by rfl) (sj (P := fun i => okr 79 2 (19 + 8 * i)) hdl4 (by decide +kernel)) (by rfl) (by rfl)) ((hwd _ (TE_rf _) d' (by omega))) (by decide +kernel) (fun r9 μ9 hq => ?_)
          obtain ⟨hμ9, rfl⟩ := hq
          rw [hμ9]
          clear hμ9 μ9
          show Z 0 48 [(2, .int 4), (1, .int 4), (0, .ref 0)] [.long wd] μ
          refine z_rcs hc hH 2 (pc' := 50) (lv' := [(2, .int 4), (1, .int 4), (0, .ref 0)]) (st' := [.int (lg_cmp wd 0)]) (μ' := μ) (by rfl) ?_
          have hJ5 : Z 0 58 [(2, .int 4), (1, .int 4), (0, .ref 0)] [.int (nB (!(decide ((lg_cmp wd 0) = 0))))] μ := by
            refine z_rcs hc hH 9 (pc' := 139) (lv' := [(2, .int (nB (!(decide ((lg_cmp wd 0) = 0))))), (1, .int 4), (0, .ref 0)]) (st' := [.int 0, .int (nB (!(decide ((lg_cmp wd 0) = 0)))), .ref 0]) (μ' := μ) (by rfl) ?_
            refine zq_call hc (z_cx_ok hH (by rfl)) (gc_endHandB d' (by omega) μ (!(decide ((lg_cmp wd 0) = 0))) false dl e hdl hdl4 he) (by decide +kernel) (fun r9 μ9 hq => ?_)
            obtain ⟨rfl, rfl⟩ := hq
            show Z 0 142 [(2, .int (nB (!(decide ((lg_cmp wd 0) = 0))))), (1, .int 4), (0, .ref 0)] [] (eHB μ (!(decide ((lg_cmp wd 0) = 0))) false (xBk μ) dl e (rcM μ))
            exact hr 0 142 _ _ _ none (by decide +kernel) (by rfl) (⟨rfl, rfl⟩)
          refine zq_if hc hH (by rfl) (tg := 57) (by rfl) (fun h6 => ?_) (fun h6 => ?_)
          · have h6 : (decide ((lg_cmp wd 0) = 0)) = true := decide_eq_true (cm_eq9.mp h6)
            refine z_rcs hc hH 1 (pc' := 58) (lv' := [(2, .int 4), (1, .int 4), (0, .ref 0)]) (st' := [.int 0]) (μ' := μ) (by rfl) ?_
            exact zJ hJ5 rfl (by first | with_reducible rfl | (simp only [h6, lb_f, Int64.or_zero, Int32.add_zero, nB_t, nB_f, Bool.not_true, Bool.not_false, Bool.and_true, Bool.true_and, Bool.false_and, Bool.and_false, Bool.or_true, Bool.true_or, Bool.false_or, Bool.or_false, cond_true, cond_false]; done) | rfl) rfl
          · have h6 : (decide ((lg_cmp wd 0) = 0)) = false := decide_eq_false (cn_eq.mp h6)
            refine z_rcs hc hH 2 (pc' := 58) (lv' := [(2, .int 4), (1, .int 4), (0, .ref 0)]) (st' := [.int 1]) (μ' := μ) (by rfl) ?_
            exact zJ hJ5 rfl (by first | with_reducible rfl | (simp only [h6, lb_f, Int64.or_zero, Int32.add_zero, nB_t, nB_f, Bool.not_true, Bool.not_false, Bool.and_true, Bool.true_and, Bool.false_and, Bool.and_false, Bool.or_true, Bool.true_or, Bool.false_or, Bool.or_false, cond_true, cond_false]; done) | rfl) rfl

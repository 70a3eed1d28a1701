/-! the game: a hand is weighed -/
set_option maxRecDepth 8000
theorem gc_wind (d : Nat) (hd : 1 ≤ d) (μ : zM) (x y : Int32) (h : (x - μ.1 0 9) &&& 3 = y) : z_C d mi_X6_windOf [.ref 0, .int x] μ (zR μ (.int y)) := by
  rw [← h]; exact gc_windOf d hd μ x
theorem gc_weigh0 (d : Nat) (hd : 10 ≤ d) (μ : zM) (s c : Nat) (hs4 : s < 4) (hc34 : c < 34) (hc15 : μ.1 0 15 = nI c) (to1 to2 : Int64) (de wd : Int32) (hwd : (nI s - μ.1 0 9) &&& 3 = wd) (hto : ∀ d, 3 ≤ d → z_C d mi_X6_toldForms [.ref 0, .ref (18 + 8 * s), .int 0] (pS μ s c 1) (zR (pS μ s c 1) (.long to1))) (hfd : ∀ d, 3 ≤ d → z_C d mi_X6_firstDraw [.ref 0, .int (nI s), .int 0] (pS μ s c 1) (zR (pS μ s c 1) (.long to2))) (hde : ∀ d, 3 ≤ d → z_C d mi_X4_dearTiles [.ref 2, .ref (19 + 8 * s), .int (nB (!decide (μ.1 (18 + 8 * s) 5 = 0)))] (pS μ s c 1) (zR (pS μ s c 1) (.int de))) (J : zM → Prop) (hJ15 : ∀ m, J m → m.1 0 15 = nI c) (hjd : ∀ d, 8 ≤ d → z_C d mi_X1_judge [.ref 4, .ref (19 + 8 * s), .int (nI c), .int 0, .long (to1 ||| to2), .int (wd ||| (μ.1 0 10 <<< (2 &&& 31))), .int de] (pS μ s c 1) (fun r μ' => r = none ∧ J μ')) : z_C d mi_X6_weighHand [.ref 0, .int (nI s), .int 0] μ (fun r μ' => ∃ μj, J μj ∧ μ' = pS μj s c (-1) ∧ r = some (.int (μj.1 4 0))) := by
  refine z_C_in (by decide) (by omega) (fun d' Z ed hc hr => ?_)
  have hH : zH mi_X6_weighHand zc_X6_weighHand 79 6 7 := ⟨by rfl, by rfl, by rfl, by rfl⟩
  refine z_rcs hc hH 2 (pc' := 2) (lv' := [(0, .ref 0), (1, .int (nI s)), (2, .int 0)]) (st' := [.int (nI s), .ref 0]) (μ' := μ) (by rfl) ?_
  refine zq_call hc (by rfl) (gc_at4 d' (by omega) μ s hs4) (by decide +kernel) (fun r9 μ9 hq => ?_)
  obtain ⟨hμ9, rfl⟩ := hq
  rw [hμ9]
  clear hμ9 μ9
  show Z 0 5 [(0, .ref 0), (1, .int (nI s)), (2, .int 0)] [.ref (18 + 8 * s)] μ
  refine z_rcs hc hH 4 (pc' := 11) (lv' := [(3, .ref (18 + 8 * s)), (0, .ref 0), (1, .int (nI s)), (2, .int 0)]) (st' := [.ref (18 + 8 * s)]) (μ' := μ) (by rfl) ?_
  refine zq_gfr hc hH (by rfl) (ci := 1) (f := 0) (q := 19 + 8 * s) (by rfl) (sj (P := fun i => okf 79 1 0 (18 + 8 * i)) hs4 (by decide +kernel)) (by rfl) (sj (P := fun i => Nat.beq (z_gr (18 + 8 * i) 0) (19 + 8 * i)) hs4 (by decide +kernel)) ?_
  refine z_rcs hc hH 1 (pc' := 15) (lv' := [(3, .ref (18 + 8 * s)), (0, .ref 0), (1, .int (nI s)), (2, .int 0)]) (st' := [.ref 0, .ref (19 + 8 * s)]) (μ' := μ) (by rfl) ?_
  refine zq_gfi hc hH (by rfl) (ci := 5) (f := 15) (by rfl) (by decide +kernel) (by rfl) ?_
  rw [hc15]
  refine z_rcs hc hH 1 (pc' := 19) (lv' := [(3, .ref (18 + 8 * s)), (0, .ref 0), (1, .int (nI s)), (2, .int 0)]) (st' := [.int 1, .int (nI c), .ref (19 + 8 * s)]) (μ' := μ) (by rfl) ?_
  refine zq_call hc (z_clv (by rfl) (by rfl) (by rfl) (by rfl) (by rfl) (by rfl) (sj (P := fun i => okr 79 2 (19 + 8 * i)) hs4 (by decide +kernel)) (by rfl) (by rfl)) (gc_put d' (by omega) μ s hs4 c hc34 1) (by decide +kernel) (fun r9 μ9 hq => ?_)
  obtain ⟨rfl, rfl⟩ := hq
  show Z 0 22 [(3, .ref (18 + 8 * s)), (0, .ref 0), (1, .int (nI s)), (2, .int 0)] [] (pS μ s c 1)
  refine z_rcs hc hH 3 (pc' := 25) (lv' := [(3, .ref (18 + 8 * s)), (0, .ref 0), (1, .int (nI s)), (2, .int 0)]) (st' := [.int 0, .ref (18 + 8 * s), .ref 0]) (μ' := pS μ s c 1) (by rfl) ?_
  refine zq_call hc (by rfl) (hto d' (by omega)) (by decide +kernel) (fun r9 μ9 hq => ?_)
  obtain ⟨hμ9, rfl⟩ := hq
  rw [hμ9]
  clear hμ9 μ9
  show Z 0 28 [(3, .ref (18 + 8 * s)), (0, .ref 0), (1, .int (nI s)), (2, .int 0)] [.long to1] (pS μ s c 1)
  refine z_rcs hc hH 3 (pc' := 31) (lv' := [(3, .ref (18 + 8 * s)), (0, .ref 0), (1, .int (nI s)), (2, .int 0)]) (st' := [.int 0, .int (nI s), .ref 0, .long to1]) (μ' := pS μ s c 1) (by rfl) ?_
  refine zq_call hc (by rfl) (hfd d' (by omega)) (by decide +kernel) (fun r9 μ9 hq => ?_)
  obtain ⟨hμ9, rfl⟩ := hq
  rw [hμ9]
  clear hμ9 μ9
  show Z 0 34 [(3, .ref (18 + 8 * s)), (0, .ref 0), (1, .int (nI s)), (2, .int 0)] [.long to2, .long to1] (pS μ s c 1)
  refine z_rcs hc hH 3 (pc' := 38) (lv' := [(4, .long (to1 ||| to2)), (3, .ref (18 + 8 * s)), (0, .ref 0), (1, .int (nI s)), (2, .int 0)]) (st' := [.ref 0]) (μ' := pS μ s c 1) (by rfl) ?_
  refine zq_gfr hc hH (by rfl) (ci := 5) (f := 1) (q := 2) (by rfl) (by decide +kernel) (by rfl) (by decide +kernel) ?_
  refine z_rcs hc hH 1 (pc' := 42) (lv' := [(4, .long (to1 ||| to2)), (3, .ref (18 + 8 * s)), (0, .ref 0), (1, .int (nI s)), (2, .int 0)]) (st' := [.ref (18 + 8 * s), .ref 2]) (μ' := pS μ s c 1) (by rfl) ?_
  refine zq_gfr hc hH (by rfl) (ci := 1) (f := 0) (q := 19 + 8 * s) (by rfl) (sj (P := fun i => okf 79 1 0 (18 + 8 * i)) hs4 (by decide +kernel)) (by rfl) (sj (P := fun i => Nat.beq (z_gr (18 + 8 * i) 0) (19 + 8 * i)) hs4 (by decide +kernel)) ?_
  refine z_rcs hc hH 1 (pc' := 46) (lv' := [(4, .long (to1 ||| to2)), (3, .ref (18 + 8 * s)), (0, .ref 0), (1, .int (nI s)), (2, .int 0)]) (st' := [.ref (18 + 8 * s), .ref (19 + 8 * s), .ref 2]) (μ' := pS μ s c 1) (by rfl) ?_
  refine zq_gfi hc hH (by rfl) (ci := 1) (f := 5) (by rfl) (sj (P := fun i => okf 79 1 5 (18 + 8 * i)) hs4 (by decide +kernel)) (by rfl) ?_
  rw [pS_g (by omega)]
  have hJ1 : Z 0 57 [(4, .long (to1 ||| to2)), (3, .ref (18 + 8 * s)), (0, .ref 0), (1, .int (nI s)), (2, .int 0)] [.int (nB (!(decide ((μ.1 (18 + 8 * s) 5) = 0)))), .ref (19 + 8 * s), .ref 2] (pS μ s c 1) := by
    refine zq_call hc (by rfl) (hde d' (by omega)) (by decide +kernel) (fun r9 μ9 hq => ?_)
    obtain ⟨hμ9, rfl⟩ := hq
    rw [hμ9]
    clear hμ9 μ9
    show Z 0 60 [(4, .long (to1 ||| to2)), (3, .ref (18 + 8 * s)), (0, .ref 0), (1, .int (nI s)), (2, .int 0)] [.int de] (pS μ s c 1)
    refine z_rcs hc hH 2 (pc' := 63) (lv' := [(6, .int de), (4, .long (to1 ||| to2)), (3, .ref (18 + 8 * s)), (0, .ref 0), (1, .int (nI s)), (2, .int 0)]) (st' := [.ref 0]) (μ' := pS μ s c 1) (by rfl) ?_
    refine zq_gfr hc hH (by rfl) (ci := 5) (f := 2) (q := 4) (by rfl) (by decide +kernel) (by rfl) (by decide +kernel) ?_
    refine z_rcs hc hH 1 (pc' := 67) (lv' := [(6, .int de), (4, .long (to1 ||| to2)), (3, .ref (18 + 8 * s)), (0, .ref 0), (1, .int (nI s)), (2, .int 0)]) (st' := [.ref (18 + 8 * s), .ref 4]) (μ' := pS μ s c 1) (by rfl) ?_
    refine zq_gfr hc hH (by rfl) (ci := 1) (f := 0) (q := 19 + 8 * s) (by rfl) (sj (P := fun i => okf 79 1 0 (18 + 8 * i)) hs4 (by decide +kernel)) (by rfl) (sj (P := fun i => Nat.beq (z_gr (18 + 8 * i) 0) (19 + 8 * i)) hs4 (by decide +kernel)) ?_
    refine z_rcs hc hH 1 (pc' := 71) (lv' := [(6, .int de), (4, .long (to1 ||| to2)), (3, .ref (18 + 8 * s)), (0, .ref 0), (1, .int (nI s)), (2, .int 0)]) (st' := [.ref 0, .ref (19 + 8 * s), .ref 4]) (μ' := pS μ s c 1) (by rfl) ?_
    refine zq_gfi hc hH (by rfl) (ci := 5) (f := 15) (by rfl) (by decide +kernel) (by rfl) ?_
    rw [pS_g (by omega)]
    rw [hc15]
    refine z_rcs hc hH 4 (pc' := 79) (lv' := [(6, .int de), (4, .long (to1 ||| to2)), (3, .ref (18 + 8 * s)), (0, .ref 0), (1, .int (nI s)), (2, .int 0)]) (st' := [.int (nI s), .ref 0, .long (to1 ||| to2), .int 0, .int (nI c), .ref (19 + 8 * s), .ref 4]) (μ' := pS μ s c 1) (by rfl) ?_
    refine zq_call hc (by rfl) (gc_wind d' (by omega) (pS μ s c 1) (nI s) wd (by rw [pS_g (by omega)]; exact hwd)) (by decide +kernel) (fun r9 μ9 hq => ?_)
    obtain ⟨hμ9, rfl⟩ := hq
    rw [hμ9]
    clear hμ9 μ9
    show Z 0 82 [(6, .int de), (4, .long (to1 ||| to2)), (3, .ref (18 + 8 * s)), (0, .ref 0), (1, .int (nI s)), (2, .int 0)] [.int wd, .long (to1 ||| to2), .int 0, .int (nI c), .ref (19 + 8 * s), .ref 4] (pS μ s c 1)
    refine z_rcs hc hH 1 (pc' := 83) (lv' := [(6, .int de), (4, .long (to1 ||| to2)), (3, .ref (18 + 8 * s)), (0, .ref 0), (1, .int (nI s)), (2, .int 0)]) (st' := [.ref 0, .int wd, .long (to1 ||| to2), .int 0, .int (nI c), .ref (19 + 8 * s), .ref 4]) (μ' := pS μ s c 1) (by rfl) ?_
    refine zq_gfi hc hH (by rfl) (ci := 5) (f := 10) (by rfl) (by decide +kernel) (by rfl) ?_
    rw [pS_g (by omega)]
    refine z_rcs hc hH 4 (pc' := 91) (lv' := [(6, .int de), (4, .long (to1 ||| to2)), (3, .ref (18 + 8 * s)), (0, .ref 0), (1, .int (nI s)), (2, .int 0)]) (st' := [.int de, .int (wd ||| ((μ.1 0 10) <<< (2 &&& 31))), .long (to1 ||| to2), .int 0, .int (nI c), .ref (19 + 8 * s), .ref 4]) (μ' := pS μ s c 1) (by rfl) ?_
    refine zq_call hc (by rfl) (hjd d' (by omega)) (by decide +kernel) (fun r9 μj hq => ?_)
    obtain ⟨rfl, hJ⟩ := hq
    show Z 0 94 [(6, .int de), (4, .long (to1 ||| to2)), (3, .ref (18 + 8 * s)), (0, .ref 0), (1, .int (nI s)), (2, .int 0)] [] μj
    refine z_rcs hc hH 3 (pc' := 99) (lv' := [(6, .int de), (4, .long (to1 ||| to2)), (3, .ref (18 + 8 * s)), (0, .ref 0), (1, .int (nI s)), (2, .int 0)]) (st' := [.ref (18 + 8 * s)]) (μ' := μj) (by rfl) ?_
    refine zq_gfr hc hH (by rfl) (ci := 1) (f := 0) (q := 19 + 8 * s) (by rfl) (sj (P := fun i => okf 79 1 0 (18 + 8 * i)) hs4 (by decide +kernel)) (by rfl) (sj (P := fun i => Nat.beq (z_gr (18 + 8 * i) 0) (19 + 8 * i)) hs4 (by decide +kernel)) ?_
    refine z_rcs hc hH 1 (pc' := 103) (lv' := [(6, .int de), (4, .long (to1 ||| to2)), (3, .ref (18 + 8 * s)), (0, .ref 0), (1, .int (nI s)), (2, .int 0)]) (st' := [.ref 0, .ref (19 + 8 * s)]) (μ' := μj) (by rfl) ?_
    refine zq_gfi hc hH (by rfl) (ci := 5) (f := 15) (by rfl) (by decide +kernel) (by rfl) ?_
    rw [hJ15 _ hJ]
    refine z_rcs hc hH 1 (pc' := 107) (lv' := [(6, .int de), (4, .long (to1 ||| to2)), (3, .ref (18 + 8 * s)), (0, .ref 0), (1, .int (nI s)), (2, .int 0)]) (st' := [.int 1, .int (nI c), .ref (19 + 8 * s)]) (μ' := μj) (by rfl) ?_
    refine zq_call hc (z_clv (by rfl) (by rfl) (by rfl) (by rfl) (by rfl) (by rfl) (sj (P := fun i => okr 79 2 (19 + 8 * i)) hs4 (by decide +kernel)) (by rfl) (by rfl)) (gc_take d' (by omega) μj s hs4 c hc34 1) (by decide +kernel) (fun r9 μ9 hq => ?_)
    obtain ⟨rfl, rfl⟩ := hq
    show Z 0 110 [(6, .int de), (4, .long (to1 ||| to2)), (3, .ref (18 + 8 * s)), (0, .ref 0), (1, .int (nI s)), (2, .int 0)] [] (pS μj s c (-1))
    refine z_rcs hc hH 1 (pc' := 111) (lv' := [(6, .int de), (4, .long (to1 ||| to2)), (3, .ref (18 + 8 * s)), (0, .ref 0), (1, .int (nI s)), (2, .int 0)]) (st' := [.ref 0]) (μ' := pS μj s c (-1)) (by rfl) ?_
    refine zq_gfr hc hH (by rfl) (ci := 5) (f := 2) (q := 4) (by rfl) (by decide +kernel) (by rfl) (by decide +kernel) ?_
    refine zq_gfi hc hH (by rfl) (ci := 0) (f := 0) (by rfl) (by decide +kernel) (by rfl) ?_
    rw [pS_g (by omega)]
    exact hr 0 117 _ _ _ (some (.int (μj.1 4 0))) (by decide +kernel) (by rfl) (⟨μj, hJ, rfl, rfl⟩)
  refine zq_if hc hH (by rfl) (tg := 56) (by rfl) (fun h2 => ?_) (fun h2 => ?_)
  · have h2 : (decide ((μ.1 (18 + 8 * s) 5) = 0)) = true := decide_eq_true (cm_eq9.mp h2)
    refine z_rcs hc hH 1 (pc' := 57) (lv' := [(4, .long (to1 ||| to2)), (3, .ref (18 + 8 * s)), (0, .ref 0), (1, .int (nI s)), (2, .int 0)]) (st' := [.int 0, .ref (19 + 8 * s), .ref 2]) (μ' := pS μ s c 1) (by rfl) ?_
    exact zJ hJ1 rfl (by first | rfl | simp only [h2, lb_f, Int64.or_zero, Int32.add_zero, nB_t, nB_f, Bool.not_true, Bool.not_false, Bool.and_true, Bool.true_and, Bool.false_and, Bool.and_false, Bool.or_true, Bool.true_or, Bool.false_or, Bool.or_false, cond_true, cond_false]) rfl
  · have h2 : (decide ((μ.1 (18 + 8 * s) 5) = 0)) = false := decide_eq_false (cn_eq.mp h2)
    refine z_rcs hc hH 2 (pc' := 57) (lv' := [(4, .long (to1 ||| to2)), (3, .ref (18 + 8 * s)), (0, .ref 0), (1, .int (nI s)), (2, .int 0)]) (st' := [.int 1, .ref (19 + 8 * s), .ref 2]) (μ' := pS μ s c 1) (by rfl) ?_
    exact zJ hJ1 rfl (by first | rfl | simp only [h2, lb_f, Int64.or_zero, Int32.add_zero, nB_t, nB_f, Bool.not_true, Bool.not_false, Bool.and_true, Bool.true_and, Bool.false_and, Bool.and_false, Bool.or_true, Bool.true_or, Bool.false_or, Bool.or_false, cond_true, cond_false]) rfl
theorem gc_weigh1 (d : Nat) (hd : 10 ≤ d) (μ : zM) (s c : Nat) (hs4 : s < 4) (hc34 : c < 34) (hc15 : μ.1 0 15 = nI c) (to1 to2 : Int64) (de wd : Int32) (hwd : (nI s - μ.1 0 9) &&& 3 = wd) (hto : ∀ d, 3 ≤ d → z_C d mi_X6_toldForms [.ref 0, .ref (18 + 8 * s), .int 1] (μ) (zR (μ) (.long to1))) (hfd : ∀ d, 3 ≤ d → z_C d mi_X6_firstDraw [.ref 0, .int (nI s), .int 1] (μ) (zR (μ) (.long to2))) (hde : ∀ d, 3 ≤ d → z_C d mi_X4_dearTiles [.ref 2, .ref (19 + 8 * s), .int (nB (!decide (μ.1 (18 + 8 * s) 5 = 0)))] (μ) (zR (μ) (.int de))) (J : zM → Prop) (hJ15 : ∀ m, J m → m.1 0 15 = nI c) (hjd : ∀ d, 8 ≤ d → z_C d mi_X1_judge [.ref 4, .ref (19 + 8 * s), .int (nI c), .int 1, .long (to1 ||| to2), .int (wd ||| (μ.1 0 10 <<< (2 &&& 31))), .int de] (μ) (fun r μ' => r = none ∧ J μ')) : z_C d mi_X6_weighHand [.ref 0, .int (nI s), .int 1] μ (fun r μ' => ∃ μj, J μj ∧ μ' = μj ∧ r = some (.int (μj.1 4 0))) := by
  refine z_C_in (by decide) (by omega) (fun d' Z ed hc hr => ?_)
  have hH : zH mi_X6_weighHand zc_X6_weighHand 79 6 7 := ⟨by rfl, by rfl, by rfl, by rfl⟩
  refine z_rcs hc hH 2 (pc' := 2) (lv' := [(0, .ref 0), (1, .int (nI s)), (2, .int 1)]) (st' := [.int (nI s), .ref 0]) (μ' := μ) (by rfl) ?_
  refine zq_call hc (by rfl) (gc_at4 d' (by omega) μ s hs4) (by decide +kernel) (fun r9 μ9 hq => ?_)
  obtain ⟨hμ9, rfl⟩ := hq
  rw [hμ9]
  clear hμ9 μ9
  show Z 0 5 [(0, .ref 0), (1, .int (nI s)), (2, .int 1)] [.ref (18 + 8 * s)] μ
  refine z_rcs hc hH 6 (pc' := 25) (lv' := [(3, .ref (18 + 8 * s)), (0, .ref 0), (1, .int (nI s)), (2, .int 1)]) (st' := [.int 1, .ref (18 + 8 * s), .ref 0]) (μ' := μ) (by rfl) ?_
  refine zq_call hc (by rfl) (hto d' (by omega)) (by decide +kernel) (fun r9 μ9 hq => ?_)
  obtain ⟨hμ9, rfl⟩ := hq
  rw [hμ9]
  clear hμ9 μ9
  show Z 0 28 [(3, .ref (18 + 8 * s)), (0, .ref 0), (1, .int (nI s)), (2, .int 1)] [.long to1] μ
  refine z_rcs hc hH 3 (pc' := 31) (lv' := [(3, .ref (18 + 8 * s)), (0, .ref 0), (1, .int (nI s)), (2, .int 1)]) (st' := [.int 1, .int (nI s), .ref 0, .long to1]) (μ' := μ) (by rfl) ?_
  refine zq_call hc (by rfl) (hfd d' (by omega)) (by decide +kernel) (fun r9 μ9 hq => ?_)
  obtain ⟨hμ9, rfl⟩ := hq
  rw [hμ9]
  clear hμ9 μ9
  show Z 0 34 [(3, .ref (18 + 8 * s)), (0, .ref 0), (1, .int (nI s)), (2, .int 1)] [.long to2, .long to1] μ
  refine z_rcs hc hH 3 (pc' := 38) (lv' := [(4, .long (to1 ||| to2)), (3, .ref (18 + 8 * s)), (0, .ref 0), (1, .int (nI s)), (2, .int 1)]) (st' := [.ref 0]) (μ' := μ) (by rfl) ?_
  refine zq_gfr hc hH (by rfl) (ci := 5) (f := 1) (q := 2) (by rfl) (by decide +kernel) (by rfl) (by decide +kernel) ?_
  refine z_rcs hc hH 1 (pc' := 42) (lv' := [(4, .long (to1 ||| to2)), (3, .ref (18 + 8 * s)), (0, .ref 0), (1, .int (nI s)), (2, .int 1)]) (st' := [.ref (18 + 8 * s), .ref 2]) (μ' := μ) (by rfl) ?_
  refine zq_gfr hc hH (by rfl) (ci := 1) (f := 0) (q := 19 + 8 * s) (by rfl) (sj (P := fun i => okf 79 1 0 (18 + 8 * i)) hs4 (by decide +kernel)) (by rfl) (sj (P := fun i => Nat.beq (z_gr (18 + 8 * i) 0) (19 + 8 * i)) hs4 (by decide +kernel)) ?_
  refine z_rcs hc hH 1 (pc' := 46) (lv' := [(4, .long (to1 ||| to2)), (3, .ref (18 + 8 * s)), (0, .ref 0), (1, .int (nI s)), (2, .int 1)]) (st' := [.ref (18 + 8 * s), .ref (19 + 8 * s), .ref 2]) (μ' := μ) (by rfl) ?_
  refine zq_gfi hc hH (by rfl) (ci := 1) (f := 5) (by rfl) (sj (P := fun i => okf 79 1 5 (18 + 8 * i)) hs4 (by decide +kernel)) (by rfl) ?_
  have hJ1 : Z 0 57 [(4, .long (to1 ||| to2)), (3, .ref (18 + 8 * s)), (0, .ref 0), (1, .int (nI s)), (2, .int 1)] [.int (nB (!(decide ((μ.1 (18 + 8 * s) 5) = 0)))), .ref (19 + 8 * s), .ref 2] μ := by
    refine zq_call hc (by rfl) (hde d' (by omega)) (by decide +kernel) (fun r9 μ9 hq => ?_)
    obtain ⟨hμ9, rfl⟩ := hq
    rw [hμ9]
    clear hμ9 μ9
    show Z 0 60 [(4, .long (to1 ||| to2)), (3, .ref (18 + 8 * s)), (0, .ref 0), (1, .int (nI s)), (2, .int 1)] [.int de] μ
    refine z_rcs hc hH 2 (pc' := 63) (lv' := [(6, .int de), (4, .long (to1 ||| to2)), (3, .ref (18 + 8 * s)), (0, .ref 0), (1, .int (nI s)), (2, .int 1)]) (st' := [.ref 0]) (μ' := μ) (by rfl) ?_
    refine zq_gfr hc hH (by rfl) (ci := 5) (f := 2) (q := 4) (by rfl) (by decide +kernel) (by rfl) (by decide +kernel) ?_
    refine z_rcs hc hH 1 (pc' := 67) (lv' := [(6, .int de), (4, .long (to1 ||| to2)), (3, .ref (18 + 8 * s)), (0, .ref 0), (1, .int (nI s)), (2, .int 1)]) (st' := [.ref (18 + 8 * s), .ref 4]) (μ' := μ) (by rfl) ?_
    refine zq_gfr hc hH (by rfl) (ci := 1) (f := 0) (q := 19 + 8 * s) (by rfl) (sj (P := fun i => okf 79 1 0 (18 + 8 * i)) hs4 (by decide +kernel)) (by rfl) (sj (P := fun i => Nat.beq (z_gr (18 + 8 * i) 0) (19 + 8 * i)) hs4 (by decide +kernel)) ?_
    refine z_rcs hc hH 1 (pc' := 71) (lv' := [(6, .int de), (4, .long (to1 ||| to2)), (3, .ref (18 + 8 * s)), (0, .ref 0), (1, .int (nI s)), (2, .int 1)]) (st' := [.ref 0, .ref (19 + 8 * s), .ref 4]) (μ' := μ) (by rfl) ?_
    refine zq_gfi hc hH (by rfl) (ci := 5) (f := 15) (by rfl) (by decide +kernel) (by rfl) ?_
    rw [hc15]
    refine z_rcs hc hH 4 (pc' := 79) (lv' := [(6, .int de), (4, .long (to1 ||| to2)), (3, .ref (18 + 8 * s)), (0, .ref 0), (1, .int (nI s)), (2, .int 1)]) (st' := [.int (nI s), .ref 0, .long (to1 ||| to2), .int 1, .int (nI c), .ref (19 + 8 * s), .ref 4]) (μ' := μ) (by rfl) ?_
    refine zq_call hc (by rfl) (gc_wind d' (by omega) μ (nI s) wd hwd) (by decide +kernel) (fun r9 μ9 hq => ?_)
    obtain ⟨hμ9, rfl⟩ := hq
    rw [hμ9]
    clear hμ9 μ9
    show Z 0 82 [(6, .int de), (4, .long (to1 ||| to2)), (3, .ref (18 + 8 * s)), (0, .ref 0), (1, .int (nI s)), (2, .int 1)] [.int wd, .long (to1 ||| to2), .int 1, .int (nI c), .ref (19 + 8 * s), .ref 4] μ
    refine z_rcs hc hH 1 (pc' := 83) (lv' := [(6, .int de), (4, .long (to1 ||| to2)), (3, .ref (18 + 8 * s)), (0, .ref 0), (1, .int (nI s)), (2, .int 1)]) (st' := [.ref 0, .int wd, .long (to1 ||| to2), .int 1, .int (nI c), .ref (19 + 8 * s), .ref 4]) (μ' := μ) (by rfl) ?_
    refine zq_gfi hc hH (by rfl) (ci := 5) (f := 10) (by rfl) (by decide +kernel) (by rfl) ?_
    refine z_rcs hc hH 4 (pc' := 91) (lv' := [(6, .int de), (4, .long (to1 ||| to2)), (3, .ref (18 + 8 * s)), (0, .ref 0), (1, .int (nI s)), (2, .int 1)]) (st' := [.int de, .int (wd ||| ((μ.1 0 10) <<< (2 &&& 31))), .long (to1 ||| to2), .int 1, .int (nI c), .ref (19 + 8 * s), .ref 4]) (μ' := μ) (by rfl) ?_
    refine zq_call hc (by rfl) (hjd d' (by omega)) (by decide +kernel) (fun r9 μj hq => ?_)
    obtain ⟨rfl, hJ⟩ := hq
    show Z 0 94 [(6, .int de), (4, .long (to1 ||| to2)), (3, .ref (18 + 8 * s)), (0, .ref 0), (1, .int (nI s)), (2, .int 1)] [] μj
    refine z_rcs hc hH 3 (pc' := 111) (lv' := [(6, .int de), (4, .long (to1 ||| to2)), (3, .ref (18 + 8 * s)), (0, .ref 0), (1, .int (nI s)), (2, .int 1)]) (st' := [.ref 0]) (μ' := μj) (by rfl) ?_
    refine zq_gfr hc hH (by rfl) (ci := 5) (f := 2) (q := 4) (by rfl) (by decide +kernel) (by rfl) (by decide +kernel) ?_
    refine zq_gfi hc hH (by rfl) (ci := 0) (f := 0) (by rfl) (by decide +kernel) (by rfl) ?_
    exact hr 0 117 _ _ _ (some (.int (μj.1 4 0))) (by decide +kernel) (by rfl) (⟨μj, hJ, rfl, rfl⟩)
  refine zq_if hc hH (by rfl) (tg := 56) (by rfl) (fun h2 => ?_) (fun h2 => ?_)
  · have h2 : (decide ((μ.1 (18 + 8 * s) 5) = 0)) = true := decide_eq_true (cm_eq9.mp h2)
    refine z_rcs hc hH 1 (pc' := 57) (lv' := [(4, .long (to1 ||| to2)), (3, .ref (18 + 8 * s)), (0, .ref 0), (1, .int (nI s)), (2, .int 1)]) (st' := [.int 0, .ref (19 + 8 * s), .ref 2]) (μ' := μ) (by rfl) ?_
    exact zJ hJ1 rfl (by first | rfl | simp only [h2, lb_f, Int64.or_zero, Int32.add_zero, nB_t, nB_f, Bool.not_true, Bool.not_false, Bool.and_true, Bool.true_and, Bool.false_and, Bool.and_false, Bool.or_true, Bool.true_or, Bool.false_or, Bool.or_false, cond_true, cond_false]) rfl
  · have h2 : (decide ((μ.1 (18 + 8 * s) 5) = 0)) = false := decide_eq_false (cn_eq.mp h2)
    refine z_rcs hc hH 2 (pc' := 57) (lv' := [(4, .long (to1 ||| to2)), (3, .ref (18 + 8 * s)), (0, .ref 0), (1, .int (nI s)), (2, .int 1)]) (st' := [.int 1, .ref (19 + 8 * s), .ref 2]) (μ' := μ) (by rfl) ?_
    exact zJ hJ1 rfl (by first | rfl | simp only [h2, lb_f, Int64.or_zero, Int32.add_zero, nB_t, nB_f, Bool.not_true, Bool.not_false, Bool.and_true, Bool.true_and, Bool.false_and, Bool.and_false, Bool.or_true, Bool.true_or, Bool.false_or, Bool.or_false, cond_true, cond_false]) rfl

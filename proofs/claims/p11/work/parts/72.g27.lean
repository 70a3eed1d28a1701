/-! discards, exactly: both sides -/
set_option maxRecDepth 8000
theorem gc_thrown (d : Nat) (hd : 1 ≤ d) (μ : zM) (s : Nat) (hs4 : s < 4) (x : Int32) : z_C d mi_X2_thrown [.ref (18 + 8 * s), .int x] μ (fun r μ' => r = some ((bif decide (x < 0) then .int (-1) else (bif decide (86 ≤ x) then .int (-1) else .int (μ.1 (24 + 8 * s) x.toNatClampNeg)))) ∧ μ' = μ) := by
  refine z_C_in (by decide) (by omega) (fun d' Z ed hc hr => ?_)
  have hH : zH mi_X2_thrown zt_X2_thrown 79 2 2 := hh_X2_thrown
  refine z_rcs hc hH 1 (pc' := 1) (lv' := [(0, .ref (18 + 8 * s)), (1, .int x)]) (st' := [.int x]) (μ' := μ) (by rfl) ?_
  refine zq_if hc hH (by rfl) (tg := 19) (by rfl) (fun h1 => ?_) (fun h1 => ?_)
  · have h1 : (decide (x < 0)) = true := decide_eq_true (cm_lt.mp h1)
    refine z_rcs hc hH 1 (pc' := 20) (lv' := [(0, .ref (18 + 8 * s)), (1, .int x)]) (st' := [.int (-1)]) (μ' := μ) (by rfl) ?_
    exact hr 0 20 _ _ _ (some (.int (-1))) (by decide +kernel) (z_rx_ok hH (by rfl)) (⟨(by first | with_reducible rfl | (simp only [h1, cond_true, cond_false]; done) | rfl), (by simp only [h1, cond_true, cond_false])⟩)
  · have h1 : (decide (x < 0)) = false := decide_eq_false (cn_lt.mp h1)
    refine z_rcs hc hH 2 (pc' := 7) (lv' := [(0, .ref (18 + 8 * s)), (1, .int x)]) (st' := [.int 86, .int x]) (μ' := μ) (by rfl) ?_
    refine zq_ic hc hH (by rfl) (tg := 19) (by rfl) (fun h2 => ?_) (fun h2 => ?_)
    · have h2 : (decide (86 ≤ x)) = true := decide_eq_true (cm_ge.mp h2)
      refine z_rcs hc hH 1 (pc' := 20) (lv' := [(0, .ref (18 + 8 * s)), (1, .int x)]) (st' := [.int (-1)]) (μ' := μ) (by rfl) ?_
      exact hr 0 20 _ _ _ (some (.int (-1))) (by decide +kernel) (z_rx_ok hH (by rfl)) (⟨(by first | with_reducible rfl | (simp only [h1, h2, cond_true, cond_false]; done) | rfl), (by simp only [h1, h2, cond_true, cond_false])⟩)
    · have h2 : (decide (86 ≤ x)) = false := decide_eq_false (cn_ge.mp h2)
      refine z_rcs hc hH 1 (pc' := 11) (lv' := [(0, .ref (18 + 8 * s)), (1, .int x)]) (st' := [.ref (18 + 8 * s)]) (μ' := μ) (by rfl) ?_
      refine zq_gfr hc hH (by rfl) (ci := 1) (f := 1) (q := 24 + 8 * s) (by rfl) (sj (P := fun i => okf 79 1 1 (18 + 8 * i)) hs4 (by decide +kernel)) (by rfl) (sj (P := fun i => Nat.beq (z_gr (18 + 8 * i) 1) (24 + 8 * i)) hs4 (by decide +kernel)) ?_
      refine z_rcs hc hH 1 (pc' := 15) (lv' := [(0, .ref (18 + 8 * s)), (1, .int x)]) (st' := [.int x, .ref (24 + 8 * s)]) (μ' := μ) (by rfl) ?_
      refine zq_iald hc hH (by rfl) 86 (oka_i (sj (P := fun i => oka 79 1 86 (24 + 8 * i)) hs4 (by decide +kernel))) (inOf2 (n := 86) rfl h1 h2) ?_
      refine z_rcs hc hH 1 (pc' := 20) (lv' := [(0, .ref (18 + 8 * s)), (1, .int x)]) (st' := [.int (μ.1 (24 + 8 * s) x.toNatClampNeg)]) (μ' := μ) (by rfl) ?_
      exact hr 0 20 _ _ _ (some (.int (μ.1 (24 + 8 * s) x.toNatClampNeg))) (by decide +kernel) (z_rx_ok hH (by rfl)) (⟨(by first | with_reducible rfl | (simp only [h1, h2, cond_true, cond_false]; done) | rfl), (by simp only [h1, h2, cond_true, cond_false])⟩)
theorem gm_riverS (d : Nat) (hd : 2 ≤ d) (μ : zM) (y x : Int32) (hs : ∀ d, 1 ≤ d → z_C d mi_X7_isSeat [.int y] μ (zR μ (.int 0))) : z_C d mi_X7_river [.ref 50, .int y, .int x] μ (fun r μ' => r = some (.int 0) ∧ μ' = z_ui μ 50 0 1) := by
  refine z_C_in (by decide) (by omega) (fun d' Z ed hc hr => ?_)
  have hH : zH mi_X7_river zt_X7_river 79 7 3 := hh_X7_river
  refine z_rcs hc hH 2 (pc' := 2) (lv' := [(0, .ref 50), (1, .int y), (2, .int x)]) (st' := [.int y, .ref 50]) (μ' := μ) (by rfl) ?_
  refine zq_call hc (z_cx_ok hH (by rfl)) (hs d' (by omega)) (by decide +kernel) (fun r9 μ9 hq => ?_)
  obtain ⟨hμ9, rfl⟩ := hq
  rw [hμ9]
  clear hμ9 μ9
  show Z 0 5 [(0, .ref 50), (1, .int y), (2, .int x)] [.int 0, .ref 50] μ
  refine z_rcs hc hH 3 (pc' := 27) (lv' := [(0, .ref 50), (1, .int y), (2, .int x)]) (st' := [.int 1, .ref 50]) (μ' := μ) (by rfl) ?_
  refine zq_pfi hc hH (by rfl) (ci := 6) (f := 0) (by rfl) (by decide +kernel) (by rfl) ?_
  show Z 0 30 [(0, .ref 50), (1, .int y), (2, .int x)] [] (z_ui μ 50 0 1)
  refine z_rcs hc hH 1 (pc' := 31) (lv' := [(0, .ref 50), (1, .int y), (2, .int x)]) (st' := [.ref 50]) (μ' := z_ui μ 50 0 1) (by rfl) ?_
  refine zq_gfi hc hH (by rfl) (ci := 6) (f := 0) (by rfl) (by decide +kernel) (by rfl) ?_
  rw [ui_s]
  refine z_rcs hc hH 3 (pc' := 53) (lv' := [(0, .ref 50), (1, .int y), (2, .int x)]) (st' := [.int 0]) (μ' := z_ui μ 50 0 1) (by rfl) ?_
  exact hr 0 53 _ _ _ (some (.int 0)) (by decide +kernel) (z_rx_ok hH (by rfl)) (⟨rfl, rfl⟩)
theorem gm_riverN (d : Nat) (hd : 2 ≤ d) (μ : zM) (s : Nat) (hs4 : s < 4) (x : Int32) (hx : decide (x < 0) = true) : z_C d mi_X7_river [.ref 50, .int (nI s), .int x] μ (fun r μ' => r = some (.int 0) ∧ μ' = z_ui μ 50 0 1) := by
  refine z_C_in (by decide) (by omega) (fun d' Z ed hc hr => ?_)
  have hH : zH mi_X7_river zt_X7_river 79 7 3 := hh_X7_river
  refine z_rcs hc hH 2 (pc' := 2) (lv' := [(0, .ref 50), (1, .int (nI s)), (2, .int x)]) (st' := [.int (nI s), .ref 50]) (μ' := μ) (by rfl) ?_
  refine zq_call hc (z_cx_ok hH (by rfl)) (gm_isSeatN d' (by omega) μ s hs4) (by decide +kernel) (fun r9 μ9 hq => ?_)
  obtain ⟨hμ9, rfl⟩ := hq
  rw [hμ9]
  clear hμ9 μ9
  show Z 0 5 [(0, .ref 50), (1, .int (nI s)), (2, .int x)] [.int 1, .ref 50] μ
  refine z_rcs hc hH 2 (pc' := 9) (lv' := [(0, .ref 50), (1, .int (nI s)), (2, .int x)]) (st' := [.int x, .ref 50]) (μ' := μ) (by rfl) ?_
  refine zq_if hc hH (by rfl) (tg := 22) (by rfl) (fun h1 => ?_) (fun h1 => ?_)
  · have h1 : (decide (x < 0)) = true := decide_eq_true (cm_lt.mp h1)
    refine z_rcs hc hH 2 (pc' := 27) (lv' := [(0, .ref 50), (1, .int (nI s)), (2, .int x)]) (st' := [.int 1, .ref 50]) (μ' := μ) (by rfl) ?_
    refine zq_pfi hc hH (by rfl) (ci := 6) (f := 0) (by rfl) (by decide +kernel) (by rfl) ?_
    show Z 0 30 [(0, .ref 50), (1, .int (nI s)), (2, .int x)] [] (z_ui μ 50 0 1)
    refine z_rcs hc hH 1 (pc' := 31) (lv' := [(0, .ref 50), (1, .int (nI s)), (2, .int x)]) (st' := [.ref 50]) (μ' := z_ui μ 50 0 1) (by rfl) ?_
    refine zq_gfi hc hH (by rfl) (ci := 6) (f := 0) (by rfl) (by decide +kernel) (by rfl) ?_
    rw [ui_s]
    refine z_rcs hc hH 3 (pc' := 53) (lv' := [(0, .ref 50), (1, .int (nI s)), (2, .int x)]) (st' := [.int 0]) (μ' := z_ui μ 50 0 1) (by rfl) ?_
    exact hr 0 53 _ _ _ (some (.int 0)) (by decide +kernel) (z_rx_ok hH (by rfl)) (⟨rfl, rfl⟩)
  · have h1 : (decide (x < 0)) = false := decide_eq_false (cn_lt.mp h1)
    exact absurd (Eq.trans (Eq.symm (hx)) h1) (by decide)
theorem gm_riverG (d : Nat) (hd : 2 ≤ d) (μ : zM) (s : Nat) (hs4 : s < 4) (x : Int32) (hx : decide (x < 0) = false) (hg : decide (x < μ.1 66 s) = false) : z_C d mi_X7_river [.ref 50, .int (nI s), .int x] μ (fun r μ' => r = some (.int 0) ∧ μ' = z_ui μ 50 0 1) := by
  refine z_C_in (by decide) (by omega) (fun d' Z ed hc hr => ?_)
  have hH : zH mi_X7_river zt_X7_river 79 7 3 := hh_X7_river
  refine z_rcs hc hH 2 (pc' := 2) (lv' := [(0, .ref 50), (1, .int (nI s)), (2, .int x)]) (st' := [.int (nI s), .ref 50]) (μ' := μ) (by rfl) ?_
  refine zq_call hc (z_cx_ok hH (by rfl)) (gm_isSeatN d' (by omega) μ s hs4) (by decide +kernel) (fun r9 μ9 hq => ?_)
  obtain ⟨hμ9, rfl⟩ := hq
  rw [hμ9]
  clear hμ9 μ9
  show Z 0 5 [(0, .ref 50), (1, .int (nI s)), (2, .int x)] [.int 1, .ref 50] μ
  refine z_rcs hc hH 2 (pc' := 9) (lv' := [(0, .ref 50), (1, .int (nI s)), (2, .int x)]) (st' := [.int x, .ref 50]) (μ' := μ) (by rfl) ?_
  refine zq_if hc hH (by rfl) (tg := 22) (by rfl) (fun h1 => ?_) (fun h1 => ?_)
  · have h1 : (decide (x < 0)) = true := decide_eq_true (cm_lt.mp h1)
    exact absurd (Eq.trans (Eq.symm (hx)) h1) (by decide)
  · have h1 : (decide (x < 0)) = false := decide_eq_false (cn_lt.mp h1)
    refine z_rcs hc hH 2 (pc' := 14) (lv' := [(0, .ref 50), (1, .int (nI s)), (2, .int x)]) (st' := [.ref 50, .int x, .ref 50]) (μ' := μ) (by rfl) ?_
    refine zq_gfr hc hH (by rfl) (ci := 6) (f := 34) (q := 66) (by rfl) (by decide +kernel) (by rfl) (by decide +kernel) ?_
    refine z_rcs hc hH 1 (pc' := 18) (lv' := [(0, .ref 50), (1, .int (nI s)), (2, .int x)]) (st' := [.int (nI s), .ref 66, .int x, .ref 50]) (μ' := μ) (by rfl) ?_
    refine zq_iald hc hH (by rfl) 4 (oka_i (by decide +kernel)) (vp_in_nI (by omega) (by decide)) ?_
    rw [nI_clamp (by omega)]
    refine zq_ic hc hH (by rfl) (tg := 26) (by rfl) (fun h2 => ?_) (fun h2 => ?_)
    · have h2 : (decide (x < (μ.1 66 s))) = true := decide_eq_true (cm_lt.mp h2)
      exact absurd (Eq.trans (Eq.symm (hg)) h2) (by decide)
    · have h2 : (decide (x < (μ.1 66 s))) = false := decide_eq_false (cn_lt.mp h2)
      refine z_rcs hc hH 2 (pc' := 27) (lv' := [(0, .ref 50), (1, .int (nI s)), (2, .int x)]) (st' := [.int 1, .ref 50]) (μ' := μ) (by rfl) ?_
      refine zq_pfi hc hH (by rfl) (ci := 6) (f := 0) (by rfl) (by decide +kernel) (by rfl) ?_
      show Z 0 30 [(0, .ref 50), (1, .int (nI s)), (2, .int x)] [] (z_ui μ 50 0 1)
      refine z_rcs hc hH 1 (pc' := 31) (lv' := [(0, .ref 50), (1, .int (nI s)), (2, .int x)]) (st' := [.ref 50]) (μ' := z_ui μ 50 0 1) (by rfl) ?_
      refine zq_gfi hc hH (by rfl) (ci := 6) (f := 0) (by rfl) (by decide +kernel) (by rfl) ?_
      rw [ui_s]
      refine z_rcs hc hH 3 (pc' := 53) (lv' := [(0, .ref 50), (1, .int (nI s)), (2, .int x)]) (st' := [.int 0]) (μ' := z_ui μ 50 0 1) (by rfl) ?_
      exact hr 0 53 _ _ _ (some (.int 0)) (by decide +kernel) (z_rx_ok hH (by rfl)) (⟨rfl, rfl⟩)
theorem gm_riverI (d : Nat) (hd : 2 ≤ d) (μ : zM) (s i n : Nat) (hs4 : s < 4) (hi : i < n) (hn : n ≤ 135) (e66 : μ.1 66 s = nI n) : z_C d mi_X7_river [.ref 50, .int (nI s), .int (nI i)] μ (fun r μ' => r = some (.int (μ.1 65 (136 * s + i))) ∧ μ' = z_ui μ 50 0 0) := by
  refine z_C_in (by decide) (by omega) (fun d' Z ed hc hr => ?_)
  have hH : zH mi_X7_river zt_X7_river 79 7 3 := hh_X7_river
  refine z_rcs hc hH 2 (pc' := 2) (lv' := [(0, .ref 50), (1, .int (nI s)), (2, .int (nI i))]) (st' := [.int (nI s), .ref 50]) (μ' := μ) (by rfl) ?_
  refine zq_call hc (z_cx_ok hH (by rfl)) (gm_isSeatN d' (by omega) μ s hs4) (by decide +kernel) (fun r9 μ9 hq => ?_)
  obtain ⟨hμ9, rfl⟩ := hq
  rw [hμ9]
  clear hμ9 μ9
  show Z 0 5 [(0, .ref 50), (1, .int (nI s)), (2, .int (nI i))] [.int 1, .ref 50] μ
  refine z_rcs hc hH 2 (pc' := 9) (lv' := [(0, .ref 50), (1, .int (nI s)), (2, .int (nI i))]) (st' := [.int (nI i), .ref 50]) (μ' := μ) (by rfl) ?_
  refine zq_if hc hH (by rfl) (tg := 22) (by rfl) (fun h1 => ?_) (fun h1 => ?_)
  · have h1 : (decide ((nI i) < 0)) = true := decide_eq_true (cm_lt.mp h1)
    exact absurd (Eq.trans (Eq.symm (kn_l0 (by omega))) h1) (by decide)
  · have h1 : (decide ((nI i) < 0)) = false := decide_eq_false (cn_lt.mp h1)
    refine z_rcs hc hH 2 (pc' := 14) (lv' := [(0, .ref 50), (1, .int (nI s)), (2, .int (nI i))]) (st' := [.ref 50, .int (nI i), .ref 50]) (μ' := μ) (by rfl) ?_
    refine zq_gfr hc hH (by rfl) (ci := 6) (f := 34) (q := 66) (by rfl) (by decide +kernel) (by rfl) (by decide +kernel) ?_
    refine z_rcs hc hH 1 (pc' := 18) (lv' := [(0, .ref 50), (1, .int (nI s)), (2, .int (nI i))]) (st' := [.int (nI s), .ref 66, .int (nI i), .ref 50]) (μ' := μ) (by rfl) ?_
    refine zq_iald hc hH (by rfl) 4 (oka_i (by decide +kernel)) (vp_in_nI (by omega) (by decide)) ?_
    rw [nI_clamp (by omega)]
    rw [e66]
    refine zq_ic hc hH (by rfl) (tg := 26) (by rfl) (fun h2 => ?_) (fun h2 => ?_)
    · have h2 : (decide ((nI i) < (nI n))) = true := decide_eq_true (cm_lt.mp h2)
      refine z_rcs hc hH 1 (pc' := 27) (lv' := [(0, .ref 50), (1, .int (nI s)), (2, .int (nI i))]) (st' := [.int 0, .ref 50]) (μ' := μ) (by rfl) ?_
      refine zq_pfi hc hH (by rfl) (ci := 6) (f := 0) (by rfl) (by decide +kernel) (by rfl) ?_
      show Z 0 30 [(0, .ref 50), (1, .int (nI s)), (2, .int (nI i))] [] (z_ui μ 50 0 0)
      refine z_rcs hc hH 1 (pc' := 31) (lv' := [(0, .ref 50), (1, .int (nI s)), (2, .int (nI i))]) (st' := [.ref 50]) (μ' := z_ui μ 50 0 0) (by rfl) ?_
      refine zq_gfi hc hH (by rfl) (ci := 6) (f := 0) (by rfl) (by decide +kernel) (by rfl) ?_
      rw [ui_s]
      refine z_rcs hc hH 2 (pc' := 42) (lv' := [(0, .ref 50), (1, .int (nI s)), (2, .int (nI i))]) (st' := [.ref 50]) (μ' := z_ui μ 50 0 0) (by rfl) ?_
      refine zq_gfr hc hH (by rfl) (ci := 6) (f := 33) (q := 65) (by rfl) (by decide +kernel) (by rfl) (by decide +kernel) ?_
      refine z_rcs hc hH 5 (pc' := 52) (lv' := [(0, .ref 50), (1, .int (nI s)), (2, .int (nI i))]) (st' := [.int ((136 * (nI s)) + (nI i)), .ref 65]) (μ' := z_ui μ 50 0 0) (by rfl) ?_
      rw [show 136 * nI s + nI i = nI (136 * s + i) from by rw [show (136 : Int32) = nI 136 from rfl, nI_ml, nI_add]]
      refine zq_iald hc hH (by rfl) 544 (oka_i (by decide +kernel)) (vp_in_nI (by omega) (by decide)) ?_
      rw [nI_clamp (by omega)]
      refine zV1 (Z := Z) (ui_o (by first | decide | omega)) ?_
      exact hr 0 53 _ _ _ (some (.int (μ.1 65 (136 * s + i)))) (by decide +kernel) (z_rx_ok hH (by rfl)) (⟨rfl, rfl⟩)
    · have h2 : (decide ((nI i) < (nI n))) = false := decide_eq_false (cn_lt.mp h2)
      exact absurd (Eq.trans (Eq.symm (kn_nlt (by omega) (by omega) (by omega))) h2) (by decide)
theorem gm_wallD (d : Nat) (hd : 2 ≤ d) (μ : zM) (x : Int32) (hd9 : decide (μ.1 50 55 = 0) = true) : z_C d mi_X7_wall [.ref 50, .int x] μ (fun r μ' => r = some (.int 0) ∧ μ' = z_ui μ 50 0 1) := by
  refine z_C_in (by decide) (by omega) (fun d' Z ed hc hr => ?_)
  have hH : zH mi_X7_wall zt_X7_wall 79 7 2 := hh_X7_wall
  refine z_rcs hc hH 2 (pc' := 2) (lv' := [(0, .ref 50), (1, .int x)]) (st' := [.ref 50, .ref 50]) (μ' := μ) (by rfl) ?_
  refine zq_gfi hc hH (by rfl) (ci := 6) (f := 55) (by rfl) (by decide +kernel) (by rfl) ?_
  refine zq_if hc hH (by rfl) (tg := 19) (by rfl) (fun h1 => ?_) (fun h1 => ?_)
  · have h1 : (decide ((μ.1 50 55) = 0)) = true := decide_eq_true (cm_eq9.mp h1)
    refine z_rcs hc hH 2 (pc' := 24) (lv' := [(0, .ref 50), (1, .int x)]) (st' := [.int 1, .ref 50]) (μ' := μ) (by rfl) ?_
    refine zq_pfi hc hH (by rfl) (ci := 6) (f := 0) (by rfl) (by decide +kernel) (by rfl) ?_
    show Z 0 27 [(0, .ref 50), (1, .int x)] [] (z_ui μ 50 0 1)
    refine z_rcs hc hH 1 (pc' := 28) (lv' := [(0, .ref 50), (1, .int x)]) (st' := [.ref 50]) (μ' := z_ui μ 50 0 1) (by rfl) ?_
    refine zq_gfi hc hH (by rfl) (ci := 6) (f := 0) (by rfl) (by decide +kernel) (by rfl) ?_
    rw [ui_s]
    refine z_rcs hc hH 3 (pc' := 44) (lv' := [(0, .ref 50), (1, .int x)]) (st' := [.int 0]) (μ' := z_ui μ 50 0 1) (by rfl) ?_
    exact hr 0 44 _ _ _ (some (.int 0)) (by decide +kernel) (z_rx_ok hH (by rfl)) (⟨rfl, rfl⟩)
  · have h1 : (decide ((μ.1 50 55) = 0)) = false := decide_eq_false (cn_eq.mp h1)
    exact absurd (Eq.trans (Eq.symm (hd9)) h1) (by decide)
theorem gm_wallN (d : Nat) (hd : 2 ≤ d) (μ : zM) (x : Int32) (hd9 : decide (μ.1 50 55 = 0) = false) (hx : decide (x < 0) = true) : z_C d mi_X7_wall [.ref 50, .int x] μ (fun r μ' => r = some (.int 0) ∧ μ' = z_ui μ 50 0 1) := by
  refine z_C_in (by decide) (by omega) (fun d' Z ed hc hr => ?_)
  have hH : zH mi_X7_wall zt_X7_wall 79 7 2 := hh_X7_wall
  refine z_rcs hc hH 2 (pc' := 2) (lv' := [(0, .ref 50), (1, .int x)]) (st' := [.ref 50, .ref 50]) (μ' := μ) (by rfl) ?_
  refine zq_gfi hc hH (by rfl) (ci := 6) (f := 55) (by rfl) (by decide +kernel) (by rfl) ?_
  refine zq_if hc hH (by rfl) (tg := 19) (by rfl) (fun h1 => ?_) (fun h1 => ?_)
  · have h1 : (decide ((μ.1 50 55) = 0)) = true := decide_eq_true (cm_eq9.mp h1)
    exact absurd (Eq.trans (Eq.symm (hd9)) h1) (by decide)
  · have h1 : (decide ((μ.1 50 55) = 0)) = false := decide_eq_false (cn_eq.mp h1)
    refine z_rcs hc hH 1 (pc' := 9) (lv' := [(0, .ref 50), (1, .int x)]) (st' := [.int x, .ref 50]) (μ' := μ) (by rfl) ?_
    refine zq_if hc hH (by rfl) (tg := 19) (by rfl) (fun h2 => ?_) (fun h2 => ?_)
    · have h2 : (decide (x < 0)) = true := decide_eq_true (cm_lt.mp h2)
      refine z_rcs hc hH 2 (pc' := 24) (lv' := [(0, .ref 50), (1, .int x)]) (st' := [.int 1, .ref 50]) (μ' := μ) (by rfl) ?_
      refine zq_pfi hc hH (by rfl) (ci := 6) (f := 0) (by rfl) (by decide +kernel) (by rfl) ?_
      show Z 0 27 [(0, .ref 50), (1, .int x)] [] (z_ui μ 50 0 1)
      refine z_rcs hc hH 1 (pc' := 28) (lv' := [(0, .ref 50), (1, .int x)]) (st' := [.ref 50]) (μ' := z_ui μ 50 0 1) (by rfl) ?_
      refine zq_gfi hc hH (by rfl) (ci := 6) (f := 0) (by rfl) (by decide +kernel) (by rfl) ?_
      rw [ui_s]
      refine z_rcs hc hH 3 (pc' := 44) (lv' := [(0, .ref 50), (1, .int x)]) (st' := [.int 0]) (μ' := z_ui μ 50 0 1) (by rfl) ?_
      exact hr 0 44 _ _ _ (some (.int 0)) (by decide +kernel) (z_rx_ok hH (by rfl)) (⟨rfl, rfl⟩)
    · have h2 : (decide (x < 0)) = false := decide_eq_false (cn_lt.mp h2)
      exact absurd (Eq.trans (Eq.symm (hx)) h2) (by decide)
theorem gm_wallG (d : Nat) (hd : 2 ≤ d) (μ : zM) (x : Int32) (hd9 : decide (μ.1 50 55 = 0) = false) (hx : decide (x < 0) = false) (hg : decide (x < 136) = false) : z_C d mi_X7_wall [.ref 50, .int x] μ (fun r μ' => r = some (.int 0) ∧ μ' = z_ui μ 50 0 1) := by
  refine z_C_in (by decide) (by omega) (fun d' Z ed hc hr => ?_)
  have hH : zH mi_X7_wall zt_X7_wall 79 7 2 := hh_X7_wall
  refine z_rcs hc hH 2 (pc' := 2) (lv' := [(0, .ref 50), (1, .int x)]) (st' := [.ref 50, .ref 50]) (μ' := μ) (by rfl) ?_
  refine zq_gfi hc hH (by rfl) (ci := 6) (f := 55) (by rfl) (by decide +kernel) (by rfl) ?_
  refine zq_if hc hH (by rfl) (tg := 19) (by rfl) (fun h1 => ?_) (fun h1 => ?_)
  · have h1 : (decide ((μ.1 50 55) = 0)) = true := decide_eq_true (cm_eq9.mp h1)
    exact absurd (Eq.trans (Eq.symm (hd9)) h1) (by decide)
  · have h1 : (decide ((μ.1 50 55) = 0)) = false := decide_eq_false (cn_eq.mp h1)
    refine z_rcs hc hH 1 (pc' := 9) (lv' := [(0, .ref 50), (1, .int x)]) (st' := [.int x, .ref 50]) (μ' := μ) (by rfl) ?_
    refine zq_if hc hH (by rfl) (tg := 19) (by rfl) (fun h2 => ?_) (fun h2 => ?_)
    · have h2 : (decide (x < 0)) = true := decide_eq_true (cm_lt.mp h2)
      exact absurd (Eq.trans (Eq.symm (hx)) h2) (by decide)
    · have h2 : (decide (x < 0)) = false := decide_eq_false (cn_lt.mp h2)
      refine z_rcs hc hH 2 (pc' := 16) (lv' := [(0, .ref 50), (1, .int x)]) (st' := [.int 136, .int x, .ref 50]) (μ' := μ) (by rfl) ?_
      refine zq_ic hc hH (by rfl) (tg := 23) (by rfl) (fun h3 => ?_) (fun h3 => ?_)
      · have h3 : (decide (x < 136)) = true := decide_eq_true (cm_lt.mp h3)
        exact absurd (Eq.trans (Eq.symm (hg)) h3) (by decide)
      · have h3 : (decide (x < 136)) = false := decide_eq_false (cn_lt.mp h3)
        refine z_rcs hc hH 2 (pc' := 24) (lv' := [(0, .ref 50), (1, .int x)]) (st' := [.int 1, .ref 50]) (μ' := μ) (by rfl) ?_
        refine zq_pfi hc hH (by rfl) (ci := 6) (f := 0) (by rfl) (by decide +kernel) (by rfl) ?_
        show Z 0 27 [(0, .ref 50), (1, .int x)] [] (z_ui μ 50 0 1)
        refine z_rcs hc hH 1 (pc' := 28) (lv' := [(0, .ref 50), (1, .int x)]) (st' := [.ref 50]) (μ' := z_ui μ 50 0 1) (by rfl) ?_
        refine zq_gfi hc hH (by rfl) (ci := 6) (f := 0) (by rfl) (by decide +kernel) (by rfl) ?_
        rw [ui_s]
        refine z_rcs hc hH 3 (pc' := 44) (lv' := [(0, .ref 50), (1, .int x)]) (st' := [.int 0]) (μ' := z_ui μ 50 0 1) (by rfl) ?_
        exact hr 0 44 _ _ _ (some (.int 0)) (by decide +kernel) (z_rx_ok hH (by rfl)) (⟨rfl, rfl⟩)
theorem gm_wallI (d : Nat) (hd : 2 ≤ d) (μ : zM) (i : Nat) (hi : i < 136) (hd9 : decide (μ.1 50 55 = 0) = false) : z_C d mi_X7_wall [.ref 50, .int (nI i)] μ (fun r μ' => r = some (.int (μ.1 59 i)) ∧ μ' = z_ui μ 50 0 0) := by
  refine z_C_in (by decide) (by omega) (fun d' Z ed hc hr => ?_)
  have hH : zH mi_X7_wall zt_X7_wall 79 7 2 := hh_X7_wall
  refine z_rcs hc hH 2 (pc' := 2) (lv' := [(0, .ref 50), (1, .int (nI i))]) (st' := [.ref 50, .ref 50]) (μ' := μ) (by rfl) ?_
  refine zq_gfi hc hH (by rfl) (ci := 6) (f := 55) (by rfl) (by decide +kernel) (by rfl) ?_
  refine zq_if hc hH (by rfl) (tg := 19) (by rfl) (fun h1 => ?_) (fun h1 => ?_)
  · have h1 : (decide ((μ.1 50 55) = 0)) = true := decide_eq_true (cm_eq9.mp h1)
    exact absurd (Eq.trans (Eq.symm (hd9)) h1) (by decide)
  · have h1 : (decide ((μ.1 50 55) = 0)) = false := decide_eq_false (cn_eq.mp h1)
    refine z_rcs hc hH 1 (pc' := 9) (lv' := [(0, .ref 50), (1, .int (nI i))]) (st' := [.int (nI i), .ref 50]) (μ' := μ) (by rfl) ?_
    refine zq_if hc hH (by rfl) (tg := 19) (by rfl) (fun h2 => ?_) (fun h2 => ?_)
    · have h2 : (decide ((nI i) < 0)) = true := decide_eq_true (cm_lt.mp h2)
      exact absurd (Eq.trans (Eq.symm (kn_l0 (by omega))) h2) (by decide)
    · have h2 : (decide ((nI i) < 0)) = false := decide_eq_false (cn_lt.mp h2)
      refine z_rcs hc hH 2 (pc' := 16) (lv' := [(0, .ref 50), (1, .int (nI i))]) (st' := [.int 136, .int (nI i), .ref 50]) (μ' := μ) (by rfl) ?_
      refine zq_ic hc hH (by rfl) (tg := 23) (by rfl) (fun h3 => ?_) (fun h3 => ?_)
      · have h3 : (decide ((nI i) < 136)) = true := decide_eq_true (cm_lt.mp h3)
        refine z_rcs hc hH 1 (pc' := 24) (lv' := [(0, .ref 50), (1, .int (nI i))]) (st' := [.int 0, .ref 50]) (μ' := μ) (by rfl) ?_
        refine zq_pfi hc hH (by rfl) (ci := 6) (f := 0) (by rfl) (by decide +kernel) (by rfl) ?_
        show Z 0 27 [(0, .ref 50), (1, .int (nI i))] [] (z_ui μ 50 0 0)
        refine z_rcs hc hH 1 (pc' := 28) (lv' := [(0, .ref 50), (1, .int (nI i))]) (st' := [.ref 50]) (μ' := z_ui μ 50 0 0) (by rfl) ?_
        refine zq_gfi hc hH (by rfl) (ci := 6) (f := 0) (by rfl) (by decide +kernel) (by rfl) ?_
        rw [ui_s]
        refine z_rcs hc hH 2 (pc' := 39) (lv' := [(0, .ref 50), (1, .int (nI i))]) (st' := [.ref 50]) (μ' := z_ui μ 50 0 0) (by rfl) ?_
        refine zq_gfr hc hH (by rfl) (ci := 6) (f := 27) (q := 59) (by rfl) (by decide +kernel) (by rfl) (by decide +kernel) ?_
        refine z_rcs hc hH 1 (pc' := 43) (lv' := [(0, .ref 50), (1, .int (nI i))]) (st' := [.int (nI i), .ref 59]) (μ' := z_ui μ 50 0 0) (by rfl) ?_
        refine zq_iald hc hH (by rfl) 136 (oka_i (by decide +kernel)) (vp_in_nI (by omega) (by decide)) ?_
        rw [nI_clamp (by omega)]
        refine zV1 (Z := Z) (ui_o (by first | decide | omega)) ?_
        exact hr 0 44 _ _ _ (some (.int (μ.1 59 i))) (by decide +kernel) (z_rx_ok hH (by rfl)) (⟨rfl, rfl⟩)
      · have h3 : (decide ((nI i) < 136)) = false := decide_eq_false (cn_lt.mp h3)
        exact absurd (Eq.trans (Eq.symm (show decide (nI i < (136 : Int32)) = true from decide_eq_true (by rw [Int32.lt_iff_toInt_lt, nI_toInt (by omega), show (136 : Int32).toInt = 136 from by decide]; omega))) h3) (by decide)

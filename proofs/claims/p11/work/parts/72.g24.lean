/-! laid, won, forms: both sides exactly -/
set_option maxRecDepth 8000
theorem gm_laid0 (d : Nat) (hd : 3 ≤ d) (μ : zM) (s q : Nat) (hs4 : s < 4) (hq : q ≤ 4) (e64 : μ.1 64 s = nI q) (i : Nat) (hi : i < q) : z_C d mi_X7_laid [.ref 50, .int (nI s), .int (nI i), .int 0] μ (fun r μ' => r = some (.int (μ.1 62 (4 * s + i))) ∧ μ' = z_ui μ 50 0 0) := by
  refine z_C_in (by decide) (by omega) (fun d' Z ed hc hr => ?_)
  have hH : zH mi_X7_laid zt_X7_laid 79 7 4 := hh_X7_laid
  refine z_rcs hc hH 2 (pc' := 2) (lv' := [(0, .ref 50), (1, .int (nI s)), (2, .int (nI i)), (3, .int 0)]) (st' := [.int 0, .ref 50]) (μ' := μ) (by rfl) ?_
  refine zq_pfi hc hH (by rfl) (ci := 6) (f := 0) (by rfl) (by decide +kernel) (by rfl) ?_
  show Z 0 5 [(0, .ref 50), (1, .int (nI s)), (2, .int (nI i)), (3, .int 0)] [] (z_ui μ 50 0 0)
  refine z_rcs hc hH 1 (pc' := 6) (lv' := [(0, .ref 50), (1, .int (nI s)), (2, .int (nI i)), (3, .int 0)]) (st' := [.int (nI s)]) (μ' := z_ui μ 50 0 0) (by rfl) ?_
  refine zq_call hc (z_cx_ok hH (by rfl)) (gm_isSeatN d' (by omega) (z_ui μ 50 0 0) s hs4) (by decide +kernel) (fun r9 μ9 hq => ?_)
  obtain ⟨hμ9, rfl⟩ := hq
  rw [hμ9]
  clear hμ9 μ9
  show Z 0 9 [(0, .ref 50), (1, .int (nI s)), (2, .int (nI i)), (3, .int 0)] [.int 1] (z_ui μ 50 0 0)
  refine z_rcs hc hH 2 (pc' := 13) (lv' := [(0, .ref 50), (1, .int (nI s)), (2, .int (nI i)), (3, .int 0)]) (st' := [.int (nI i)]) (μ' := z_ui μ 50 0 0) (by rfl) ?_
  refine zq_if hc hH (by rfl) (tg := 35) (by rfl) (fun h1 => ?_) (fun h1 => ?_)
  · have h1 : (decide ((nI i) < 0)) = true := decide_eq_true (cm_lt.mp h1)
    exact absurd (Eq.trans (Eq.symm (kn_l0 (by omega))) h1) (by decide)
  · have h1 : (decide ((nI i) < 0)) = false := decide_eq_false (cn_lt.mp h1)
    refine z_rcs hc hH 2 (pc' := 18) (lv' := [(0, .ref 50), (1, .int (nI s)), (2, .int (nI i)), (3, .int 0)]) (st' := [.ref 50, .int (nI i)]) (μ' := z_ui μ 50 0 0) (by rfl) ?_
    refine zq_gfr hc hH (by rfl) (ci := 6) (f := 32) (q := 64) (by rfl) (by decide +kernel) (by rfl) (by decide +kernel) ?_
    refine z_rcs hc hH 1 (pc' := 22) (lv' := [(0, .ref 50), (1, .int (nI s)), (2, .int (nI i)), (3, .int 0)]) (st' := [.int (nI s), .ref 64, .int (nI i)]) (μ' := z_ui μ 50 0 0) (by rfl) ?_
    refine zq_iald hc hH (by rfl) 4 (oka_i (by decide +kernel)) (vp_in_nI (by omega) (by decide)) ?_
    rw [nI_clamp (by omega)]
    refine zV1 (Z := Z) (ui_o (by first | decide | omega)) ?_
    rw [e64]
    refine zq_ic hc hH (by rfl) (tg := 35) (by rfl) (fun h2 => ?_) (fun h2 => ?_)
    · have h2 : (decide ((nI q) ≤ (nI i))) = true := decide_eq_true (cm_ge.mp h2)
      exact absurd (Eq.trans (Eq.symm (kn_nlf (by omega) (by omega) (by omega))) h2) (by decide)
    · have h2 : (decide ((nI q) ≤ (nI i))) = false := decide_eq_false (cn_ge.mp h2)
      refine z_rcs hc hH 8 (pc' := 42) (lv' := [(0, .ref 50), (1, .int (nI s)), (2, .int (nI i)), (3, .int 0)]) (st' := [.ref 50]) (μ' := z_ui μ 50 0 0) (by rfl) ?_
      refine zq_gfr hc hH (by rfl) (ci := 6) (f := 30) (q := 62) (by rfl) (by decide +kernel) (by rfl) (by decide +kernel) ?_
      refine z_rcs hc hH 5 (pc' := 50) (lv' := [(0, .ref 50), (1, .int (nI s)), (2, .int (nI i)), (3, .int 0)]) (st' := [.int ((4 * (nI s)) + (nI i)), .ref 62]) (μ' := z_ui μ 50 0 0) (by rfl) ?_
      rw [nI_k4]
      refine zq_iald hc hH (by rfl) 16 (oka_i (by decide +kernel)) (vp_in_nI (by omega) (by decide)) ?_
      rw [nI_clamp (by omega)]
      refine zV1 (Z := Z) (ui_o (by first | decide | omega)) ?_
      refine z_rcs hc hH 1 (pc' := 64) (lv' := [(0, .ref 50), (1, .int (nI s)), (2, .int (nI i)), (3, .int 0)]) (st' := [.int (μ.1 62 (4 * s + i))]) (μ' := z_ui μ 50 0 0) (by rfl) ?_
      exact hr 0 64 _ _ _ (some (.int (μ.1 62 (4 * s + i)))) (by decide +kernel) (z_rx_ok hH (by rfl)) (⟨rfl, rfl⟩)
theorem gm_laid1 (d : Nat) (hd : 3 ≤ d) (μ : zM) (s q : Nat) (hs4 : s < 4) (hq : q ≤ 4) (e64 : μ.1 64 s = nI q) (i : Nat) (hi : i < q) : z_C d mi_X7_laid [.ref 50, .int (nI s), .int (nI i), .int 1] μ (fun r μ' => r = some (.int (μ.1 63 (4 * s + i))) ∧ μ' = z_ui μ 50 0 0) := by
  refine z_C_in (by decide) (by omega) (fun d' Z ed hc hr => ?_)
  have hH : zH mi_X7_laid zt_X7_laid 79 7 4 := hh_X7_laid
  refine z_rcs hc hH 2 (pc' := 2) (lv' := [(0, .ref 50), (1, .int (nI s)), (2, .int (nI i)), (3, .int 1)]) (st' := [.int 0, .ref 50]) (μ' := μ) (by rfl) ?_
  refine zq_pfi hc hH (by rfl) (ci := 6) (f := 0) (by rfl) (by decide +kernel) (by rfl) ?_
  show Z 0 5 [(0, .ref 50), (1, .int (nI s)), (2, .int (nI i)), (3, .int 1)] [] (z_ui μ 50 0 0)
  refine z_rcs hc hH 1 (pc' := 6) (lv' := [(0, .ref 50), (1, .int (nI s)), (2, .int (nI i)), (3, .int 1)]) (st' := [.int (nI s)]) (μ' := z_ui μ 50 0 0) (by rfl) ?_
  refine zq_call hc (z_cx_ok hH (by rfl)) (gm_isSeatN d' (by omega) (z_ui μ 50 0 0) s hs4) (by decide +kernel) (fun r9 μ9 hq => ?_)
  obtain ⟨hμ9, rfl⟩ := hq
  rw [hμ9]
  clear hμ9 μ9
  show Z 0 9 [(0, .ref 50), (1, .int (nI s)), (2, .int (nI i)), (3, .int 1)] [.int 1] (z_ui μ 50 0 0)
  refine z_rcs hc hH 2 (pc' := 13) (lv' := [(0, .ref 50), (1, .int (nI s)), (2, .int (nI i)), (3, .int 1)]) (st' := [.int (nI i)]) (μ' := z_ui μ 50 0 0) (by rfl) ?_
  refine zq_if hc hH (by rfl) (tg := 35) (by rfl) (fun h1 => ?_) (fun h1 => ?_)
  · have h1 : (decide ((nI i) < 0)) = true := decide_eq_true (cm_lt.mp h1)
    exact absurd (Eq.trans (Eq.symm (kn_l0 (by omega))) h1) (by decide)
  · have h1 : (decide ((nI i) < 0)) = false := decide_eq_false (cn_lt.mp h1)
    refine z_rcs hc hH 2 (pc' := 18) (lv' := [(0, .ref 50), (1, .int (nI s)), (2, .int (nI i)), (3, .int 1)]) (st' := [.ref 50, .int (nI i)]) (μ' := z_ui μ 50 0 0) (by rfl) ?_
    refine zq_gfr hc hH (by rfl) (ci := 6) (f := 32) (q := 64) (by rfl) (by decide +kernel) (by rfl) (by decide +kernel) ?_
    refine z_rcs hc hH 1 (pc' := 22) (lv' := [(0, .ref 50), (1, .int (nI s)), (2, .int (nI i)), (3, .int 1)]) (st' := [.int (nI s), .ref 64, .int (nI i)]) (μ' := z_ui μ 50 0 0) (by rfl) ?_
    refine zq_iald hc hH (by rfl) 4 (oka_i (by decide +kernel)) (vp_in_nI (by omega) (by decide)) ?_
    rw [nI_clamp (by omega)]
    refine zV1 (Z := Z) (ui_o (by first | decide | omega)) ?_
    rw [e64]
    refine zq_ic hc hH (by rfl) (tg := 35) (by rfl) (fun h2 => ?_) (fun h2 => ?_)
    · have h2 : (decide ((nI q) ≤ (nI i))) = true := decide_eq_true (cm_ge.mp h2)
      exact absurd (Eq.trans (Eq.symm (kn_nlf (by omega) (by omega) (by omega))) h2) (by decide)
    · have h2 : (decide ((nI q) ≤ (nI i))) = false := decide_eq_false (cn_ge.mp h2)
      refine z_rcs hc hH 8 (pc' := 55) (lv' := [(0, .ref 50), (1, .int (nI s)), (2, .int (nI i)), (3, .int 1)]) (st' := [.ref 50]) (μ' := z_ui μ 50 0 0) (by rfl) ?_
      refine zq_gfr hc hH (by rfl) (ci := 6) (f := 31) (q := 63) (by rfl) (by decide +kernel) (by rfl) (by decide +kernel) ?_
      refine z_rcs hc hH 5 (pc' := 63) (lv' := [(0, .ref 50), (1, .int (nI s)), (2, .int (nI i)), (3, .int 1)]) (st' := [.int ((4 * (nI s)) + (nI i)), .ref 63]) (μ' := z_ui μ 50 0 0) (by rfl) ?_
      rw [nI_k4]
      refine zq_iald hc hH (by rfl) 16 (oka_i (by decide +kernel)) (vp_in_nI (by omega) (by decide)) ?_
      rw [nI_clamp (by omega)]
      refine zV1 (Z := Z) (ui_o (by first | decide | omega)) ?_
      exact hr 0 64 _ _ _ (some (.int (μ.1 63 (4 * s + i)))) (by decide +kernel) (z_rx_ok hH (by rfl)) (⟨rfl, rfl⟩)
theorem gm_laidS (d : Nat) (hd : 3 ≤ d) (μ : zM) (y x wh : Int32) (hs : ∀ d, 1 ≤ d → z_C d mi_X7_isSeat [.int y] (z_ui μ 50 0 0) (zR (z_ui μ 50 0 0) (.int 0))) : z_C d mi_X7_laid [.ref 50, .int y, .int x, .int wh] μ (fun r μ' => r = some (.int (-1)) ∧ μ' = z_ui μ 50 0 0) := by
  refine z_C_in (by decide) (by omega) (fun d' Z ed hc hr => ?_)
  have hH : zH mi_X7_laid zt_X7_laid 79 7 4 := hh_X7_laid
  refine z_rcs hc hH 2 (pc' := 2) (lv' := [(0, .ref 50), (1, .int y), (2, .int x), (3, .int wh)]) (st' := [.int 0, .ref 50]) (μ' := μ) (by rfl) ?_
  refine zq_pfi hc hH (by rfl) (ci := 6) (f := 0) (by rfl) (by decide +kernel) (by rfl) ?_
  show Z 0 5 [(0, .ref 50), (1, .int y), (2, .int x), (3, .int wh)] [] (z_ui μ 50 0 0)
  refine z_rcs hc hH 1 (pc' := 6) (lv' := [(0, .ref 50), (1, .int y), (2, .int x), (3, .int wh)]) (st' := [.int y]) (μ' := z_ui μ 50 0 0) (by rfl) ?_
  refine zq_call hc (z_cx_ok hH (by rfl)) (hs d' (by omega)) (by decide +kernel) (fun r9 μ9 hq => ?_)
  obtain ⟨hμ9, rfl⟩ := hq
  rw [hμ9]
  clear hμ9 μ9
  show Z 0 9 [(0, .ref 50), (1, .int y), (2, .int x), (3, .int wh)] [.int 0] (z_ui μ 50 0 0)
  refine z_rcs hc hH 2 (pc' := 36) (lv' := [(0, .ref 50), (1, .int y), (2, .int x), (3, .int wh)]) (st' := [.int (-1)]) (μ' := z_ui μ 50 0 0) (by rfl) ?_
  exact hr 0 36 _ _ _ (some (.int (-1))) (by decide +kernel) (z_rx_ok hH (by rfl)) (⟨rfl, rfl⟩)
theorem gm_laidN (d : Nat) (hd : 3 ≤ d) (μ : zM) (s q : Nat) (hs4 : s < 4) (hq : q ≤ 4) (e64 : μ.1 64 s = nI q) (x wh : Int32) (hx : decide (x < 0) = true) : z_C d mi_X7_laid [.ref 50, .int (nI s), .int x, .int wh] μ (fun r μ' => r = some (.int (-1)) ∧ μ' = z_ui μ 50 0 0) := by
  refine z_C_in (by decide) (by omega) (fun d' Z ed hc hr => ?_)
  have hH : zH mi_X7_laid zt_X7_laid 79 7 4 := hh_X7_laid
  refine z_rcs hc hH 2 (pc' := 2) (lv' := [(0, .ref 50), (1, .int (nI s)), (2, .int x), (3, .int wh)]) (st' := [.int 0, .ref 50]) (μ' := μ) (by rfl) ?_
  refine zq_pfi hc hH (by rfl) (ci := 6) (f := 0) (by rfl) (by decide +kernel) (by rfl) ?_
  show Z 0 5 [(0, .ref 50), (1, .int (nI s)), (2, .int x), (3, .int wh)] [] (z_ui μ 50 0 0)
  refine z_rcs hc hH 1 (pc' := 6) (lv' := [(0, .ref 50), (1, .int (nI s)), (2, .int x), (3, .int wh)]) (st' := [.int (nI s)]) (μ' := z_ui μ 50 0 0) (by rfl) ?_
  refine zq_call hc (z_cx_ok hH (by rfl)) (gm_isSeatN d' (by omega) (z_ui μ 50 0 0) s hs4) (by decide +kernel) (fun r9 μ9 hq => ?_)
  obtain ⟨hμ9, rfl⟩ := hq
  rw [hμ9]
  clear hμ9 μ9
  show Z 0 9 [(0, .ref 50), (1, .int (nI s)), (2, .int x), (3, .int wh)] [.int 1] (z_ui μ 50 0 0)
  refine z_rcs hc hH 2 (pc' := 13) (lv' := [(0, .ref 50), (1, .int (nI s)), (2, .int x), (3, .int wh)]) (st' := [.int x]) (μ' := z_ui μ 50 0 0) (by rfl) ?_
  refine zq_if hc hH (by rfl) (tg := 35) (by rfl) (fun h1 => ?_) (fun h1 => ?_)
  · have h1 : (decide (x < 0)) = true := decide_eq_true (cm_lt.mp h1)
    refine z_rcs hc hH 1 (pc' := 36) (lv' := [(0, .ref 50), (1, .int (nI s)), (2, .int x), (3, .int wh)]) (st' := [.int (-1)]) (μ' := z_ui μ 50 0 0) (by rfl) ?_
    exact hr 0 36 _ _ _ (some (.int (-1))) (by decide +kernel) (z_rx_ok hH (by rfl)) (⟨rfl, rfl⟩)
  · have h1 : (decide (x < 0)) = false := decide_eq_false (cn_lt.mp h1)
    exact absurd (Eq.trans (Eq.symm (hx)) h1) (by decide)
theorem gm_laidG (d : Nat) (hd : 3 ≤ d) (μ : zM) (s q : Nat) (hs4 : s < 4) (hq : q ≤ 4) (e64 : μ.1 64 s = nI q) (x wh : Int32) (hx : decide (x < 0) = false) (hg : decide (nI q ≤ x) = true) : z_C d mi_X7_laid [.ref 50, .int (nI s), .int x, .int wh] μ (fun r μ' => r = some (.int (-1)) ∧ μ' = z_ui μ 50 0 0) := by
  refine z_C_in (by decide) (by omega) (fun d' Z ed hc hr => ?_)
  have hH : zH mi_X7_laid zt_X7_laid 79 7 4 := hh_X7_laid
  refine z_rcs hc hH 2 (pc' := 2) (lv' := [(0, .ref 50), (1, .int (nI s)), (2, .int x), (3, .int wh)]) (st' := [.int 0, .ref 50]) (μ' := μ) (by rfl) ?_
  refine zq_pfi hc hH (by rfl) (ci := 6) (f := 0) (by rfl) (by decide +kernel) (by rfl) ?_
  show Z 0 5 [(0, .ref 50), (1, .int (nI s)), (2, .int x), (3, .int wh)] [] (z_ui μ 50 0 0)
  refine z_rcs hc hH 1 (pc' := 6) (lv' := [(0, .ref 50), (1, .int (nI s)), (2, .int x), (3, .int wh)]) (st' := [.int (nI s)]) (μ' := z_ui μ 50 0 0) (by rfl) ?_
  refine zq_call hc (z_cx_ok hH (by rfl)) (gm_isSeatN d' (by omega) (z_ui μ 50 0 0) s hs4) (by decide +kernel) (fun r9 μ9 hq => ?_)
  obtain ⟨hμ9, rfl⟩ := hq
  rw [hμ9]
  clear hμ9 μ9
  show Z 0 9 [(0, .ref 50), (1, .int (nI s)), (2, .int x), (3, .int wh)] [.int 1] (z_ui μ 50 0 0)
  refine z_rcs hc hH 2 (pc' := 13) (lv' := [(0, .ref 50), (1, .int (nI s)), (2, .int x), (3, .int wh)]) (st' := [.int x]) (μ' := z_ui μ 50 0 0) (by rfl) ?_
  refine zq_if hc hH (by rfl) (tg := 35) (by rfl) (fun h1 => ?_) (fun h1 => ?_)
  · have h1 : (decide (x < 0)) = true := decide_eq_true (cm_lt.mp h1)
    exact absurd (Eq.trans (Eq.symm (hx)) h1) (by decide)
  · have h1 : (decide (x < 0)) = false := decide_eq_false (cn_lt.mp h1)
    refine z_rcs hc hH 2 (pc' := 18) (lv' := [(0, .ref 50), (1, .int (nI s)), (2, .int x), (3, .int wh)]) (st' := [.ref 50, .int x]) (μ' := z_ui μ 50 0 0) (by rfl) ?_
    refine zq_gfr hc hH (by rfl) (ci := 6) (f := 32) (q := 64) (by rfl) (by decide +kernel) (by rfl) (by decide +kernel) ?_
    refine z_rcs hc hH 1 (pc' := 22) (lv' := [(0, .ref 50), (1, .int (nI s)), (2, .int x), (3, .int wh)]) (st' := [.int (nI s), .ref 64, .int x]) (μ' := z_ui μ 50 0 0) (by rfl) ?_
    refine zq_iald hc hH (by rfl) 4 (oka_i (by decide +kernel)) (vp_in_nI (by omega) (by decide)) ?_
    rw [nI_clamp (by omega)]
    refine zV1 (Z := Z) (ui_o (by first | decide | omega)) ?_
    rw [e64]
    refine zq_ic hc hH (by rfl) (tg := 35) (by rfl) (fun h2 => ?_) (fun h2 => ?_)
    · have h2 : (decide ((nI q) ≤ x)) = true := decide_eq_true (cm_ge.mp h2)
      refine z_rcs hc hH 1 (pc' := 36) (lv' := [(0, .ref 50), (1, .int (nI s)), (2, .int x), (3, .int wh)]) (st' := [.int (-1)]) (μ' := z_ui μ 50 0 0) (by rfl) ?_
      exact hr 0 36 _ _ _ (some (.int (-1))) (by decide +kernel) (z_rx_ok hH (by rfl)) (⟨rfl, rfl⟩)
    · have h2 : (decide ((nI q) ≤ x)) = false := decide_eq_false (cn_ge.mp h2)
      exact absurd (Eq.trans (Eq.symm (hg)) h2) (by decide)
theorem gm_laidW (d : Nat) (hd : 3 ≤ d) (μ : zM) (s q : Nat) (hs4 : s < 4) (hq : q ≤ 4) (e64 : μ.1 64 s = nI q) (i : Nat) (hi : i < q) (wh : Int32) (hw : decide (wh < 0) = true) : z_C d mi_X7_laid [.ref 50, .int (nI s), .int (nI i), .int wh] μ (fun r μ' => r = some (.int (-1)) ∧ μ' = z_ui μ 50 0 0) := by
  refine z_C_in (by decide) (by omega) (fun d' Z ed hc hr => ?_)
  have hH : zH mi_X7_laid zt_X7_laid 79 7 4 := hh_X7_laid
  refine z_rcs hc hH 2 (pc' := 2) (lv' := [(0, .ref 50), (1, .int (nI s)), (2, .int (nI i)), (3, .int wh)]) (st' := [.int 0, .ref 50]) (μ' := μ) (by rfl) ?_
  refine zq_pfi hc hH (by rfl) (ci := 6) (f := 0) (by rfl) (by decide +kernel) (by rfl) ?_
  show Z 0 5 [(0, .ref 50), (1, .int (nI s)), (2, .int (nI i)), (3, .int wh)] [] (z_ui μ 50 0 0)
  refine z_rcs hc hH 1 (pc' := 6) (lv' := [(0, .ref 50), (1, .int (nI s)), (2, .int (nI i)), (3, .int wh)]) (st' := [.int (nI s)]) (μ' := z_ui μ 50 0 0) (by rfl) ?_
  refine zq_call hc (z_cx_ok hH (by rfl)) (gm_isSeatN d' (by omega) (z_ui μ 50 0 0) s hs4) (by decide +kernel) (fun r9 μ9 hq => ?_)
  obtain ⟨hμ9, rfl⟩ := hq
  rw [hμ9]
  clear hμ9 μ9
  show Z 0 9 [(0, .ref 50), (1, .int (nI s)), (2, .int (nI i)), (3, .int wh)] [.int 1] (z_ui μ 50 0 0)
  refine z_rcs hc hH 2 (pc' := 13) (lv' := [(0, .ref 50), (1, .int (nI s)), (2, .int (nI i)), (3, .int wh)]) (st' := [.int (nI i)]) (μ' := z_ui μ 50 0 0) (by rfl) ?_
  refine zq_if hc hH (by rfl) (tg := 35) (by rfl) (fun h1 => ?_) (fun h1 => ?_)
  · have h1 : (decide ((nI i) < 0)) = true := decide_eq_true (cm_lt.mp h1)
    exact absurd (Eq.trans (Eq.symm (kn_l0 (by omega))) h1) (by decide)
  · have h1 : (decide ((nI i) < 0)) = false := decide_eq_false (cn_lt.mp h1)
    refine z_rcs hc hH 2 (pc' := 18) (lv' := [(0, .ref 50), (1, .int (nI s)), (2, .int (nI i)), (3, .int wh)]) (st' := [.ref 50, .int (nI i)]) (μ' := z_ui μ 50 0 0) (by rfl) ?_
    refine zq_gfr hc hH (by rfl) (ci := 6) (f := 32) (q := 64) (by rfl) (by decide +kernel) (by rfl) (by decide +kernel) ?_
    refine z_rcs hc hH 1 (pc' := 22) (lv' := [(0, .ref 50), (1, .int (nI s)), (2, .int (nI i)), (3, .int wh)]) (st' := [.int (nI s), .ref 64, .int (nI i)]) (μ' := z_ui μ 50 0 0) (by rfl) ?_
    refine zq_iald hc hH (by rfl) 4 (oka_i (by decide +kernel)) (vp_in_nI (by omega) (by decide)) ?_
    rw [nI_clamp (by omega)]
    refine zV1 (Z := Z) (ui_o (by first | decide | omega)) ?_
    rw [e64]
    refine zq_ic hc hH (by rfl) (tg := 35) (by rfl) (fun h2 => ?_) (fun h2 => ?_)
    · have h2 : (decide ((nI q) ≤ (nI i))) = true := decide_eq_true (cm_ge.mp h2)
      exact absurd (Eq.trans (Eq.symm (kn_nlf (by omega) (by omega) (by omega))) h2) (by decide)
    · have h2 : (decide ((nI q) ≤ (nI i))) = false := decide_eq_false (cn_ge.mp h2)
      refine z_rcs hc hH 1 (pc' := 27) (lv' := [(0, .ref 50), (1, .int (nI s)), (2, .int (nI i)), (3, .int wh)]) (st' := [.int wh]) (μ' := z_ui μ 50 0 0) (by rfl) ?_
      refine zq_if hc hH (by rfl) (tg := 35) (by rfl) (fun h3 => ?_) (fun h3 => ?_)
      · have h3 : (decide (wh < 0)) = true := decide_eq_true (cm_lt.mp h3)
        refine z_rcs hc hH 1 (pc' := 36) (lv' := [(0, .ref 50), (1, .int (nI s)), (2, .int (nI i)), (3, .int wh)]) (st' := [.int (-1)]) (μ' := z_ui μ 50 0 0) (by rfl) ?_
        exact hr 0 36 _ _ _ (some (.int (-1))) (by decide +kernel) (z_rx_ok hH (by rfl)) (⟨rfl, rfl⟩)
      · have h3 : (decide (wh < 0)) = false := decide_eq_false (cn_lt.mp h3)
        exact absurd (Eq.trans (Eq.symm (hw)) h3) (by decide)
theorem gm_laidV (d : Nat) (hd : 3 ≤ d) (μ : zM) (s q : Nat) (hs4 : s < 4) (hq : q ≤ 4) (e64 : μ.1 64 s = nI q) (i : Nat) (hi : i < q) (wh : Int32) (hw : decide (wh < 0) = false) (hv : decide (wh ≤ 1) = false) : z_C d mi_X7_laid [.ref 50, .int (nI s), .int (nI i), .int wh] μ (fun r μ' => r = some (.int (-1)) ∧ μ' = z_ui μ 50 0 0) := by
  refine z_C_in (by decide) (by omega) (fun d' Z ed hc hr => ?_)
  have hH : zH mi_X7_laid zt_X7_laid 79 7 4 := hh_X7_laid
  refine z_rcs hc hH 2 (pc' := 2) (lv' := [(0, .ref 50), (1, .int (nI s)), (2, .int (nI i)), (3, .int wh)]) (st' := [.int 0, .ref 50]) (μ' := μ) (by rfl) ?_
  refine zq_pfi hc hH (by rfl) (ci := 6) (f := 0) (by rfl) (by decide +kernel) (by rfl) ?_
  show Z 0 5 [(0, .ref 50), (1, .int (nI s)), (2, .int (nI i)), (3, .int wh)] [] (z_ui μ 50 0 0)
  refine z_rcs hc hH 1 (pc' := 6) (lv' := [(0, .ref 50), (1, .int (nI s)), (2, .int (nI i)), (3, .int wh)]) (st' := [.int (nI s)]) (μ' := z_ui μ 50 0 0) (by rfl) ?_
  refine zq_call hc (z_cx_ok hH (by rfl)) (gm_isSeatN d' (by omega) (z_ui μ 50 0 0) s hs4) (by decide +kernel) (fun r9 μ9 hq => ?_)
  obtain ⟨hμ9, rfl⟩ := hq
  rw [hμ9]
  clear hμ9 μ9
  show Z 0 9 [(0, .ref 50), (1, .int (nI s)), (2, .int (nI i)), (3, .int wh)] [.int 1] (z_ui μ 50 0 0)
  refine z_rcs hc hH 2 (pc' := 13) (lv' := [(0, .ref 50), (1, .int (nI s)), (2, .int (nI i)), (3, .int wh)]) (st' := [.int (nI i)]) (μ' := z_ui μ 50 0 0) (by rfl) ?_
  refine zq_if hc hH (by rfl) (tg := 35) (by rfl) (fun h1 => ?_) (fun h1 => ?_)
  · have h1 : (decide ((nI i) < 0)) = true := decide_eq_true (cm_lt.mp h1)
    exact absurd (Eq.trans (Eq.symm (kn_l0 (by omega))) h1) (by decide)
  · have h1 : (decide ((nI i) < 0)) = false := decide_eq_false (cn_lt.mp h1)
    refine z_rcs hc hH 2 (pc' := 18) (lv' := [(0, .ref 50), (1, .int (nI s)), (2, .int (nI i)), (3, .int wh)]) (st' := [.ref 50, .int (nI i)]) (μ' := z_ui μ 50 0 0) (by rfl) ?_
    refine zq_gfr hc hH (by rfl) (ci := 6) (f := 32) (q := 64) (by rfl) (by decide +kernel) (by rfl) (by decide +kernel) ?_
    refine z_rcs hc hH 1 (pc' := 22) (lv' := [(0, .ref 50), (1, .int (nI s)), (2, .int (nI i)), (3, .int wh)]) (st' := [.int (nI s), .ref 64, .int (nI i)]) (μ' := z_ui μ 50 0 0) (by rfl) ?_
    refine zq_iald hc hH (by rfl) 4 (oka_i (by decide +kernel)) (vp_in_nI (by omega) (by decide)) ?_
    rw [nI_clamp (by omega)]
    refine zV1 (Z := Z) (ui_o (by first | decide | omega)) ?_
    rw [e64]
    refine zq_ic hc hH (by rfl) (tg := 35) (by rfl) (fun h2 => ?_) (fun h2 => ?_)
    · have h2 : (decide ((nI q) ≤ (nI i))) = true := decide_eq_true (cm_ge.mp h2)
      exact absurd (Eq.trans (Eq.symm (kn_nlf (by omega) (by omega) (by omega))) h2) (by decide)
    · have h2 : (decide ((nI q) ≤ (nI i))) = false := decide_eq_false (cn_ge.mp h2)
      refine z_rcs hc hH 1 (pc' := 27) (lv' := [(0, .ref 50), (1, .int (nI s)), (2, .int (nI i)), (3, .int wh)]) (st' := [.int wh]) (μ' := z_ui μ 50 0 0) (by rfl) ?_
      refine zq_if hc hH (by rfl) (tg := 35) (by rfl) (fun h3 => ?_) (fun h3 => ?_)
      · have h3 : (decide (wh < 0)) = true := decide_eq_true (cm_lt.mp h3)
        exact absurd (Eq.trans (Eq.symm (hw)) h3) (by decide)
      · have h3 : (decide (wh < 0)) = false := decide_eq_false (cn_lt.mp h3)
        refine z_rcs hc hH 2 (pc' := 32) (lv' := [(0, .ref 50), (1, .int (nI s)), (2, .int (nI i)), (3, .int wh)]) (st' := [.int 1, .int wh]) (μ' := z_ui μ 50 0 0) (by rfl) ?_
        refine zq_ic hc hH (by rfl) (tg := 37) (by rfl) (fun h4 => ?_) (fun h4 => ?_)
        · have h4 : (decide (wh ≤ 1)) = true := decide_eq_true (cm_le.mp h4)
          exact absurd (Eq.trans (Eq.symm (hv)) h4) (by decide)
        · have h4 : (decide (wh ≤ 1)) = false := decide_eq_false (cn_le.mp h4)
          refine z_rcs hc hH 1 (pc' := 36) (lv' := [(0, .ref 50), (1, .int (nI s)), (2, .int (nI i)), (3, .int wh)]) (st' := [.int (-1)]) (μ' := z_ui μ 50 0 0) (by rfl) ?_
          exact hr 0 36 _ _ _ (some (.int (-1))) (by decide +kernel) (z_rx_ok hH (by rfl)) (⟨rfl, rfl⟩)
theorem gm_formsN (d : Nat) (hd : 2 ≤ d) (μ : zM) (x : Int32) (hx : decide (x < 0) = true) : z_C d mi_X7_forms [.ref 50, .int x] μ (fun r μ' => r = some (.long 0) ∧ μ' = z_ui μ 50 0 0) := by
  refine z_C_in (by decide) (by omega) (fun d' Z ed hc hr => ?_)
  have hH : zH mi_X7_forms zt_X7_forms 79 7 2 := hh_X7_forms
  refine z_rcs hc hH 2 (pc' := 2) (lv' := [(0, .ref 50), (1, .int x)]) (st' := [.int 0, .ref 50]) (μ' := μ) (by rfl) ?_
  refine zq_pfi hc hH (by rfl) (ci := 6) (f := 0) (by rfl) (by decide +kernel) (by rfl) ?_
  show Z 0 5 [(0, .ref 50), (1, .int x)] [] (z_ui μ 50 0 0)
  refine z_rcs hc hH 1 (pc' := 6) (lv' := [(0, .ref 50), (1, .int x)]) (st' := [.int x]) (μ' := z_ui μ 50 0 0) (by rfl) ?_
  refine zq_if hc hH (by rfl) (tg := 17) (by rfl) (fun h1 => ?_) (fun h1 => ?_)
  · have h1 : (decide (x < 0)) = true := decide_eq_true (cm_lt.mp h1)
    refine z_rcs hc hH 2 (pc' := 27) (lv' := [(0, .ref 50), (1, .int x)]) (st' := [.long 0]) (μ' := z_ui μ 50 0 0) (by rfl) ?_
    exact hr 0 27 _ _ _ (some (.long 0)) (by decide +kernel) (z_rx_ok hH (by rfl)) (⟨rfl, rfl⟩)
  · have h1 : (decide (x < 0)) = false := decide_eq_false (cn_lt.mp h1)
    exact absurd (Eq.trans (Eq.symm (hx)) h1) (by decide)
theorem gm_formsG (d : Nat) (hd : 2 ≤ d) (μ : zM) (x : Int32) (hx : decide (x < 0) = false) (hg : decide (x < μ.1 50 53) = false) : z_C d mi_X7_forms [.ref 50, .int x] μ (fun r μ' => r = some (.long 0) ∧ μ' = z_ui μ 50 0 0) := by
  refine z_C_in (by decide) (by omega) (fun d' Z ed hc hr => ?_)
  have hH : zH mi_X7_forms zt_X7_forms 79 7 2 := hh_X7_forms
  refine z_rcs hc hH 2 (pc' := 2) (lv' := [(0, .ref 50), (1, .int x)]) (st' := [.int 0, .ref 50]) (μ' := μ) (by rfl) ?_
  refine zq_pfi hc hH (by rfl) (ci := 6) (f := 0) (by rfl) (by decide +kernel) (by rfl) ?_
  show Z 0 5 [(0, .ref 50), (1, .int x)] [] (z_ui μ 50 0 0)
  refine z_rcs hc hH 1 (pc' := 6) (lv' := [(0, .ref 50), (1, .int x)]) (st' := [.int x]) (μ' := z_ui μ 50 0 0) (by rfl) ?_
  refine zq_if hc hH (by rfl) (tg := 17) (by rfl) (fun h1 => ?_) (fun h1 => ?_)
  · have h1 : (decide (x < 0)) = true := decide_eq_true (cm_lt.mp h1)
    exact absurd (Eq.trans (Eq.symm (hx)) h1) (by decide)
  · have h1 : (decide (x < 0)) = false := decide_eq_false (cn_lt.mp h1)
    refine z_rcs hc hH 2 (pc' := 11) (lv' := [(0, .ref 50), (1, .int x)]) (st' := [.ref 50, .int x]) (μ' := z_ui μ 50 0 0) (by rfl) ?_
    refine zq_gfi hc hH (by rfl) (ci := 6) (f := 53) (by rfl) (by decide +kernel) (by rfl) ?_
    refine zV1 (Z := Z) (ui_k (by first | decide | omega)) ?_
    refine zq_ic hc hH (by rfl) (tg := 21) (by rfl) (fun h2 => ?_) (fun h2 => ?_)
    · have h2 : (decide (x < (μ.1 50 53))) = true := decide_eq_true (cm_lt.mp h2)
      exact absurd (Eq.trans (Eq.symm (hg)) h2) (by decide)
    · have h2 : (decide (x < (μ.1 50 53))) = false := decide_eq_false (cn_lt.mp h2)
      refine z_rcs hc hH 2 (pc' := 27) (lv' := [(0, .ref 50), (1, .int x)]) (st' := [.long 0]) (μ' := z_ui μ 50 0 0) (by rfl) ?_
      exact hr 0 27 _ _ _ (some (.long 0)) (by decide +kernel) (z_rx_ok hH (by rfl)) (⟨rfl, rfl⟩)
theorem gm_formsI (d : Nat) (hd : 2 ≤ d) (μ : zM) (i n : Nat) (hi : i < n) (hn : n ≤ 4) (e53 : μ.1 50 53 = nI n) : z_C d mi_X7_forms [.ref 50, .int (nI i)] μ (fun r μ' => r = some (.long (μ.2.1 73 i)) ∧ μ' = z_ui μ 50 0 0) := by
  refine z_C_in (by decide) (by omega) (fun d' Z ed hc hr => ?_)
  have hH : zH mi_X7_forms zt_X7_forms 79 7 2 := hh_X7_forms
  refine z_rcs hc hH 2 (pc' := 2) (lv' := [(0, .ref 50), (1, .int (nI i))]) (st' := [.int 0, .ref 50]) (μ' := μ) (by rfl) ?_
  refine zq_pfi hc hH (by rfl) (ci := 6) (f := 0) (by rfl) (by decide +kernel) (by rfl) ?_
  show Z 0 5 [(0, .ref 50), (1, .int (nI i))] [] (z_ui μ 50 0 0)
  refine z_rcs hc hH 1 (pc' := 6) (lv' := [(0, .ref 50), (1, .int (nI i))]) (st' := [.int (nI i)]) (μ' := z_ui μ 50 0 0) (by rfl) ?_
  refine zq_if hc hH (by rfl) (tg := 17) (by rfl) (fun h1 => ?_) (fun h1 => ?_)
  · have h1 : (decide ((nI i) < 0)) = true := decide_eq_true (cm_lt.mp h1)
    exact absurd (Eq.trans (Eq.symm (kn_l0 (by omega))) h1) (by decide)
  · have h1 : (decide ((nI i) < 0)) = false := decide_eq_false (cn_lt.mp h1)
    refine z_rcs hc hH 2 (pc' := 11) (lv' := [(0, .ref 50), (1, .int (nI i))]) (st' := [.ref 50, .int (nI i)]) (μ' := z_ui μ 50 0 0) (by rfl) ?_
    refine zq_gfi hc hH (by rfl) (ci := 6) (f := 53) (by rfl) (by decide +kernel) (by rfl) ?_
    refine zV1 (Z := Z) (ui_k (by first | decide | omega)) ?_
    rw [e53]
    refine zq_ic hc hH (by rfl) (tg := 21) (by rfl) (fun h2 => ?_) (fun h2 => ?_)
    · have h2 : (decide ((nI i) < (nI n))) = true := decide_eq_true (cm_lt.mp h2)
      refine z_rcs hc hH 1 (pc' := 22) (lv' := [(0, .ref 50), (1, .int (nI i))]) (st' := [.ref 50]) (μ' := z_ui μ 50 0 0) (by rfl) ?_
      refine zq_gfr hc hH (by rfl) (ci := 6) (f := 61) (q := 73) (by rfl) (by decide +kernel) (by rfl) (by decide +kernel) ?_
      refine z_rcs hc hH 1 (pc' := 26) (lv' := [(0, .ref 50), (1, .int (nI i))]) (st' := [.int (nI i), .ref 73]) (μ' := z_ui μ 50 0 0) (by rfl) ?_
      refine zq_lald hc hH (by rfl) 4 (by decide +kernel) (vp_in_nI (by omega) (by decide)) ?_
      rw [nI_clamp (by omega)]
      rw [ui_j]
      exact hr 0 27 _ _ _ (some (.long (μ.2.1 73 i))) (by decide +kernel) (z_rx_ok hH (by rfl)) (⟨rfl, rfl⟩)
    · have h2 : (decide ((nI i) < (nI n))) = false := decide_eq_false (cn_lt.mp h2)
      exact absurd (Eq.trans (Eq.symm (kn_nlt (by omega) (by omega) (by omega))) h2) (by decide)
theorem gm_wonN (d : Nat) (hd : 2 ≤ d) (μ : zM) (x wh : Int32) (hx : decide (x < 0) = true) : z_C d mi_X7_won [.ref 50, .int x, .int wh] μ (fun r μ' => r = some (.int (-1)) ∧ μ' = z_ui μ 50 0 0) := by
  refine z_C_in (by decide) (by omega) (fun d' Z ed hc hr => ?_)
  have hH : zH mi_X7_won zt_X7_won 79 7 3 := hh_X7_won
  refine z_rcs hc hH 2 (pc' := 2) (lv' := [(0, .ref 50), (1, .int x), (2, .int wh)]) (st' := [.int 0, .ref 50]) (μ' := μ) (by rfl) ?_
  refine zq_pfi hc hH (by rfl) (ci := 6) (f := 0) (by rfl) (by decide +kernel) (by rfl) ?_
  show Z 0 5 [(0, .ref 50), (1, .int x), (2, .int wh)] [] (z_ui μ 50 0 0)
  refine z_rcs hc hH 1 (pc' := 6) (lv' := [(0, .ref 50), (1, .int x), (2, .int wh)]) (st' := [.int x]) (μ' := z_ui μ 50 0 0) (by rfl) ?_
  refine zq_if hc hH (by rfl) (tg := 27) (by rfl) (fun h1 => ?_) (fun h1 => ?_)
  · have h1 : (decide (x < 0)) = true := decide_eq_true (cm_lt.mp h1)
    refine z_rcs hc hH 2 (pc' := 42) (lv' := [(0, .ref 50), (1, .int x), (2, .int wh)]) (st' := [.int (-1)]) (μ' := z_ui μ 50 0 0) (by rfl) ?_
    exact hr 0 42 _ _ _ (some (.int (-1))) (by decide +kernel) (z_rx_ok hH (by rfl)) (⟨rfl, rfl⟩)
  · have h1 : (decide (x < 0)) = false := decide_eq_false (cn_lt.mp h1)
    exact absurd (Eq.trans (Eq.symm (hx)) h1) (by decide)
theorem gm_wonG (d : Nat) (hd : 2 ≤ d) (μ : zM) (x wh : Int32) (hx : decide (x < 0) = false) (hg : decide (μ.1 50 53 ≤ x) = true) : z_C d mi_X7_won [.ref 50, .int x, .int wh] μ (fun r μ' => r = some (.int (-1)) ∧ μ' = z_ui μ 50 0 0) := by
  refine z_C_in (by decide) (by omega) (fun d' Z ed hc hr => ?_)
  have hH : zH mi_X7_won zt_X7_won 79 7 3 := hh_X7_won
  refine z_rcs hc hH 2 (pc' := 2) (lv' := [(0, .ref 50), (1, .int x), (2, .int wh)]) (st' := [.int 0, .ref 50]) (μ' := μ) (by rfl) ?_
  refine zq_pfi hc hH (by rfl) (ci := 6) (f := 0) (by rfl) (by decide +kernel) (by rfl) ?_
  show Z 0 5 [(0, .ref 50), (1, .int x), (2, .int wh)] [] (z_ui μ 50 0 0)
  refine z_rcs hc hH 1 (pc' := 6) (lv' := [(0, .ref 50), (1, .int x), (2, .int wh)]) (st' := [.int x]) (μ' := z_ui μ 50 0 0) (by rfl) ?_
  refine zq_if hc hH (by rfl) (tg := 27) (by rfl) (fun h1 => ?_) (fun h1 => ?_)
  · have h1 : (decide (x < 0)) = true := decide_eq_true (cm_lt.mp h1)
    exact absurd (Eq.trans (Eq.symm (hx)) h1) (by decide)
  · have h1 : (decide (x < 0)) = false := decide_eq_false (cn_lt.mp h1)
    refine z_rcs hc hH 2 (pc' := 11) (lv' := [(0, .ref 50), (1, .int x), (2, .int wh)]) (st' := [.ref 50, .int x]) (μ' := z_ui μ 50 0 0) (by rfl) ?_
    refine zq_gfi hc hH (by rfl) (ci := 6) (f := 53) (by rfl) (by decide +kernel) (by rfl) ?_
    refine zV1 (Z := Z) (ui_k (by first | decide | omega)) ?_
    refine zq_ic hc hH (by rfl) (tg := 27) (by rfl) (fun h2 => ?_) (fun h2 => ?_)
    · have h2 : (decide ((μ.1 50 53) ≤ x)) = true := decide_eq_true (cm_ge.mp h2)
      refine z_rcs hc hH 2 (pc' := 42) (lv' := [(0, .ref 50), (1, .int x), (2, .int wh)]) (st' := [.int (-1)]) (μ' := z_ui μ 50 0 0) (by rfl) ?_
      exact hr 0 42 _ _ _ (some (.int (-1))) (by decide +kernel) (z_rx_ok hH (by rfl)) (⟨rfl, rfl⟩)
    · have h2 : (decide ((μ.1 50 53) ≤ x)) = false := decide_eq_false (cn_ge.mp h2)
      exact absurd (Eq.trans (Eq.symm (hg)) h2) (by decide)
theorem gm_won0 (d : Nat) (hd : 2 ≤ d) (μ : zM) (i n : Nat) (hi : i < n) (hn : n ≤ 4) (e53 : μ.1 50 53 = nI n) : z_C d mi_X7_won [.ref 50, .int (nI i), .int 0] μ (fun r μ' => r = some (.int (μ.1 72 (7 * i + 0))) ∧ μ' = z_ui μ 50 0 0) := by
  refine z_C_in (by decide) (by omega) (fun d' Z ed hc hr => ?_)
  have hH : zH mi_X7_won zt_X7_won 79 7 3 := hh_X7_won
  refine z_rcs hc hH 2 (pc' := 2) (lv' := [(0, .ref 50), (1, .int (nI i)), (2, .int 0)]) (st' := [.int 0, .ref 50]) (μ' := μ) (by rfl) ?_
  refine zq_pfi hc hH (by rfl) (ci := 6) (f := 0) (by rfl) (by decide +kernel) (by rfl) ?_
  show Z 0 5 [(0, .ref 50), (1, .int (nI i)), (2, .int 0)] [] (z_ui μ 50 0 0)
  refine z_rcs hc hH 1 (pc' := 6) (lv' := [(0, .ref 50), (1, .int (nI i)), (2, .int 0)]) (st' := [.int (nI i)]) (μ' := z_ui μ 50 0 0) (by rfl) ?_
  refine zq_if hc hH (by rfl) (tg := 27) (by rfl) (fun h1 => ?_) (fun h1 => ?_)
  · have h1 : (decide ((nI i) < 0)) = true := decide_eq_true (cm_lt.mp h1)
    exact absurd (Eq.trans (Eq.symm (kn_l0 (by omega))) h1) (by decide)
  · have h1 : (decide ((nI i) < 0)) = false := decide_eq_false (cn_lt.mp h1)
    refine z_rcs hc hH 2 (pc' := 11) (lv' := [(0, .ref 50), (1, .int (nI i)), (2, .int 0)]) (st' := [.ref 50, .int (nI i)]) (μ' := z_ui μ 50 0 0) (by rfl) ?_
    refine zq_gfi hc hH (by rfl) (ci := 6) (f := 53) (by rfl) (by decide +kernel) (by rfl) ?_
    refine zV1 (Z := Z) (ui_k (by first | decide | omega)) ?_
    rw [e53]
    refine zq_ic hc hH (by rfl) (tg := 27) (by rfl) (fun h2 => ?_) (fun h2 => ?_)
    · have h2 : (decide ((nI n) ≤ (nI i))) = true := decide_eq_true (cm_ge.mp h2)
      exact absurd (Eq.trans (Eq.symm (kn_nlf (by omega) (by omega) (by omega))) h2) (by decide)
    · have h2 : (decide ((nI n) ≤ (nI i))) = false := decide_eq_false (cn_ge.mp h2)
      refine z_rcs hc hH 6 (pc' := 32) (lv' := [(0, .ref 50), (1, .int (nI i)), (2, .int 0)]) (st' := [.ref 50]) (μ' := z_ui μ 50 0 0) (by rfl) ?_
      refine zq_gfr hc hH (by rfl) (ci := 6) (f := 60) (q := 72) (by rfl) (by decide +kernel) (by rfl) (by decide +kernel) ?_
      refine z_rcs hc hH 5 (pc' := 41) (lv' := [(0, .ref 50), (1, .int (nI i)), (2, .int 0)]) (st' := [.int ((7 * (nI i)) + 0), .ref 72]) (μ' := z_ui μ 50 0 0) (by rfl) ?_
      rw [show 7 * nI i + 0 = nI (7 * i + 0) from by rw [show (7 : Int32) = nI 7 from rfl, show (0 : Int32) = nI 0 from rfl, nI_ml, nI_add]]
      refine zq_iald hc hH (by rfl) 28 (oka_i (by decide +kernel)) (vp_in_nI (by omega) (by decide)) ?_
      rw [nI_clamp (by omega)]
      refine zV1 (Z := Z) (ui_o (by first | decide | omega)) ?_
      exact hr 0 42 _ _ _ (some (.int (μ.1 72 (7 * i + 0)))) (by decide +kernel) (z_rx_ok hH (by rfl)) (⟨rfl, rfl⟩)
theorem gm_won1 (d : Nat) (hd : 2 ≤ d) (μ : zM) (i n : Nat) (hi : i < n) (hn : n ≤ 4) (e53 : μ.1 50 53 = nI n) : z_C d mi_X7_won [.ref 50, .int (nI i), .int 1] μ (fun r μ' => r = some (.int (μ.1 72 (7 * i + 1))) ∧ μ' = z_ui μ 50 0 0) := by
  refine z_C_in (by decide) (by omega) (fun d' Z ed hc hr => ?_)
  have hH : zH mi_X7_won zt_X7_won 79 7 3 := hh_X7_won
  refine z_rcs hc hH 2 (pc' := 2) (lv' := [(0, .ref 50), (1, .int (nI i)), (2, .int 1)]) (st' := [.int 0, .ref 50]) (μ' := μ) (by rfl) ?_
  refine zq_pfi hc hH (by rfl) (ci := 6) (f := 0) (by rfl) (by decide +kernel) (by rfl) ?_
  show Z 0 5 [(0, .ref 50), (1, .int (nI i)), (2, .int 1)] [] (z_ui μ 50 0 0)
  refine z_rcs hc hH 1 (pc' := 6) (lv' := [(0, .ref 50), (1, .int (nI i)), (2, .int 1)]) (st' := [.int (nI i)]) (μ' := z_ui μ 50 0 0) (by rfl) ?_
  refine zq_if hc hH (by rfl) (tg := 27) (by rfl) (fun h1 => ?_) (fun h1 => ?_)
  · have h1 : (decide ((nI i) < 0)) = true := decide_eq_true (cm_lt.mp h1)
    exact absurd (Eq.trans (Eq.symm (kn_l0 (by omega))) h1) (by decide)
  · have h1 : (decide ((nI i) < 0)) = false := decide_eq_false (cn_lt.mp h1)
    refine z_rcs hc hH 2 (pc' := 11) (lv' := [(0, .ref 50), (1, .int (nI i)), (2, .int 1)]) (st' := [.ref 50, .int (nI i)]) (μ' := z_ui μ 50 0 0) (by rfl) ?_
    refine zq_gfi hc hH (by rfl) (ci := 6) (f := 53) (by rfl) (by decide +kernel) (by rfl) ?_
    refine zV1 (Z := Z) (ui_k (by first | decide | omega)) ?_
    rw [e53]
    refine zq_ic hc hH (by rfl) (tg := 27) (by rfl) (fun h2 => ?_) (fun h2 => ?_)
    · have h2 : (decide ((nI n) ≤ (nI i))) = true := decide_eq_true (cm_ge.mp h2)
      exact absurd (Eq.trans (Eq.symm (kn_nlf (by omega) (by omega) (by omega))) h2) (by decide)
    · have h2 : (decide ((nI n) ≤ (nI i))) = false := decide_eq_false (cn_ge.mp h2)
      refine z_rcs hc hH 6 (pc' := 32) (lv' := [(0, .ref 50), (1, .int (nI i)), (2, .int 1)]) (st' := [.ref 50]) (μ' := z_ui μ 50 0 0) (by rfl) ?_
      refine zq_gfr hc hH (by rfl) (ci := 6) (f := 60) (q := 72) (by rfl) (by decide +kernel) (by rfl) (by decide +kernel) ?_
      refine z_rcs hc hH 5 (pc' := 41) (lv' := [(0, .ref 50), (1, .int (nI i)), (2, .int 1)]) (st' := [.int ((7 * (nI i)) + 1), .ref 72]) (μ' := z_ui μ 50 0 0) (by rfl) ?_
      rw [show 7 * nI i + 1 = nI (7 * i + 1) from by rw [show (7 : Int32) = nI 7 from rfl, show (1 : Int32) = nI 1 from rfl, nI_ml, nI_add]]
      refine zq_iald hc hH (by rfl) 28 (oka_i (by decide +kernel)) (vp_in_nI (by omega) (by decide)) ?_
      rw [nI_clamp (by omega)]
      refine zV1 (Z := Z) (ui_o (by first | decide | omega)) ?_
      exact hr 0 42 _ _ _ (some (.int (μ.1 72 (7 * i + 1)))) (by decide +kernel) (z_rx_ok hH (by rfl)) (⟨rfl, rfl⟩)
theorem gm_won2 (d : Nat) (hd : 2 ≤ d) (μ : zM) (i n : Nat) (hi : i < n) (hn : n ≤ 4) (e53 : μ.1 50 53 = nI n) : z_C d mi_X7_won [.ref 50, .int (nI i), .int 2] μ (fun r μ' => r = some (.int (μ.1 72 (7 * i + 2))) ∧ μ' = z_ui μ 50 0 0) := by
  refine z_C_in (by decide) (by omega) (fun d' Z ed hc hr => ?_)
  have hH : zH mi_X7_won zt_X7_won 79 7 3 := hh_X7_won
  refine z_rcs hc hH 2 (pc' := 2) (lv' := [(0, .ref 50), (1, .int (nI i)), (2, .int 2)]) (st' := [.int 0, .ref 50]) (μ' := μ) (by rfl) ?_
  refine zq_pfi hc hH (by rfl) (ci := 6) (f := 0) (by rfl) (by decide +kernel) (by rfl) ?_
  show Z 0 5 [(0, .ref 50), (1, .int (nI i)), (2, .int 2)] [] (z_ui μ 50 0 0)
  refine z_rcs hc hH 1 (pc' := 6) (lv' := [(0, .ref 50), (1, .int (nI i)), (2, .int 2)]) (st' := [.int (nI i)]) (μ' := z_ui μ 50 0 0) (by rfl) ?_
  refine zq_if hc hH (by rfl) (tg := 27) (by rfl) (fun h1 => ?_) (fun h1 => ?_)
  · have h1 : (decide ((nI i) < 0)) = true := decide_eq_true (cm_lt.mp h1)
    exact absurd (Eq.trans (Eq.symm (kn_l0 (by omega))) h1) (by decide)
  · have h1 : (decide ((nI i) < 0)) = false := decide_eq_false (cn_lt.mp h1)
    refine z_rcs hc hH 2 (pc' := 11) (lv' := [(0, .ref 50), (1, .int (nI i)), (2, .int 2)]) (st' := [.ref 50, .int (nI i)]) (μ' := z_ui μ 50 0 0) (by rfl) ?_
    refine zq_gfi hc hH (by rfl) (ci := 6) (f := 53) (by rfl) (by decide +kernel) (by rfl) ?_
    refine zV1 (Z := Z) (ui_k (by first | decide | omega)) ?_
    rw [e53]
    refine zq_ic hc hH (by rfl) (tg := 27) (by rfl) (fun h2 => ?_) (fun h2 => ?_)
    · have h2 : (decide ((nI n) ≤ (nI i))) = true := decide_eq_true (cm_ge.mp h2)
      exact absurd (Eq.trans (Eq.symm (kn_nlf (by omega) (by omega) (by omega))) h2) (by decide)
    · have h2 : (decide ((nI n) ≤ (nI i))) = false := decide_eq_false (cn_ge.mp h2)
      refine z_rcs hc hH 6 (pc' := 32) (lv' := [(0, .ref 50), (1, .int (nI i)), (2, .int 2)]) (st' := [.ref 50]) (μ' := z_ui μ 50 0 0) (by rfl) ?_
      refine zq_gfr hc hH (by rfl) (ci := 6) (f := 60) (q := 72) (by rfl) (by decide +kernel) (by rfl) (by decide +kernel) ?_
      refine z_rcs hc hH 5 (pc' := 41) (lv' := [(0, .ref 50), (1, .int (nI i)), (2, .int 2)]) (st' := [.int ((7 * (nI i)) + 2), .ref 72]) (μ' := z_ui μ 50 0 0) (by rfl) ?_
      rw [show 7 * nI i + 2 = nI (7 * i + 2) from by rw [show (7 : Int32) = nI 7 from rfl, show (2 : Int32) = nI 2 from rfl, nI_ml, nI_add]]
      refine zq_iald hc hH (by rfl) 28 (oka_i (by decide +kernel)) (vp_in_nI (by omega) (by decide)) ?_
      rw [nI_clamp (by omega)]
      refine zV1 (Z := Z) (ui_o (by first | decide | omega)) ?_
      exact hr 0 42 _ _ _ (some (.int (μ.1 72 (7 * i + 2)))) (by decide +kernel) (z_rx_ok hH (by rfl)) (⟨rfl, rfl⟩)
theorem gm_won3 (d : Nat) (hd : 2 ≤ d) (μ : zM) (i n : Nat) (hi : i < n) (hn : n ≤ 4) (e53 : μ.1 50 53 = nI n) : z_C d mi_X7_won [.ref 50, .int (nI i), .int 3] μ (fun r μ' => r = some (.int (μ.1 72 (7 * i + 3))) ∧ μ' = z_ui μ 50 0 0) := by
  refine z_C_in (by decide) (by omega) (fun d' Z ed hc hr => ?_)
  have hH : zH mi_X7_won zt_X7_won 79 7 3 := hh_X7_won
  refine z_rcs hc hH 2 (pc' := 2) (lv' := [(0, .ref 50), (1, .int (nI i)), (2, .int 3)]) (st' := [.int 0, .ref 50]) (μ' := μ) (by rfl) ?_
  refine zq_pfi hc hH (by rfl) (ci := 6) (f := 0) (by rfl) (by decide +kernel) (by rfl) ?_
  show Z 0 5 [(0, .ref 50), (1, .int (nI i)), (2, .int 3)] [] (z_ui μ 50 0 0)
  refine z_rcs hc hH 1 (pc' := 6) (lv' := [(0, .ref 50), (1, .int (nI i)), (2, .int 3)]) (st' := [.int (nI i)]) (μ' := z_ui μ 50 0 0) (by rfl) ?_
  refine zq_if hc hH (by rfl) (tg := 27) (by rfl) (fun h1 => ?_) (fun h1 => ?_)
  · have h1 : (decide ((nI i) < 0)) = true := decide_eq_true (cm_lt.mp h1)
    exact absurd (Eq.trans (Eq.symm (kn_l0 (by omega))) h1) (by decide)
  · have h1 : (decide ((nI i) < 0)) = false := decide_eq_false (cn_lt.mp h1)
    refine z_rcs hc hH 2 (pc' := 11) (lv' := [(0, .ref 50), (1, .int (nI i)), (2, .int 3)]) (st' := [.ref 50, .int (nI i)]) (μ' := z_ui μ 50 0 0) (by rfl) ?_
    refine zq_gfi hc hH (by rfl) (ci := 6) (f := 53) (by rfl) (by decide +kernel) (by rfl) ?_
    refine zV1 (Z := Z) (ui_k (by first | decide | omega)) ?_
    rw [e53]
    refine zq_ic hc hH (by rfl) (tg := 27) (by rfl) (fun h2 => ?_) (fun h2 => ?_)
    · have h2 : (decide ((nI n) ≤ (nI i))) = true := decide_eq_true (cm_ge.mp h2)
      exact absurd (Eq.trans (Eq.symm (kn_nlf (by omega) (by omega) (by omega))) h2) (by decide)
    · have h2 : (decide ((nI n) ≤ (nI i))) = false := decide_eq_false (cn_ge.mp h2)
      refine z_rcs hc hH 6 (pc' := 32) (lv' := [(0, .ref 50), (1, .int (nI i)), (2, .int 3)]) (st' := [.ref 50]) (μ' := z_ui μ 50 0 0) (by rfl) ?_
      refine zq_gfr hc hH (by rfl) (ci := 6) (f := 60) (q := 72) (by rfl) (by decide +kernel) (by rfl) (by decide +kernel) ?_
      refine z_rcs hc hH 5 (pc' := 41) (lv' := [(0, .ref 50), (1, .int (nI i)), (2, .int 3)]) (st' := [.int ((7 * (nI i)) + 3), .ref 72]) (μ' := z_ui μ 50 0 0) (by rfl) ?_
      rw [show 7 * nI i + 3 = nI (7 * i + 3) from by rw [show (7 : Int32) = nI 7 from rfl, show (3 : Int32) = nI 3 from rfl, nI_ml, nI_add]]
      refine zq_iald hc hH (by rfl) 28 (oka_i (by decide +kernel)) (vp_in_nI (by omega) (by decide)) ?_
      rw [nI_clamp (by omega)]
      refine zV1 (Z := Z) (ui_o (by first | decide | omega)) ?_
      exact hr 0 42 _ _ _ (some (.int (μ.1 72 (7 * i + 3)))) (by decide +kernel) (z_rx_ok hH (by rfl)) (⟨rfl, rfl⟩)
theorem gm_won4 (d : Nat) (hd : 2 ≤ d) (μ : zM) (i n : Nat) (hi : i < n) (hn : n ≤ 4) (e53 : μ.1 50 53 = nI n) : z_C d mi_X7_won [.ref 50, .int (nI i), .int 4] μ (fun r μ' => r = some (.int (μ.1 72 (7 * i + 4))) ∧ μ' = z_ui μ 50 0 0) := by
  refine z_C_in (by decide) (by omega) (fun d' Z ed hc hr => ?_)
  have hH : zH mi_X7_won zt_X7_won 79 7 3 := hh_X7_won
  refine z_rcs hc hH 2 (pc' := 2) (lv' := [(0, .ref 50), (1, .int (nI i)), (2, .int 4)]) (st' := [.int 0, .ref 50]) (μ' := μ) (by rfl) ?_
  refine zq_pfi hc hH (by rfl) (ci := 6) (f := 0) (by rfl) (by decide +kernel) (by rfl) ?_
  show Z 0 5 [(0, .ref 50), (1, .int (nI i)), (2, .int 4)] [] (z_ui μ 50 0 0)
  refine z_rcs hc hH 1 (pc' := 6) (lv' := [(0, .ref 50), (1, .int (nI i)), (2, .int 4)]) (st' := [.int (nI i)]) (μ' := z_ui μ 50 0 0) (by rfl) ?_
  refine zq_if hc hH (by rfl) (tg := 27) (by rfl) (fun h1 => ?_) (fun h1 => ?_)
  · have h1 : (decide ((nI i) < 0)) = true := decide_eq_true (cm_lt.mp h1)
    exact absurd (Eq.trans (Eq.symm (kn_l0 (by omega))) h1) (by decide)
  · have h1 : (decide ((nI i) < 0)) = false := decide_eq_false (cn_lt.mp h1)
    refine z_rcs hc hH 2 (pc' := 11) (lv' := [(0, .ref 50), (1, .int (nI i)), (2, .int 4)]) (st' := [.ref 50, .int (nI i)]) (μ' := z_ui μ 50 0 0) (by rfl) ?_
    refine zq_gfi hc hH (by rfl) (ci := 6) (f := 53) (by rfl) (by decide +kernel) (by rfl) ?_
    refine zV1 (Z := Z) (ui_k (by first | decide | omega)) ?_
    rw [e53]
    refine zq_ic hc hH (by rfl) (tg := 27) (by rfl) (fun h2 => ?_) (fun h2 => ?_)
    · have h2 : (decide ((nI n) ≤ (nI i))) = true := decide_eq_true (cm_ge.mp h2)
      exact absurd (Eq.trans (Eq.symm (kn_nlf (by omega) (by omega) (by omega))) h2) (by decide)
    · have h2 : (decide ((nI n) ≤ (nI i))) = false := decide_eq_false (cn_ge.mp h2)
      refine z_rcs hc hH 6 (pc' := 32) (lv' := [(0, .ref 50), (1, .int (nI i)), (2, .int 4)]) (st' := [.ref 50]) (μ' := z_ui μ 50 0 0) (by rfl) ?_
      refine zq_gfr hc hH (by rfl) (ci := 6) (f := 60) (q := 72) (by rfl) (by decide +kernel) (by rfl) (by decide +kernel) ?_
      refine z_rcs hc hH 5 (pc' := 41) (lv' := [(0, .ref 50), (1, .int (nI i)), (2, .int 4)]) (st' := [.int ((7 * (nI i)) + 4), .ref 72]) (μ' := z_ui μ 50 0 0) (by rfl) ?_
      rw [show 7 * nI i + 4 = nI (7 * i + 4) from by rw [show (7 : Int32) = nI 7 from rfl, show (4 : Int32) = nI 4 from rfl, nI_ml, nI_add]]
      refine zq_iald hc hH (by rfl) 28 (oka_i (by decide +kernel)) (vp_in_nI (by omega) (by decide)) ?_
      rw [nI_clamp (by omega)]
      refine zV1 (Z := Z) (ui_o (by first | decide | omega)) ?_
      exact hr 0 42 _ _ _ (some (.int (μ.1 72 (7 * i + 4)))) (by decide +kernel) (z_rx_ok hH (by rfl)) (⟨rfl, rfl⟩)
theorem gm_won5 (d : Nat) (hd : 2 ≤ d) (μ : zM) (i n : Nat) (hi : i < n) (hn : n ≤ 4) (e53 : μ.1 50 53 = nI n) : z_C d mi_X7_won [.ref 50, .int (nI i), .int 5] μ (fun r μ' => r = some (.int (μ.1 72 (7 * i + 5))) ∧ μ' = z_ui μ 50 0 0) := by
  refine z_C_in (by decide) (by omega) (fun d' Z ed hc hr => ?_)
  have hH : zH mi_X7_won zt_X7_won 79 7 3 := hh_X7_won
  refine z_rcs hc hH 2 (pc' := 2) (lv' := [(0, .ref 50), (1, .int (nI i)), (2, .int 5)]) (st' := [.int 0, .ref 50]) (μ' := μ) (by rfl) ?_
  refine zq_pfi hc hH (by rfl) (ci := 6) (f := 0) (by rfl) (by decide +kernel) (by rfl) ?_
  show Z 0 5 [(0, .ref 50), (1, .int (nI i)), (2, .int 5)] [] (z_ui μ 50 0 0)
  refine z_rcs hc hH 1 (pc' := 6) (lv' := [(0, .ref 50), (1, .int (nI i)), (2, .int 5)]) (st' := [.int (nI i)]) (μ' := z_ui μ 50 0 0) (by rfl) ?_
  refine zq_if hc hH (by rfl) (tg := 27) (by rfl) (fun h1 => ?_) (fun h1 => ?_)
  · have h1 : (decide ((nI i) < 0)) = true := decide_eq_true (cm_lt.mp h1)
    exact absurd (Eq.trans (Eq.symm (kn_l0 (by omega))) h1) (by decide)
  · have h1 : (decide ((nI i) < 0)) = false := decide_eq_false (cn_lt.mp h1)
    refine z_rcs hc hH 2 (pc' := 11) (lv' := [(0, .ref 50), (1, .int (nI i)), (2, .int 5)]) (st' := [.ref 50, .int (nI i)]) (μ' := z_ui μ 50 0 0) (by rfl) ?_
    refine zq_gfi hc hH (by rfl) (ci := 6) (f := 53) (by rfl) (by decide +kernel) (by rfl) ?_
    refine zV1 (Z := Z) (ui_k (by first | decide | omega)) ?_
    rw [e53]
    refine zq_ic hc hH (by rfl) (tg := 27) (by rfl) (fun h2 => ?_) (fun h2 => ?_)
    · have h2 : (decide ((nI n) ≤ (nI i))) = true := decide_eq_true (cm_ge.mp h2)
      exact absurd (Eq.trans (Eq.symm (kn_nlf (by omega) (by omega) (by omega))) h2) (by decide)
    · have h2 : (decide ((nI n) ≤ (nI i))) = false := decide_eq_false (cn_ge.mp h2)
      refine z_rcs hc hH 6 (pc' := 32) (lv' := [(0, .ref 50), (1, .int (nI i)), (2, .int 5)]) (st' := [.ref 50]) (μ' := z_ui μ 50 0 0) (by rfl) ?_
      refine zq_gfr hc hH (by rfl) (ci := 6) (f := 60) (q := 72) (by rfl) (by decide +kernel) (by rfl) (by decide +kernel) ?_
      refine z_rcs hc hH 5 (pc' := 41) (lv' := [(0, .ref 50), (1, .int (nI i)), (2, .int 5)]) (st' := [.int ((7 * (nI i)) + 5), .ref 72]) (μ' := z_ui μ 50 0 0) (by rfl) ?_
      rw [show 7 * nI i + 5 = nI (7 * i + 5) from by rw [show (7 : Int32) = nI 7 from rfl, show (5 : Int32) = nI 5 from rfl, nI_ml, nI_add]]
      refine zq_iald hc hH (by rfl) 28 (oka_i (by decide +kernel)) (vp_in_nI (by omega) (by decide)) ?_
      rw [nI_clamp (by omega)]
      refine zV1 (Z := Z) (ui_o (by first | decide | omega)) ?_
      exact hr 0 42 _ _ _ (some (.int (μ.1 72 (7 * i + 5)))) (by decide +kernel) (z_rx_ok hH (by rfl)) (⟨rfl, rfl⟩)
theorem gm_won6 (d : Nat) (hd : 2 ≤ d) (μ : zM) (i n : Nat) (hi : i < n) (hn : n ≤ 4) (e53 : μ.1 50 53 = nI n) : z_C d mi_X7_won [.ref 50, .int (nI i), .int 6] μ (fun r μ' => r = some (.int (μ.1 72 (7 * i + 6))) ∧ μ' = z_ui μ 50 0 0) := by
  refine z_C_in (by decide) (by omega) (fun d' Z ed hc hr => ?_)
  have hH : zH mi_X7_won zt_X7_won 79 7 3 := hh_X7_won
  refine z_rcs hc hH 2 (pc' := 2) (lv' := [(0, .ref 50), (1, .int (nI i)), (2, .int 6)]) (st' := [.int 0, .ref 50]) (μ' := μ) (by rfl) ?_
  refine zq_pfi hc hH (by rfl) (ci := 6) (f := 0) (by rfl) (by decide +kernel) (by rfl) ?_
  show Z 0 5 [(0, .ref 50), (1, .int (nI i)), (2, .int 6)] [] (z_ui μ 50 0 0)
  refine z_rcs hc hH 1 (pc' := 6) (lv' := [(0, .ref 50), (1, .int (nI i)), (2, .int 6)]) (st' := [.int (nI i)]) (μ' := z_ui μ 50 0 0) (by rfl) ?_
  refine zq_if hc hH (by rfl) (tg := 27) (by rfl) (fun h1 => ?_) (fun h1 => ?_)
  · have h1 : (decide ((nI i) < 0)) = true := decide_eq_true (cm_lt.mp h1)
    exact absurd (Eq.trans (Eq.symm (kn_l0 (by omega))) h1) (by decide)
  · have h1 : (decide ((nI i) < 0)) = false := decide_eq_false (cn_lt.mp h1)
    refine z_rcs hc hH 2 (pc' := 11) (lv' := [(0, .ref 50), (1, .int (nI i)), (2, .int 6)]) (st' := [.ref 50, .int (nI i)]) (μ' := z_ui μ 50 0 0) (by rfl) ?_
    refine zq_gfi hc hH (by rfl) (ci := 6) (f := 53) (by rfl) (by decide +kernel) (by rfl) ?_
    refine zV1 (Z := Z) (ui_k (by first | decide | omega)) ?_
    rw [e53]
    refine zq_ic hc hH (by rfl) (tg := 27) (by rfl) (fun h2 => ?_) (fun h2 => ?_)
    · have h2 : (decide ((nI n) ≤ (nI i))) = true := decide_eq_true (cm_ge.mp h2)
      exact absurd (Eq.trans (Eq.symm (kn_nlf (by omega) (by omega) (by omega))) h2) (by decide)
    · have h2 : (decide ((nI n) ≤ (nI i))) = false := decide_eq_false (cn_ge.mp h2)
      refine z_rcs hc hH 6 (pc' := 32) (lv' := [(0, .ref 50), (1, .int (nI i)), (2, .int 6)]) (st' := [.ref 50]) (μ' := z_ui μ 50 0 0) (by rfl) ?_
      refine zq_gfr hc hH (by rfl) (ci := 6) (f := 60) (q := 72) (by rfl) (by decide +kernel) (by rfl) (by decide +kernel) ?_
      refine z_rcs hc hH 5 (pc' := 41) (lv' := [(0, .ref 50), (1, .int (nI i)), (2, .int 6)]) (st' := [.int ((7 * (nI i)) + 6), .ref 72]) (μ' := z_ui μ 50 0 0) (by rfl) ?_
      rw [show 7 * nI i + 6 = nI (7 * i + 6) from by rw [show (7 : Int32) = nI 7 from rfl, show (6 : Int32) = nI 6 from rfl, nI_ml, nI_add]]
      refine zq_iald hc hH (by rfl) 28 (oka_i (by decide +kernel)) (vp_in_nI (by omega) (by decide)) ?_
      rw [nI_clamp (by omega)]
      refine zV1 (Z := Z) (ui_o (by first | decide | omega)) ?_
      exact hr 0 42 _ _ _ (some (.int (μ.1 72 (7 * i + 6)))) (by decide +kernel) (z_rx_ok hH (by rfl)) (⟨rfl, rfl⟩)
theorem gm_wonW (d : Nat) (hd : 2 ≤ d) (μ : zM) (i n : Nat) (hi : i < n) (hn : n ≤ 4) (e53 : μ.1 50 53 = nI n) (wh : Int32) (hw : decide (wh < 0) = true) : z_C d mi_X7_won [.ref 50, .int (nI i), .int wh] μ (fun r μ' => r = some (.int (-1)) ∧ μ' = z_ui μ 50 0 0) := by
  refine z_C_in (by decide) (by omega) (fun d' Z ed hc hr => ?_)
  have hH : zH mi_X7_won zt_X7_won 79 7 3 := hh_X7_won
  refine z_rcs hc hH 2 (pc' := 2) (lv' := [(0, .ref 50), (1, .int (nI i)), (2, .int wh)]) (st' := [.int 0, .ref 50]) (μ' := μ) (by rfl) ?_
  refine zq_pfi hc hH (by rfl) (ci := 6) (f := 0) (by rfl) (by decide +kernel) (by rfl) ?_
  show Z 0 5 [(0, .ref 50), (1, .int (nI i)), (2, .int wh)] [] (z_ui μ 50 0 0)
  refine z_rcs hc hH 1 (pc' := 6) (lv' := [(0, .ref 50), (1, .int (nI i)), (2, .int wh)]) (st' := [.int (nI i)]) (μ' := z_ui μ 50 0 0) (by rfl) ?_
  refine zq_if hc hH (by rfl) (tg := 27) (by rfl) (fun h1 => ?_) (fun h1 => ?_)
  · have h1 : (decide ((nI i) < 0)) = true := decide_eq_true (cm_lt.mp h1)
    exact absurd (Eq.trans (Eq.symm (kn_l0 (by omega))) h1) (by decide)
  · have h1 : (decide ((nI i) < 0)) = false := decide_eq_false (cn_lt.mp h1)
    refine z_rcs hc hH 2 (pc' := 11) (lv' := [(0, .ref 50), (1, .int (nI i)), (2, .int wh)]) (st' := [.ref 50, .int (nI i)]) (μ' := z_ui μ 50 0 0) (by rfl) ?_
    refine zq_gfi hc hH (by rfl) (ci := 6) (f := 53) (by rfl) (by decide +kernel) (by rfl) ?_
    refine zV1 (Z := Z) (ui_k (by first | decide | omega)) ?_
    rw [e53]
    refine zq_ic hc hH (by rfl) (tg := 27) (by rfl) (fun h2 => ?_) (fun h2 => ?_)
    · have h2 : (decide ((nI n) ≤ (nI i))) = true := decide_eq_true (cm_ge.mp h2)
      exact absurd (Eq.trans (Eq.symm (kn_nlf (by omega) (by omega) (by omega))) h2) (by decide)
    · have h2 : (decide ((nI n) ≤ (nI i))) = false := decide_eq_false (cn_ge.mp h2)
      refine z_rcs hc hH 1 (pc' := 18) (lv' := [(0, .ref 50), (1, .int (nI i)), (2, .int wh)]) (st' := [.int wh]) (μ' := z_ui μ 50 0 0) (by rfl) ?_
      refine zq_if hc hH (by rfl) (tg := 27) (by rfl) (fun h3 => ?_) (fun h3 => ?_)
      · have h3 : (decide (wh < 0)) = true := decide_eq_true (cm_lt.mp h3)
        refine z_rcs hc hH 2 (pc' := 42) (lv' := [(0, .ref 50), (1, .int (nI i)), (2, .int wh)]) (st' := [.int (-1)]) (μ' := z_ui μ 50 0 0) (by rfl) ?_
        exact hr 0 42 _ _ _ (some (.int (-1))) (by decide +kernel) (z_rx_ok hH (by rfl)) (⟨rfl, rfl⟩)
      · have h3 : (decide (wh < 0)) = false := decide_eq_false (cn_lt.mp h3)
        exact absurd (Eq.trans (Eq.symm (hw)) h3) (by decide)
theorem gm_wonV (d : Nat) (hd : 2 ≤ d) (μ : zM) (i n : Nat) (hi : i < n) (hn : n ≤ 4) (e53 : μ.1 50 53 = nI n) (wh : Int32) (hw : decide (wh < 0) = false) (hv : decide (wh ≤ 6) = false) : z_C d mi_X7_won [.ref 50, .int (nI i), .int wh] μ (fun r μ' => r = some (.int (-1)) ∧ μ' = z_ui μ 50 0 0) := by
  refine z_C_in (by decide) (by omega) (fun d' Z ed hc hr => ?_)
  have hH : zH mi_X7_won zt_X7_won 79 7 3 := hh_X7_won
  refine z_rcs hc hH 2 (pc' := 2) (lv' := [(0, .ref 50), (1, .int (nI i)), (2, .int wh)]) (st' := [.int 0, .ref 50]) (μ' := μ) (by rfl) ?_
  refine zq_pfi hc hH (by rfl) (ci := 6) (f := 0) (by rfl) (by decide +kernel) (by rfl) ?_
  show Z 0 5 [(0, .ref 50), (1, .int (nI i)), (2, .int wh)] [] (z_ui μ 50 0 0)
  refine z_rcs hc hH 1 (pc' := 6) (lv' := [(0, .ref 50), (1, .int (nI i)), (2, .int wh)]) (st' := [.int (nI i)]) (μ' := z_ui μ 50 0 0) (by rfl) ?_
  refine zq_if hc hH (by rfl) (tg := 27) (by rfl) (fun h1 => ?_) (fun h1 => ?_)
  · have h1 : (decide ((nI i) < 0)) = true := decide_eq_true (cm_lt.mp h1)
    exact absurd (Eq.trans (Eq.symm (kn_l0 (by omega))) h1) (by decide)
  · have h1 : (decide ((nI i) < 0)) = false := decide_eq_false (cn_lt.mp h1)
    refine z_rcs hc hH 2 (pc' := 11) (lv' := [(0, .ref 50), (1, .int (nI i)), (2, .int wh)]) (st' := [.ref 50, .int (nI i)]) (μ' := z_ui μ 50 0 0) (by rfl) ?_
    refine zq_gfi hc hH (by rfl) (ci := 6) (f := 53) (by rfl) (by decide +kernel) (by rfl) ?_
    refine zV1 (Z := Z) (ui_k (by first | decide | omega)) ?_
    rw [e53]
    refine zq_ic hc hH (by rfl) (tg := 27) (by rfl) (fun h2 => ?_) (fun h2 => ?_)
    · have h2 : (decide ((nI n) ≤ (nI i))) = true := decide_eq_true (cm_ge.mp h2)
      exact absurd (Eq.trans (Eq.symm (kn_nlf (by omega) (by omega) (by omega))) h2) (by decide)
    · have h2 : (decide ((nI n) ≤ (nI i))) = false := decide_eq_false (cn_ge.mp h2)
      refine z_rcs hc hH 1 (pc' := 18) (lv' := [(0, .ref 50), (1, .int (nI i)), (2, .int wh)]) (st' := [.int wh]) (μ' := z_ui μ 50 0 0) (by rfl) ?_
      refine zq_if hc hH (by rfl) (tg := 27) (by rfl) (fun h3 => ?_) (fun h3 => ?_)
      · have h3 : (decide (wh < 0)) = true := decide_eq_true (cm_lt.mp h3)
        exact absurd (Eq.trans (Eq.symm (hw)) h3) (by decide)
      · have h3 : (decide (wh < 0)) = false := decide_eq_false (cn_lt.mp h3)
        refine z_rcs hc hH 2 (pc' := 24) (lv' := [(0, .ref 50), (1, .int (nI i)), (2, .int wh)]) (st' := [.int 6, .int wh]) (μ' := z_ui μ 50 0 0) (by rfl) ?_
        refine zq_ic hc hH (by rfl) (tg := 31) (by rfl) (fun h4 => ?_) (fun h4 => ?_)
        · have h4 : (decide (wh ≤ 6)) = true := decide_eq_true (cm_le.mp h4)
          exact absurd (Eq.trans (Eq.symm (hv)) h4) (by decide)
        · have h4 : (decide (wh ≤ 6)) = false := decide_eq_false (cn_le.mp h4)
          refine z_rcs hc hH 2 (pc' := 42) (lv' := [(0, .ref 50), (1, .int (nI i)), (2, .int wh)]) (st' := [.int (-1)]) (μ' := z_ui μ 50 0 0) (by rfl) ?_
          exact hr 0 42 _ _ _ (some (.int (-1))) (by decide +kernel) (z_rx_ok hH (by rfl)) (⟨rfl, rfl⟩)
theorem gq_wonN (d : Nat) (hd : 3 ≤ d) (μ : zM) (x wh : Int32) (hw9 : ∀ d, 2 ≤ d → z_C d mi_X6_isWin [.ref 0, .int x] μ (zR μ (.int 0))) : z_C d mi_X6_won [.ref 0, .int x, .int wh] μ (fun r μ' => r = some (.int (-1)) ∧ μ' = μ) := by
  refine z_C_in (by decide) (by omega) (fun d' Z ed hc hr => ?_)
  have hH : zH mi_X6_won zt_X6_won 79 6 3 := hh_X6_won
  refine z_rcs hc hH 2 (pc' := 2) (lv' := [(0, .ref 0), (1, .int x), (2, .int wh)]) (st' := [.int x, .ref 0]) (μ' := μ) (by rfl) ?_
  refine zq_call hc (z_cx_ok hH (by rfl)) (hw9 d' (by omega)) (by decide +kernel) (fun r9 μ9 hq => ?_)
  obtain ⟨hμ9, rfl⟩ := hq
  rw [hμ9]
  clear hμ9 μ9
  show Z 0 5 [(0, .ref 0), (1, .int x), (2, .int wh)] [.int 0] μ
  refine z_rcs hc hH 2 (pc' := 22) (lv' := [(0, .ref 0), (1, .int x), (2, .int wh)]) (st' := [.int (-1)]) (μ' := μ) (by rfl) ?_
  exact hr 0 22 _ _ _ (some (.int (-1))) (by decide +kernel) (z_rx_ok hH (by rfl)) (⟨rfl, rfl⟩)
theorem gq_formsN (d : Nat) (hd : 3 ≤ d) (μ : zM) (x : Int32) (hw9 : ∀ d, 2 ≤ d → z_C d mi_X6_isWin [.ref 0, .int x] μ (zR μ (.int 0))) : z_C d mi_X6_forms [.ref 0, .int x] μ (fun r μ' => r = some (.long 0) ∧ μ' = μ) := by
  refine z_C_in (by decide) (by omega) (fun d' Z ed hc hr => ?_)
  have hH : zH mi_X6_forms zt_X6_forms 79 6 2 := hh_X6_forms
  refine z_rcs hc hH 2 (pc' := 2) (lv' := [(0, .ref 0), (1, .int x)]) (st' := [.int x, .ref 0]) (μ' := μ) (by rfl) ?_
  refine zq_call hc (z_cx_ok hH (by rfl)) (hw9 d' (by omega)) (by decide +kernel) (fun r9 μ9 hq => ?_)
  obtain ⟨hμ9, rfl⟩ := hq
  rw [hμ9]
  clear hμ9 μ9
  show Z 0 5 [(0, .ref 0), (1, .int x)] [.int 0] μ
  refine z_rcs hc hH 2 (pc' := 21) (lv' := [(0, .ref 0), (1, .int x)]) (st' := [.long 0]) (μ' := μ) (by rfl) ?_
  exact hr 0 21 _ _ _ (some (.long 0)) (by decide +kernel) (z_rx_ok hH (by rfl)) (⟨rfl, rfl⟩)
theorem gq_formsI (d : Nat) (hd : 3 ≤ d) (μ : zM) (i : Nat) (hi4 : i < 4) (hw9 : ∀ d, 2 ≤ d → z_C d mi_X6_isWin [.ref 0, .int (nI i)] μ (zR μ (.int 1))) : z_C d mi_X6_forms [.ref 0, .int (nI i)] μ (fun r μ' => r = some (.long (μ.2.1 (25 + 8 * i) 7)) ∧ μ' = μ) := by
  refine z_C_in (by decide) (by omega) (fun d' Z ed hc hr => ?_)
  have hH : zH mi_X6_forms zt_X6_forms 79 6 2 := hh_X6_forms
  refine z_rcs hc hH 2 (pc' := 2) (lv' := [(0, .ref 0), (1, .int (nI i))]) (st' := [.int (nI i), .ref 0]) (μ' := μ) (by rfl) ?_
  refine zq_call hc (z_cx_ok hH (by rfl)) (hw9 d' (by omega)) (by decide +kernel) (fun r9 μ9 hq => ?_)
  obtain ⟨hμ9, rfl⟩ := hq
  rw [hμ9]
  clear hμ9 μ9
  show Z 0 5 [(0, .ref 0), (1, .int (nI i))] [.int 1] μ
  refine z_rcs hc hH 2 (pc' := 9) (lv' := [(0, .ref 0), (1, .int (nI i))]) (st' := [.ref 0]) (μ' := μ) (by rfl) ?_
  refine zq_gfr hc hH (by rfl) (ci := 5) (f := 3) (q := 8) (by rfl) (by decide +kernel) (by rfl) (by decide +kernel) ?_
  refine z_rcs hc hH 1 (pc' := 13) (lv' := [(0, .ref 0), (1, .int (nI i))]) (st' := [.int (nI i), .ref 8]) (μ' := μ) (by rfl) ?_
  refine zq_aald hc hH (by rfl) (i := i) (q := 25 + 8 * i) hi4 (by decide +kernel) (sj (P := fun i => Nat.beq (z_gr 8 i) (25 + 8 * i)) hi4 (by decide +kernel)) ?_
  refine zq_gfl hc hH (by rfl) (ci := 4) (f := 7) (by rfl) (sj (P := fun i => okf 79 4 7 (25 + 8 * i)) hi4 (by decide +kernel)) (by rfl) ?_
  refine z_rcs hc hH 1 (pc' := 21) (lv' := [(0, .ref 0), (1, .int (nI i))]) (st' := [.long (μ.2.1 (25 + 8 * i) 7)]) (μ' := μ) (by rfl) ?_
  exact hr 0 21 _ _ _ (some (.long (μ.2.1 (25 + 8 * i) 7))) (by decide +kernel) (z_rx_ok hH (by rfl)) (⟨rfl, rfl⟩)
theorem gq_wonI (d : Nat) (hd : 3 ≤ d) (μ : zM) (i : Nat) (hi4 : i < 4) (wh v : Int32) (hw9 : ∀ d, 2 ≤ d → z_C d mi_X6_isWin [.ref 0, .int (nI i)] μ (zR μ (.int 1))) (hpt : ∀ d, 1 ≤ d → z_C d mi_X5_part [.ref (25 + 8 * i), .int wh] μ (zR μ (.int v))) : z_C d mi_X6_won [.ref 0, .int (nI i), .int wh] μ (fun r μ' => r = some (.int v) ∧ μ' = μ) := by
  refine z_C_in (by decide) (by omega) (fun d' Z ed hc hr => ?_)
  have hH : zH mi_X6_won zt_X6_won 79 6 3 := hh_X6_won
  refine z_rcs hc hH 2 (pc' := 2) (lv' := [(0, .ref 0), (1, .int (nI i)), (2, .int wh)]) (st' := [.int (nI i), .ref 0]) (μ' := μ) (by rfl) ?_
  refine zq_call hc (z_cx_ok hH (by rfl)) (hw9 d' (by omega)) (by decide +kernel) (fun r9 μ9 hq => ?_)
  obtain ⟨hμ9, rfl⟩ := hq
  rw [hμ9]
  clear hμ9 μ9
  show Z 0 5 [(0, .ref 0), (1, .int (nI i)), (2, .int wh)] [.int 1] μ
  refine z_rcs hc hH 2 (pc' := 9) (lv' := [(0, .ref 0), (1, .int (nI i)), (2, .int wh)]) (st' := [.ref 0]) (μ' := μ) (by rfl) ?_
  refine zq_gfr hc hH (by rfl) (ci := 5) (f := 3) (q := 8) (by rfl) (by decide +kernel) (by rfl) (by decide +kernel) ?_
  refine z_rcs hc hH 1 (pc' := 13) (lv' := [(0, .ref 0), (1, .int (nI i)), (2, .int wh)]) (st' := [.int (nI i), .ref 8]) (μ' := μ) (by rfl) ?_
  refine zq_aald hc hH (by rfl) (i := i) (q := 25 + 8 * i) hi4 (by decide +kernel) (sj (P := fun i => Nat.beq (z_gr 8 i) (25 + 8 * i)) hi4 (by decide +kernel)) ?_
  refine z_rcs hc hH 1 (pc' := 15) (lv' := [(0, .ref 0), (1, .int (nI i)), (2, .int wh)]) (st' := [.int wh, .ref (25 + 8 * i)]) (μ' := μ) (by rfl) ?_
  refine zq_call hc (z_clv9 hH (by rfl) (by rfl) (by rfl) (by rfl) (sj (P := fun i => okr 79 4 (25 + 8 * i)) hi4 (by decide +kernel)) (by rfl) (by rfl)) (hpt d' (by omega)) (by decide +kernel) (fun r9 μ9 hq => ?_)
  obtain ⟨hμ9, rfl⟩ := hq
  rw [hμ9]
  clear hμ9 μ9
  show Z 0 18 [(0, .ref 0), (1, .int (nI i)), (2, .int wh)] [.int v] μ
  refine z_rcs hc hH 1 (pc' := 22) (lv' := [(0, .ref 0), (1, .int (nI i)), (2, .int wh)]) (st' := [.int v]) (μ' := μ) (by rfl) ?_
  exact hr 0 22 _ _ _ (some (.int v)) (by decide +kernel) (z_rx_ok hH (by rfl)) (⟨rfl, rfl⟩)

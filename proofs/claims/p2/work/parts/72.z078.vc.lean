/-! questions of the reference -/
set_option maxRecDepth 8000
theorem gm_hand (d : Nat) (hd : 3 ≤ d) (μ : zM) (s : Nat) (hs4 : s < 4) (k : Nat) (hk : k < 34) : z_C d mi_X7_hand [.ref 50, .int (nI s), .int (nI k)] μ (fun r μ' => r = some (.int (μ.1 60 (34 * s + k))) ∧ μ' = z_ui μ 50 0 0) := by
  refine z_C_in (by decide) (by omega) (fun d' Z ed hc hr => ?_)
  have hH : zH mi_X7_hand zc_X7_hand 79 7 3 := ⟨by rfl, by rfl, by rfl, by rfl⟩
  refine z_rcs hc hH 2 (pc' := 2) (lv' := [(0, .ref 50), (1, .int (nI s)), (2, .int (nI k))]) (st' := [.int 0, .ref 50]) (μ' := μ) (by rfl) ?_
  refine zq_pfi hc hH (by rfl) (ci := 6) (f := 0) (by rfl) (by decide +kernel) (by rfl) ?_
  show Z 0 5 [(0, .ref 50), (1, .int (nI s)), (2, .int (nI k))] [] (z_ui μ 50 0 0)
  refine z_rcs hc hH 1 (pc' := 6) (lv' := [(0, .ref 50), (1, .int (nI s)), (2, .int (nI k))]) (st' := [.int (nI s)]) (μ' := z_ui μ 50 0 0) (by rfl) ?_
  refine zq_call hc (by rfl) (gm_isSeatN d' (by omega) (z_ui μ 50 0 0) s hs4) (by decide +kernel) (fun r9 μ9 hq => ?_)
  obtain ⟨hμ9, rfl⟩ := hq
  rw [hμ9]
  clear hμ9 μ9
  show Z 0 9 [(0, .ref 50), (1, .int (nI s)), (2, .int (nI k))] [.int 1] (z_ui μ 50 0 0)
  refine z_rcs hc hH 2 (pc' := 13) (lv' := [(0, .ref 50), (1, .int (nI s)), (2, .int (nI k))]) (st' := [.int (nI k)]) (μ' := z_ui μ 50 0 0) (by rfl) ?_
  refine zq_call hc (by rfl) (gm_isKindN d' (by omega) (z_ui μ 50 0 0) k hk) (by decide +kernel) (fun r9 μ9 hq => ?_)
  obtain ⟨hμ9, rfl⟩ := hq
  rw [hμ9]
  clear hμ9 μ9
  show Z 0 16 [(0, .ref 50), (1, .int (nI s)), (2, .int (nI k))] [.int 1] (z_ui μ 50 0 0)
  refine z_rcs hc hH 4 (pc' := 22) (lv' := [(0, .ref 50), (1, .int (nI s)), (2, .int (nI k))]) (st' := [.int (nI k), .int (nI s), .ref 50]) (μ' := z_ui μ 50 0 0) (by rfl) ?_
  refine zq_call hc (by rfl) (fc_X7_has_ d' (by omega) (z_ui μ 50 0 0) s k hs4 hk) (by decide +kernel) (fun r9 μ9 hq => ?_)
  obtain ⟨hμ9, rfl⟩ := hq
  rw [hμ9]
  clear hμ9 μ9
  rw [ui_o (by omega)]
  show Z 0 25 [(0, .ref 50), (1, .int (nI s)), (2, .int (nI k))] [.int (μ.1 60 (34 * s + k))] (z_ui μ 50 0 0)
  refine z_rcs hc hH 1 (pc' := 29) (lv' := [(0, .ref 50), (1, .int (nI s)), (2, .int (nI k))]) (st' := [.int (μ.1 60 (34 * s + k))]) (μ' := z_ui μ 50 0 0) (by rfl) ?_
  exact hr 0 29 _ _ _ (some (.int (μ.1 60 (34 * s + k)))) (by decide +kernel) (by rfl) (⟨rfl, rfl⟩)
theorem gm_handS (d : Nat) (hd : 3 ≤ d) (μ : zM) (y x : Int32) (hs : ∀ d, 1 ≤ d → z_C d mi_X7_isSeat [.int y] (z_ui μ 50 0 0) (zR (z_ui μ 50 0 0) (.int 0))) : z_C d mi_X7_hand [.ref 50, .int y, .int x] μ (fun r μ' => r = some (.int 0) ∧ μ' = z_ui μ 50 0 0) := by
  refine z_C_in (by decide) (by omega) (fun d' Z ed hc hr => ?_)
  have hH : zH mi_X7_hand zc_X7_hand 79 7 3 := ⟨by rfl, by rfl, by rfl, by rfl⟩
  refine z_rcs hc hH 2 (pc' := 2) (lv' := [(0, .ref 50), (1, .int y), (2, .int x)]) (st' := [.int 0, .ref 50]) (μ' := μ) (by rfl) ?_
  refine zq_pfi hc hH (by rfl) (ci := 6) (f := 0) (by rfl) (by decide +kernel) (by rfl) ?_
  show Z 0 5 [(0, .ref 50), (1, .int y), (2, .int x)] [] (z_ui μ 50 0 0)
  refine z_rcs hc hH 1 (pc' := 6) (lv' := [(0, .ref 50), (1, .int y), (2, .int x)]) (st' := [.int y]) (μ' := z_ui μ 50 0 0) (by rfl) ?_
  refine zq_call hc (by rfl) (hs d' (by omega)) (by decide +kernel) (fun r9 μ9 hq => ?_)
  obtain ⟨hμ9, rfl⟩ := hq
  rw [hμ9]
  clear hμ9 μ9
  show Z 0 9 [(0, .ref 50), (1, .int y), (2, .int x)] [.int 0] (z_ui μ 50 0 0)
  refine z_rcs hc hH 2 (pc' := 29) (lv' := [(0, .ref 50), (1, .int y), (2, .int x)]) (st' := [.int 0]) (μ' := z_ui μ 50 0 0) (by rfl) ?_
  exact hr 0 29 _ _ _ (some (.int 0)) (by decide +kernel) (by rfl) (⟨rfl, rfl⟩)
theorem gm_handK (d : Nat) (hd : 3 ≤ d) (μ : zM) (s : Nat) (hs4 : s < 4) (x : Int32) (hk : ∀ d, 1 ≤ d → z_C d mi_X7_isKind [.int x] (z_ui μ 50 0 0) (zR (z_ui μ 50 0 0) (.int 0))) : z_C d mi_X7_hand [.ref 50, .int (nI s), .int x] μ (fun r μ' => r = some (.int 0) ∧ μ' = z_ui μ 50 0 0) := by
  refine z_C_in (by decide) (by omega) (fun d' Z ed hc hr => ?_)
  have hH : zH mi_X7_hand zc_X7_hand 79 7 3 := ⟨by rfl, by rfl, by rfl, by rfl⟩
  refine z_rcs hc hH 2 (pc' := 2) (lv' := [(0, .ref 50), (1, .int (nI s)), (2, .int x)]) (st' := [.int 0, .ref 50]) (μ' := μ) (by rfl) ?_
  refine zq_pfi hc hH (by rfl) (ci := 6) (f := 0) (by rfl) (by decide +kernel) (by rfl) ?_
  show Z 0 5 [(0, .ref 50), (1, .int (nI s)), (2, .int x)] [] (z_ui μ 50 0 0)
  refine z_rcs hc hH 1 (pc' := 6) (lv' := [(0, .ref 50), (1, .int (nI s)), (2, .int x)]) (st' := [.int (nI s)]) (μ' := z_ui μ 50 0 0) (by rfl) ?_
  refine zq_call hc (by rfl) (gm_isSeatN d' (by omega) (z_ui μ 50 0 0) s hs4) (by decide +kernel) (fun r9 μ9 hq => ?_)
  obtain ⟨hμ9, rfl⟩ := hq
  rw [hμ9]
  clear hμ9 μ9
  show Z 0 9 [(0, .ref 50), (1, .int (nI s)), (2, .int x)] [.int 1] (z_ui μ 50 0 0)
  refine z_rcs hc hH 2 (pc' := 13) (lv' := [(0, .ref 50), (1, .int (nI s)), (2, .int x)]) (st' := [.int x]) (μ' := z_ui μ 50 0 0) (by rfl) ?_
  refine zq_call hc (by rfl) (hk d' (by omega)) (by decide +kernel) (fun r9 μ9 hq => ?_)
  obtain ⟨hμ9, rfl⟩ := hq
  rw [hμ9]
  clear hμ9 μ9
  show Z 0 16 [(0, .ref 50), (1, .int (nI s)), (2, .int x)] [.int 0] (z_ui μ 50 0 0)
  refine z_rcs hc hH 2 (pc' := 29) (lv' := [(0, .ref 50), (1, .int (nI s)), (2, .int x)]) (st' := [.int 0]) (μ' := z_ui μ 50 0 0) (by rfl) ?_
  exact hr 0 29 _ _ _ (some (.int 0)) (by decide +kernel) (by rfl) (⟨rfl, rfl⟩)
theorem gm_seat0 (d : Nat) (hd : 4 ≤ d) (μ : zM) (s : Nat) (hs4 : s < 4) : z_C d mi_X7_seat [.ref 50, .int (nI s), .int 0] μ (fun r μ' => r = some (.int (μ.1 61 s)) ∧ μ' = z_ui μ 50 0 0) := by
  refine z_C_in (by decide) (by omega) (fun d' Z ed hc hr => ?_)
  have hH : zH mi_X7_seat zc_X7_seat 79 7 3 := ⟨by rfl, by rfl, by rfl, by rfl⟩
  refine z_rcs hc hH 2 (pc' := 2) (lv' := [(0, .ref 50), (1, .int (nI s)), (2, .int 0)]) (st' := [.int 0, .ref 50]) (μ' := μ) (by rfl) ?_
  refine zq_pfi hc hH (by rfl) (ci := 6) (f := 0) (by rfl) (by decide +kernel) (by rfl) ?_
  show Z 0 5 [(0, .ref 50), (1, .int (nI s)), (2, .int 0)] [] (z_ui μ 50 0 0)
  refine z_rcs hc hH 1 (pc' := 6) (lv' := [(0, .ref 50), (1, .int (nI s)), (2, .int 0)]) (st' := [.int (nI s)]) (μ' := z_ui μ 50 0 0) (by rfl) ?_
  refine zq_call hc (by rfl) (gm_isSeatN d' (by omega) (z_ui μ 50 0 0) s hs4) (by decide +kernel) (fun r9 μ9 hq => ?_)
  obtain ⟨hμ9, rfl⟩ := hq
  rw [hμ9]
  clear hμ9 μ9
  show Z 0 9 [(0, .ref 50), (1, .int (nI s)), (2, .int 0)] [.int 1] (z_ui μ 50 0 0)
  refine z_rcs hc hH 4 (pc' := 61) (lv' := [(0, .ref 50), (1, .int (nI s)), (2, .int 0)]) (st' := [.ref 50]) (μ' := z_ui μ 50 0 0) (by rfl) ?_
  refine zq_gfr hc hH (by rfl) (ci := 6) (f := 29) (q := 61) (by rfl) (by decide +kernel) (by rfl) (by decide +kernel) ?_
  refine z_rcs hc hH 1 (pc' := 65) (lv' := [(0, .ref 50), (1, .int (nI s)), (2, .int 0)]) (st' := [.int (nI s), .ref 61]) (μ' := z_ui μ 50 0 0) (by rfl) ?_
  refine zq_iald hc hH (by rfl) 4 (oka_i (by decide +kernel)) (vp_in_nI (by omega) (by decide)) ?_
  rw [nI_clamp (by omega)]
  rw [ui_o (by omega)]
  exact hr 0 66 _ _ _ (some (.int (μ.1 61 s))) (by decide +kernel) (by rfl) (⟨rfl, rfl⟩)
theorem gm_seat1 (d : Nat) (hd : 4 ≤ d) (μ : zM) (s : Nat) (hs4 : s < 4) : z_C d mi_X7_seat [.ref 50, .int (nI s), .int 1] μ (fun r μ' => r = some (.int (μ.1 67 s)) ∧ μ' = z_ui μ 50 0 0) := by
  refine z_C_in (by decide) (by omega) (fun d' Z ed hc hr => ?_)
  have hH : zH mi_X7_seat zc_X7_seat 79 7 3 := ⟨by rfl, by rfl, by rfl, by rfl⟩
  refine z_rcs hc hH 2 (pc' := 2) (lv' := [(0, .ref 50), (1, .int (nI s)), (2, .int 1)]) (st' := [.int 0, .ref 50]) (μ' := μ) (by rfl) ?_
  refine zq_pfi hc hH (by rfl) (ci := 6) (f := 0) (by rfl) (by decide +kernel) (by rfl) ?_
  show Z 0 5 [(0, .ref 50), (1, .int (nI s)), (2, .int 1)] [] (z_ui μ 50 0 0)
  refine z_rcs hc hH 1 (pc' := 6) (lv' := [(0, .ref 50), (1, .int (nI s)), (2, .int 1)]) (st' := [.int (nI s)]) (μ' := z_ui μ 50 0 0) (by rfl) ?_
  refine zq_call hc (by rfl) (gm_isSeatN d' (by omega) (z_ui μ 50 0 0) s hs4) (by decide +kernel) (fun r9 μ9 hq => ?_)
  obtain ⟨hμ9, rfl⟩ := hq
  rw [hμ9]
  clear hμ9 μ9
  show Z 0 9 [(0, .ref 50), (1, .int (nI s)), (2, .int 1)] [.int 1] (z_ui μ 50 0 0)
  refine z_rcs hc hH 4 (pc' := 68) (lv' := [(0, .ref 50), (1, .int (nI s)), (2, .int 1)]) (st' := [.ref 50]) (μ' := z_ui μ 50 0 0) (by rfl) ?_
  refine zq_gfr hc hH (by rfl) (ci := 6) (f := 35) (q := 67) (by rfl) (by decide +kernel) (by rfl) (by decide +kernel) ?_
  refine z_rcs hc hH 1 (pc' := 72) (lv' := [(0, .ref 50), (1, .int (nI s)), (2, .int 1)]) (st' := [.int (nI s), .ref 67]) (μ' := z_ui μ 50 0 0) (by rfl) ?_
  refine zq_iald hc hH (by rfl) 4 (oka_i (by decide +kernel)) (vp_in_nI (by omega) (by decide)) ?_
  rw [nI_clamp (by omega)]
  rw [ui_o (by omega)]
  exact hr 0 73 _ _ _ (some (.int (μ.1 67 s))) (by decide +kernel) (by rfl) (⟨rfl, rfl⟩)
theorem gm_seat2 (d : Nat) (hd : 4 ≤ d) (μ : zM) (s : Nat) (hs4 : s < 4) : z_C d mi_X7_seat [.ref 50, .int (nI s), .int 2] μ (fun r μ' => r = some ((bif decide ((μ.1 70 s) = 0) then .int 0 else .int 1)) ∧ μ' = z_ui μ 50 0 0) := by
  refine z_C_in (by decide) (by omega) (fun d' Z ed hc hr => ?_)
  have hH : zH mi_X7_seat zc_X7_seat 79 7 3 := ⟨by rfl, by rfl, by rfl, by rfl⟩
  refine z_rcs hc hH 2 (pc' := 2) (lv' := [(0, .ref 50), (1, .int (nI s)), (2, .int 2)]) (st' := [.int 0, .ref 50]) (μ' := μ) (by rfl) ?_
  refine zq_pfi hc hH (by rfl) (ci := 6) (f := 0) (by rfl) (by decide +kernel) (by rfl) ?_
  show Z 0 5 [(0, .ref 50), (1, .int (nI s)), (2, .int 2)] [] (z_ui μ 50 0 0)
  refine z_rcs hc hH 1 (pc' := 6) (lv' := [(0, .ref 50), (1, .int (nI s)), (2, .int 2)]) (st' := [.int (nI s)]) (μ' := z_ui μ 50 0 0) (by rfl) ?_
  refine zq_call hc (by rfl) (gm_isSeatN d' (by omega) (z_ui μ 50 0 0) s hs4) (by decide +kernel) (fun r9 μ9 hq => ?_)
  obtain ⟨hμ9, rfl⟩ := hq
  rw [hμ9]
  clear hμ9 μ9
  show Z 0 9 [(0, .ref 50), (1, .int (nI s)), (2, .int 2)] [.int 1] (z_ui μ 50 0 0)
  refine z_rcs hc hH 4 (pc' := 75) (lv' := [(0, .ref 50), (1, .int (nI s)), (2, .int 2)]) (st' := [.ref 50]) (μ' := z_ui μ 50 0 0) (by rfl) ?_
  refine zq_gfr hc hH (by rfl) (ci := 6) (f := 38) (q := 70) (by rfl) (by decide +kernel) (by rfl) (by decide +kernel) ?_
  refine z_rcs hc hH 1 (pc' := 79) (lv' := [(0, .ref 50), (1, .int (nI s)), (2, .int 2)]) (st' := [.int (nI s), .ref 70]) (μ' := z_ui μ 50 0 0) (by rfl) ?_
  refine zq_bald hc hH (by rfl) 4 (by decide +kernel) (vp_in_nI (by omega) (by decide)) ?_
  rw [nI_clamp (by omega)]
  rw [ui_o (by omega)]
  refine zq_if hc hH (by rfl) (tg := 87) (by rfl) (fun h1 => ?_) (fun h1 => ?_)
  · have h1 : (decide ((μ.1 70 s) = 0)) = true := decide_eq_true (cm_eq9.mp h1)
    refine z_rcs hc hH 1 (pc' := 88) (lv' := [(0, .ref 50), (1, .int (nI s)), (2, .int 2)]) (st' := [.int 0]) (μ' := z_ui μ 50 0 0) (by rfl) ?_
    exact hr 0 88 _ _ _ (some (.int 0)) (by decide +kernel) (by rfl) (⟨(by first | rfl | simp only [h1, cond_true, cond_false]), (by simp only [h1, cond_true, cond_false])⟩)
  · have h1 : (decide ((μ.1 70 s) = 0)) = false := decide_eq_false (cn_eq.mp h1)
    refine z_rcs hc hH 2 (pc' := 88) (lv' := [(0, .ref 50), (1, .int (nI s)), (2, .int 2)]) (st' := [.int 1]) (μ' := z_ui μ 50 0 0) (by rfl) ?_
    exact hr 0 88 _ _ _ (some (.int 1)) (by decide +kernel) (by rfl) (⟨(by first | rfl | simp only [h1, cond_true, cond_false]), (by simp only [h1, cond_true, cond_false])⟩)
theorem gm_seat3 (d : Nat) (hd : 4 ≤ d) (μ : zM) (s : Nat) (hs4 : s < 4) : z_C d mi_X7_seat [.ref 50, .int (nI s), .int 3] μ (fun r μ' => r = some (.int (wdM (μ.1 50 40) (nI s))) ∧ μ' = z_ui μ 50 0 0) := by
  refine z_C_in (by decide) (by omega) (fun d' Z ed hc hr => ?_)
  have hH : zH mi_X7_seat zc_X7_seat 79 7 3 := ⟨by rfl, by rfl, by rfl, by rfl⟩
  refine z_rcs hc hH 2 (pc' := 2) (lv' := [(0, .ref 50), (1, .int (nI s)), (2, .int 3)]) (st' := [.int 0, .ref 50]) (μ' := μ) (by rfl) ?_
  refine zq_pfi hc hH (by rfl) (ci := 6) (f := 0) (by rfl) (by decide +kernel) (by rfl) ?_
  show Z 0 5 [(0, .ref 50), (1, .int (nI s)), (2, .int 3)] [] (z_ui μ 50 0 0)
  refine z_rcs hc hH 1 (pc' := 6) (lv' := [(0, .ref 50), (1, .int (nI s)), (2, .int 3)]) (st' := [.int (nI s)]) (μ' := z_ui μ 50 0 0) (by rfl) ?_
  refine zq_call hc (by rfl) (gm_isSeatN d' (by omega) (z_ui μ 50 0 0) s hs4) (by decide +kernel) (fun r9 μ9 hq => ?_)
  obtain ⟨hμ9, rfl⟩ := hq
  rw [hμ9]
  clear hμ9 μ9
  show Z 0 9 [(0, .ref 50), (1, .int (nI s)), (2, .int 3)] [.int 1] (z_ui μ 50 0 0)
  refine z_rcs hc hH 5 (pc' := 91) (lv' := [(0, .ref 50), (1, .int (nI s)), (2, .int 3)]) (st' := [.int (nI s), .ref 50]) (μ' := z_ui μ 50 0 0) (by rfl) ?_
  refine zq_call hc (by rfl) (fx_wind d' (by omega) (z_ui μ 50 0 0) (μ.1 50 40) (nI s) (by rw [ui_k (by omega)])) (by decide +kernel) (fun r9 μ9 hq => ?_)
  obtain ⟨hμ9, rfl⟩ := hq
  rw [hμ9]
  clear hμ9 μ9
  show Z 0 94 [(0, .ref 50), (1, .int (nI s)), (2, .int 3)] [.int (wdM (μ.1 50 40) (nI s))] (z_ui μ 50 0 0)
  exact hr 0 94 _ _ _ (some (.int (wdM (μ.1 50 40) (nI s)))) (by decide +kernel) (by rfl) (⟨rfl, rfl⟩)
theorem gm_seat4 (d : Nat) (hd : 4 ≤ d) (μ : zM) (s : Nat) (hs4 : s < 4) : z_C d mi_X7_seat [.ref 50, .int (nI s), .int 4] μ (fun r μ' => r = some (.int (μ.1 66 s)) ∧ μ' = z_ui μ 50 0 0) := by
  refine z_C_in (by decide) (by omega) (fun d' Z ed hc hr => ?_)
  have hH : zH mi_X7_seat zc_X7_seat 79 7 3 := ⟨by rfl, by rfl, by rfl, by rfl⟩
  refine z_rcs hc hH 2 (pc' := 2) (lv' := [(0, .ref 50), (1, .int (nI s)), (2, .int 4)]) (st' := [.int 0, .ref 50]) (μ' := μ) (by rfl) ?_
  refine zq_pfi hc hH (by rfl) (ci := 6) (f := 0) (by rfl) (by decide +kernel) (by rfl) ?_
  show Z 0 5 [(0, .ref 50), (1, .int (nI s)), (2, .int 4)] [] (z_ui μ 50 0 0)
  refine z_rcs hc hH 1 (pc' := 6) (lv' := [(0, .ref 50), (1, .int (nI s)), (2, .int 4)]) (st' := [.int (nI s)]) (μ' := z_ui μ 50 0 0) (by rfl) ?_
  refine zq_call hc (by rfl) (gm_isSeatN d' (by omega) (z_ui μ 50 0 0) s hs4) (by decide +kernel) (fun r9 μ9 hq => ?_)
  obtain ⟨hμ9, rfl⟩ := hq
  rw [hμ9]
  clear hμ9 μ9
  show Z 0 9 [(0, .ref 50), (1, .int (nI s)), (2, .int 4)] [.int 1] (z_ui μ 50 0 0)
  refine z_rcs hc hH 4 (pc' := 96) (lv' := [(0, .ref 50), (1, .int (nI s)), (2, .int 4)]) (st' := [.ref 50]) (μ' := z_ui μ 50 0 0) (by rfl) ?_
  refine zq_gfr hc hH (by rfl) (ci := 6) (f := 34) (q := 66) (by rfl) (by decide +kernel) (by rfl) (by decide +kernel) ?_
  refine z_rcs hc hH 1 (pc' := 100) (lv' := [(0, .ref 50), (1, .int (nI s)), (2, .int 4)]) (st' := [.int (nI s), .ref 66]) (μ' := z_ui μ 50 0 0) (by rfl) ?_
  refine zq_iald hc hH (by rfl) 4 (oka_i (by decide +kernel)) (vp_in_nI (by omega) (by decide)) ?_
  rw [nI_clamp (by omega)]
  rw [ui_o (by omega)]
  exact hr 0 101 _ _ _ (some (.int (μ.1 66 s))) (by decide +kernel) (by rfl) (⟨rfl, rfl⟩)
theorem gm_seat5 (d : Nat) (hd : 4 ≤ d) (μ : zM) (s : Nat) (hs4 : s < 4) : z_C d mi_X7_seat [.ref 50, .int (nI s), .int 5] μ (fun r μ' => r = some (.int (μ.1 64 s)) ∧ μ' = z_ui μ 50 0 0) := by
  refine z_C_in (by decide) (by omega) (fun d' Z ed hc hr => ?_)
  have hH : zH mi_X7_seat zc_X7_seat 79 7 3 := ⟨by rfl, by rfl, by rfl, by rfl⟩
  refine z_rcs hc hH 2 (pc' := 2) (lv' := [(0, .ref 50), (1, .int (nI s)), (2, .int 5)]) (st' := [.int 0, .ref 50]) (μ' := μ) (by rfl) ?_
  refine zq_pfi hc hH (by rfl) (ci := 6) (f := 0) (by rfl) (by decide +kernel) (by rfl) ?_
  show Z 0 5 [(0, .ref 50), (1, .int (nI s)), (2, .int 5)] [] (z_ui μ 50 0 0)
  refine z_rcs hc hH 1 (pc' := 6) (lv' := [(0, .ref 50), (1, .int (nI s)), (2, .int 5)]) (st' := [.int (nI s)]) (μ' := z_ui μ 50 0 0) (by rfl) ?_
  refine zq_call hc (by rfl) (gm_isSeatN d' (by omega) (z_ui μ 50 0 0) s hs4) (by decide +kernel) (fun r9 μ9 hq => ?_)
  obtain ⟨hμ9, rfl⟩ := hq
  rw [hμ9]
  clear hμ9 μ9
  show Z 0 9 [(0, .ref 50), (1, .int (nI s)), (2, .int 5)] [.int 1] (z_ui μ 50 0 0)
  refine z_rcs hc hH 4 (pc' := 103) (lv' := [(0, .ref 50), (1, .int (nI s)), (2, .int 5)]) (st' := [.ref 50]) (μ' := z_ui μ 50 0 0) (by rfl) ?_
  refine zq_gfr hc hH (by rfl) (ci := 6) (f := 32) (q := 64) (by rfl) (by decide +kernel) (by rfl) (by decide +kernel) ?_
  refine z_rcs hc hH 1 (pc' := 107) (lv' := [(0, .ref 50), (1, .int (nI s)), (2, .int 5)]) (st' := [.int (nI s), .ref 64]) (μ' := z_ui μ 50 0 0) (by rfl) ?_
  refine zq_iald hc hH (by rfl) 4 (oka_i (by decide +kernel)) (vp_in_nI (by omega) (by decide)) ?_
  rw [nI_clamp (by omega)]
  rw [ui_o (by omega)]
  exact hr 0 108 _ _ _ (some (.int (μ.1 64 s))) (by decide +kernel) (by rfl) (⟨rfl, rfl⟩)
theorem gm_seat6 (d : Nat) (hd : 4 ≤ d) (μ : zM) (s : Nat) (hs4 : s < 4) (op : Bool) (hop : ∀ d, 1 ≤ d → z_C d mi_X7_isOpen_ [.ref 50, .int (nI s)] (z_ui μ 50 0 0) (zR (z_ui μ 50 0 0) (.int (nB op)))) : z_C d mi_X7_seat [.ref 50, .int (nI s), .int 6] μ (fun r μ' => r = some ((bif op then .int 1 else .int 0)) ∧ μ' = z_ui μ 50 0 0) := by
  refine z_C_in (by decide) (by omega) (fun d' Z ed hc hr => ?_)
  have hH : zH mi_X7_seat zc_X7_seat 79 7 3 := ⟨by rfl, by rfl, by rfl, by rfl⟩
  refine z_rcs hc hH 2 (pc' := 2) (lv' := [(0, .ref 50), (1, .int (nI s)), (2, .int 6)]) (st' := [.int 0, .ref 50]) (μ' := μ) (by rfl) ?_
  refine zq_pfi hc hH (by rfl) (ci := 6) (f := 0) (by rfl) (by decide +kernel) (by rfl) ?_
  show Z 0 5 [(0, .ref 50), (1, .int (nI s)), (2, .int 6)] [] (z_ui μ 50 0 0)
  refine z_rcs hc hH 1 (pc' := 6) (lv' := [(0, .ref 50), (1, .int (nI s)), (2, .int 6)]) (st' := [.int (nI s)]) (μ' := z_ui μ 50 0 0) (by rfl) ?_
  refine zq_call hc (by rfl) (gm_isSeatN d' (by omega) (z_ui μ 50 0 0) s hs4) (by decide +kernel) (fun r9 μ9 hq => ?_)
  obtain ⟨hμ9, rfl⟩ := hq
  rw [hμ9]
  clear hμ9 μ9
  show Z 0 9 [(0, .ref 50), (1, .int (nI s)), (2, .int 6)] [.int 1] (z_ui μ 50 0 0)
  refine z_rcs hc hH 5 (pc' := 111) (lv' := [(0, .ref 50), (1, .int (nI s)), (2, .int 6)]) (st' := [.int (nI s), .ref 50]) (μ' := z_ui μ 50 0 0) (by rfl) ?_
  refine zq_call hc (by rfl) (hop d' (by omega)) (by decide +kernel) (fun r9 μ9 hq => ?_)
  obtain ⟨hμ9, rfl⟩ := hq
  rw [hμ9]
  clear hμ9 μ9
  show Z 0 114 [(0, .ref 50), (1, .int (nI s)), (2, .int 6)] [.int (nB op)] (z_ui μ 50 0 0)
  refine zq_if hc hH (by rfl) (tg := 121) (by rfl) (fun h1 => ?_) (fun h1 => ?_)
  · have h1 : (op) = false := nB_z.mp (cm_eq9.mp h1)
    refine z_rcs hc hH 1 (pc' := 122) (lv' := [(0, .ref 50), (1, .int (nI s)), (2, .int 6)]) (st' := [.int 0]) (μ' := z_ui μ 50 0 0) (by rfl) ?_
    exact hr 0 122 _ _ _ (some (.int 0)) (by decide +kernel) (by rfl) (⟨(by first | rfl | simp only [h1, cond_true, cond_false]), (by simp only [h1, cond_true, cond_false])⟩)
  · have h1 : (op) = true := nB_n.mp (cn_eq.mp h1)
    refine z_rcs hc hH 2 (pc' := 122) (lv' := [(0, .ref 50), (1, .int (nI s)), (2, .int 6)]) (st' := [.int 1]) (μ' := z_ui μ 50 0 0) (by rfl) ?_
    exact hr 0 122 _ _ _ (some (.int 1)) (by decide +kernel) (by rfl) (⟨(by first | rfl | simp only [h1, cond_true, cond_false]), (by simp only [h1, cond_true, cond_false])⟩)
theorem gm_seat7 (d : Nat) (hd : 4 ≤ d) (μ : zM) (s : Nat) (hs4 : s < 4) : z_C d mi_X7_seat [.ref 50, .int (nI s), .int 7] μ (fun r μ' => r = some ((bif decide ((μ.1 71 s) = 0) then .int 0 else .int 1)) ∧ μ' = z_ui μ 50 0 0) := by
  refine z_C_in (by decide) (by omega) (fun d' Z ed hc hr => ?_)
  have hH : zH mi_X7_seat zc_X7_seat 79 7 3 := ⟨by rfl, by rfl, by rfl, by rfl⟩
  refine z_rcs hc hH 2 (pc' := 2) (lv' := [(0, .ref 50), (1, .int (nI s)), (2, .int 7)]) (st' := [.int 0, .ref 50]) (μ' := μ) (by rfl) ?_
  refine zq_pfi hc hH (by rfl) (ci := 6) (f := 0) (by rfl) (by decide +kernel) (by rfl) ?_
  show Z 0 5 [(0, .ref 50), (1, .int (nI s)), (2, .int 7)] [] (z_ui μ 50 0 0)
  refine z_rcs hc hH 1 (pc' := 6) (lv' := [(0, .ref 50), (1, .int (nI s)), (2, .int 7)]) (st' := [.int (nI s)]) (μ' := z_ui μ 50 0 0) (by rfl) ?_
  refine zq_call hc (by rfl) (gm_isSeatN d' (by omega) (z_ui μ 50 0 0) s hs4) (by decide +kernel) (fun r9 μ9 hq => ?_)
  obtain ⟨hμ9, rfl⟩ := hq
  rw [hμ9]
  clear hμ9 μ9
  show Z 0 9 [(0, .ref 50), (1, .int (nI s)), (2, .int 7)] [.int 1] (z_ui μ 50 0 0)
  refine z_rcs hc hH 4 (pc' := 124) (lv' := [(0, .ref 50), (1, .int (nI s)), (2, .int 7)]) (st' := [.ref 50]) (μ' := z_ui μ 50 0 0) (by rfl) ?_
  refine zq_gfr hc hH (by rfl) (ci := 6) (f := 39) (q := 71) (by rfl) (by decide +kernel) (by rfl) (by decide +kernel) ?_
  refine z_rcs hc hH 1 (pc' := 128) (lv' := [(0, .ref 50), (1, .int (nI s)), (2, .int 7)]) (st' := [.int (nI s), .ref 71]) (μ' := z_ui μ 50 0 0) (by rfl) ?_
  refine zq_bald hc hH (by rfl) 4 (by decide +kernel) (vp_in_nI (by omega) (by decide)) ?_
  rw [nI_clamp (by omega)]
  rw [ui_o (by omega)]
  refine zq_if hc hH (by rfl) (tg := 136) (by rfl) (fun h1 => ?_) (fun h1 => ?_)
  · have h1 : (decide ((μ.1 71 s) = 0)) = true := decide_eq_true (cm_eq9.mp h1)
    refine z_rcs hc hH 1 (pc' := 137) (lv' := [(0, .ref 50), (1, .int (nI s)), (2, .int 7)]) (st' := [.int 0]) (μ' := z_ui μ 50 0 0) (by rfl) ?_
    exact hr 0 137 _ _ _ (some (.int 0)) (by decide +kernel) (by rfl) (⟨(by first | rfl | simp only [h1, cond_true, cond_false]), (by simp only [h1, cond_true, cond_false])⟩)
  · have h1 : (decide ((μ.1 71 s) = 0)) = false := decide_eq_false (cn_eq.mp h1)
    refine z_rcs hc hH 2 (pc' := 137) (lv' := [(0, .ref 50), (1, .int (nI s)), (2, .int 7)]) (st' := [.int 1]) (μ' := z_ui μ 50 0 0) (by rfl) ?_
    exact hr 0 137 _ _ _ (some (.int 1)) (by decide +kernel) (by rfl) (⟨(by first | rfl | simp only [h1, cond_true, cond_false]), (by simp only [h1, cond_true, cond_false])⟩)
theorem gm_seatd (d : Nat) (hd : 4 ≤ d) (μ : zM) (s : Nat) (hs4 : s < 4) (x : Int32) (hx : (decide (x.toInt < 0) || decide (7 < x.toInt)) = true) : z_C d mi_X7_seat [.ref 50, .int (nI s), .int x] μ (fun r μ' => r = some (.int (-1)) ∧ μ' = z_ui μ 50 0 0) := by
  refine z_C_in (by decide) (by omega) (fun d' Z ed hc hr => ?_)
  have hH : zH mi_X7_seat zc_X7_seat 79 7 3 := ⟨by rfl, by rfl, by rfl, by rfl⟩
  refine z_rcs hc hH 2 (pc' := 2) (lv' := [(0, .ref 50), (1, .int (nI s)), (2, .int x)]) (st' := [.int 0, .ref 50]) (μ' := μ) (by rfl) ?_
  refine zq_pfi hc hH (by rfl) (ci := 6) (f := 0) (by rfl) (by decide +kernel) (by rfl) ?_
  show Z 0 5 [(0, .ref 50), (1, .int (nI s)), (2, .int x)] [] (z_ui μ 50 0 0)
  refine z_rcs hc hH 1 (pc' := 6) (lv' := [(0, .ref 50), (1, .int (nI s)), (2, .int x)]) (st' := [.int (nI s)]) (μ' := z_ui μ 50 0 0) (by rfl) ?_
  refine zq_call hc (by rfl) (gm_isSeatN d' (by omega) (z_ui μ 50 0 0) s hs4) (by decide +kernel) (fun r9 μ9 hq => ?_)
  obtain ⟨hμ9, rfl⟩ := hq
  rw [hμ9]
  clear hμ9 μ9
  show Z 0 9 [(0, .ref 50), (1, .int (nI s)), (2, .int x)] [.int 1] (z_ui μ 50 0 0)
  refine z_rcs hc hH 2 (pc' := 15) (lv' := [(0, .ref 50), (1, .int (nI s)), (2, .int x)]) (st' := [.int x]) (μ' := z_ui μ 50 0 0) (by rfl) ?_
  refine zq_tsd hc hH (by rfl) (tg := 138) (by rfl) hx ?_
  refine z_rcs hc hH 1 (pc' := 139) (lv' := [(0, .ref 50), (1, .int (nI s)), (2, .int x)]) (st' := [.int (-1)]) (μ' := z_ui μ 50 0 0) (by rfl) ?_
  exact hr 0 139 _ _ _ (some (.int (-1))) (by decide +kernel) (by rfl) (⟨rfl, rfl⟩)
theorem gm_seatS (d : Nat) (hd : 4 ≤ d) (μ : zM) (y x : Int32) (hs : ∀ d, 1 ≤ d → z_C d mi_X7_isSeat [.int y] (z_ui μ 50 0 0) (zR (z_ui μ 50 0 0) (.int 0))) : z_C d mi_X7_seat [.ref 50, .int y, .int x] μ (fun r μ' => r = some (.int (-1)) ∧ μ' = z_ui μ 50 0 0) := by
  refine z_C_in (by decide) (by omega) (fun d' Z ed hc hr => ?_)
  have hH : zH mi_X7_seat zc_X7_seat 79 7 3 := ⟨by rfl, by rfl, by rfl, by rfl⟩
  refine z_rcs hc hH 2 (pc' := 2) (lv' := [(0, .ref 50), (1, .int y), (2, .int x)]) (st' := [.int 0, .ref 50]) (μ' := μ) (by rfl) ?_
  refine zq_pfi hc hH (by rfl) (ci := 6) (f := 0) (by rfl) (by decide +kernel) (by rfl) ?_
  show Z 0 5 [(0, .ref 50), (1, .int y), (2, .int x)] [] (z_ui μ 50 0 0)
  refine z_rcs hc hH 1 (pc' := 6) (lv' := [(0, .ref 50), (1, .int y), (2, .int x)]) (st' := [.int y]) (μ' := z_ui μ 50 0 0) (by rfl) ?_
  refine zq_call hc (by rfl) (hs d' (by omega)) (by decide +kernel) (fun r9 μ9 hq => ?_)
  obtain ⟨hμ9, rfl⟩ := hq
  rw [hμ9]
  clear hμ9 μ9
  show Z 0 9 [(0, .ref 50), (1, .int y), (2, .int x)] [.int 0] (z_ui μ 50 0 0)
  refine z_rcs hc hH 2 (pc' := 13) (lv' := [(0, .ref 50), (1, .int y), (2, .int x)]) (st' := [.int (-1)]) (μ' := z_ui μ 50 0 0) (by rfl) ?_
  exact hr 0 13 _ _ _ (some (.int (-1))) (by decide +kernel) (by rfl) (⟨rfl, rfl⟩)
theorem gm_count0 (d : Nat) (hd : 4 ≤ d) (μ : zM) : z_C d mi_X7_count [.ref 50, .int 0] μ (fun r μ' => r = some (.int (μ.1 50 44)) ∧ μ' = z_ui μ 50 0 0) := by
  refine z_C_in (by decide) (by omega) (fun d' Z ed hc hr => ?_)
  have hH : zH mi_X7_count zc_X7_count 79 7 2 := ⟨by rfl, by rfl, by rfl, by rfl⟩
  refine z_rcs hc hH 2 (pc' := 2) (lv' := [(0, .ref 50), (1, .int 0)]) (st' := [.int 0, .ref 50]) (μ' := μ) (by rfl) ?_
  refine zq_pfi hc hH (by rfl) (ci := 6) (f := 0) (by rfl) (by decide +kernel) (by rfl) ?_
  show Z 0 5 [(0, .ref 50), (1, .int 0)] [] (z_ui μ 50 0 0)
  refine z_rcs hc hH 3 (pc' := 73) (lv' := [(0, .ref 50), (1, .int 0)]) (st' := [.ref 50]) (μ' := z_ui μ 50 0 0) (by rfl) ?_
  refine zq_gfi hc hH (by rfl) (ci := 6) (f := 44) (by rfl) (by decide +kernel) (by rfl) ?_
  rw [ui_k (by omega)]
  exact hr 0 76 _ _ _ (some (.int (μ.1 50 44))) (by decide +kernel) (by rfl) (⟨rfl, rfl⟩)
theorem gm_count1 (d : Nat) (hd : 4 ≤ d) (μ : zM) : z_C d mi_X7_count [.ref 50, .int 1] μ (fun r μ' => r = some ((bif decide ((μ.1 50 44) = 0) then .int (-1) else .int (μ.1 50 45))) ∧ μ' = z_ui μ 50 0 0) := by
  refine z_C_in (by decide) (by omega) (fun d' Z ed hc hr => ?_)
  have hH : zH mi_X7_count zc_X7_count 79 7 2 := ⟨by rfl, by rfl, by rfl, by rfl⟩
  refine z_rcs hc hH 2 (pc' := 2) (lv' := [(0, .ref 50), (1, .int 1)]) (st' := [.int 0, .ref 50]) (μ' := μ) (by rfl) ?_
  refine zq_pfi hc hH (by rfl) (ci := 6) (f := 0) (by rfl) (by decide +kernel) (by rfl) ?_
  show Z 0 5 [(0, .ref 50), (1, .int 1)] [] (z_ui μ 50 0 0)
  refine z_rcs hc hH 3 (pc' := 78) (lv' := [(0, .ref 50), (1, .int 1)]) (st' := [.ref 50]) (μ' := z_ui μ 50 0 0) (by rfl) ?_
  refine zq_gfi hc hH (by rfl) (ci := 6) (f := 44) (by rfl) (by decide +kernel) (by rfl) ?_
  rw [ui_k (by omega)]
  refine zq_if hc hH (by rfl) (tg := 88) (by rfl) (fun h1 => ?_) (fun h1 => ?_)
  · have h1 : (decide ((μ.1 50 44) = 0)) = false := decide_eq_false (cm_ne.mp h1)
    refine z_rcs hc hH 1 (pc' := 89) (lv' := [(0, .ref 50), (1, .int 1)]) (st' := [.ref 50]) (μ' := z_ui μ 50 0 0) (by rfl) ?_
    refine zq_gfi hc hH (by rfl) (ci := 6) (f := 45) (by rfl) (by decide +kernel) (by rfl) ?_
    rw [ui_k (by omega)]
    exact hr 0 92 _ _ _ (some (.int (μ.1 50 45))) (by decide +kernel) (by rfl) (⟨(by first | rfl | simp only [h1, cond_true, cond_false]), (by simp only [h1, cond_true, cond_false])⟩)
  · have h1 : (decide ((μ.1 50 44) = 0)) = true := decide_eq_true (cn_ne.mp h1)
    refine z_rcs hc hH 2 (pc' := 92) (lv' := [(0, .ref 50), (1, .int 1)]) (st' := [.int (-1)]) (μ' := z_ui μ 50 0 0) (by rfl) ?_
    exact hr 0 92 _ _ _ (some (.int (-1))) (by decide +kernel) (by rfl) (⟨(by first | rfl | simp only [h1, cond_true, cond_false]), (by simp only [h1, cond_true, cond_false])⟩)
theorem gm_count2 (d : Nat) (hd : 4 ≤ d) (μ : zM) : z_C d mi_X7_count [.ref 50, .int 2] μ (fun r μ' => r = some (.int (μ.1 50 40)) ∧ μ' = z_ui μ 50 0 0) := by
  refine z_C_in (by decide) (by omega) (fun d' Z ed hc hr => ?_)
  have hH : zH mi_X7_count zc_X7_count 79 7 2 := ⟨by rfl, by rfl, by rfl, by rfl⟩
  refine z_rcs hc hH 2 (pc' := 2) (lv' := [(0, .ref 50), (1, .int 2)]) (st' := [.int 0, .ref 50]) (μ' := μ) (by rfl) ?_
  refine zq_pfi hc hH (by rfl) (ci := 6) (f := 0) (by rfl) (by decide +kernel) (by rfl) ?_
  show Z 0 5 [(0, .ref 50), (1, .int 2)] [] (z_ui μ 50 0 0)
  refine z_rcs hc hH 3 (pc' := 94) (lv' := [(0, .ref 50), (1, .int 2)]) (st' := [.ref 50]) (μ' := z_ui μ 50 0 0) (by rfl) ?_
  refine zq_gfi hc hH (by rfl) (ci := 6) (f := 40) (by rfl) (by decide +kernel) (by rfl) ?_
  rw [ui_k (by omega)]
  exact hr 0 97 _ _ _ (some (.int (μ.1 50 40))) (by decide +kernel) (by rfl) (⟨rfl, rfl⟩)
theorem gm_count3 (d : Nat) (hd : 4 ≤ d) (μ : zM) : z_C d mi_X7_count [.ref 50, .int 3] μ (fun r μ' => r = some (.int (μ.1 50 41)) ∧ μ' = z_ui μ 50 0 0) := by
  refine z_C_in (by decide) (by omega) (fun d' Z ed hc hr => ?_)
  have hH : zH mi_X7_count zc_X7_count 79 7 2 := ⟨by rfl, by rfl, by rfl, by rfl⟩
  refine z_rcs hc hH 2 (pc' := 2) (lv' := [(0, .ref 50), (1, .int 3)]) (st' := [.int 0, .ref 50]) (μ' := μ) (by rfl) ?_
  refine zq_pfi hc hH (by rfl) (ci := 6) (f := 0) (by rfl) (by decide +kernel) (by rfl) ?_
  show Z 0 5 [(0, .ref 50), (1, .int 3)] [] (z_ui μ 50 0 0)
  refine z_rcs hc hH 3 (pc' := 99) (lv' := [(0, .ref 50), (1, .int 3)]) (st' := [.ref 50]) (μ' := z_ui μ 50 0 0) (by rfl) ?_
  refine zq_gfi hc hH (by rfl) (ci := 6) (f := 41) (by rfl) (by decide +kernel) (by rfl) ?_
  rw [ui_k (by omega)]
  exact hr 0 102 _ _ _ (some (.int (μ.1 50 41))) (by decide +kernel) (by rfl) (⟨rfl, rfl⟩)
theorem gm_count4 (d : Nat) (hd : 4 ≤ d) (μ : zM) : z_C d mi_X7_count [.ref 50, .int 4] μ (fun r μ' => r = some (.int (μ.1 50 42)) ∧ μ' = z_ui μ 50 0 0) := by
  refine z_C_in (by decide) (by omega) (fun d' Z ed hc hr => ?_)
  have hH : zH mi_X7_count zc_X7_count 79 7 2 := ⟨by rfl, by rfl, by rfl, by rfl⟩
  refine z_rcs hc hH 2 (pc' := 2) (lv' := [(0, .ref 50), (1, .int 4)]) (st' := [.int 0, .ref 50]) (μ' := μ) (by rfl) ?_
  refine zq_pfi hc hH (by rfl) (ci := 6) (f := 0) (by rfl) (by decide +kernel) (by rfl) ?_
  show Z 0 5 [(0, .ref 50), (1, .int 4)] [] (z_ui μ 50 0 0)
  refine z_rcs hc hH 3 (pc' := 104) (lv' := [(0, .ref 50), (1, .int 4)]) (st' := [.ref 50]) (μ' := z_ui μ 50 0 0) (by rfl) ?_
  refine zq_gfi hc hH (by rfl) (ci := 6) (f := 42) (by rfl) (by decide +kernel) (by rfl) ?_
  rw [ui_k (by omega)]
  exact hr 0 107 _ _ _ (some (.int (μ.1 50 42))) (by decide +kernel) (by rfl) (⟨rfl, rfl⟩)
theorem gm_count5 (d : Nat) (hd : 4 ≤ d) (μ : zM) : z_C d mi_X7_count [.ref 50, .int 5] μ (fun r μ' => r = some (.int (μ.1 50 43)) ∧ μ' = z_ui μ 50 0 0) := by
  refine z_C_in (by decide) (by omega) (fun d' Z ed hc hr => ?_)
  have hH : zH mi_X7_count zc_X7_count 79 7 2 := ⟨by rfl, by rfl, by rfl, by rfl⟩
  refine z_rcs hc hH 2 (pc' := 2) (lv' := [(0, .ref 50), (1, .int 5)]) (st' := [.int 0, .ref 50]) (μ' := μ) (by rfl) ?_
  refine zq_pfi hc hH (by rfl) (ci := 6) (f := 0) (by rfl) (by decide +kernel) (by rfl) ?_
  show Z 0 5 [(0, .ref 50), (1, .int 5)] [] (z_ui μ 50 0 0)
  refine z_rcs hc hH 3 (pc' := 109) (lv' := [(0, .ref 50), (1, .int 5)]) (st' := [.ref 50]) (μ' := z_ui μ 50 0 0) (by rfl) ?_
  refine zq_gfi hc hH (by rfl) (ci := 6) (f := 43) (by rfl) (by decide +kernel) (by rfl) ?_
  rw [ui_k (by omega)]
  exact hr 0 112 _ _ _ (some (.int (μ.1 50 43))) (by decide +kernel) (by rfl) (⟨rfl, rfl⟩)
theorem gm_count6 (d : Nat) (hd : 4 ≤ d) (μ : zM) : z_C d mi_X7_count [.ref 50, .int 6] μ (fun r μ' => r = some ((bif decide ((μ.1 50 55) = 0) then .int 0 else .int ((122 - (μ.1 50 47)) - (μ.1 50 46)))) ∧ μ' = z_ui μ 50 0 0) := by
  refine z_C_in (by decide) (by omega) (fun d' Z ed hc hr => ?_)
  have hH : zH mi_X7_count zc_X7_count 79 7 2 := ⟨by rfl, by rfl, by rfl, by rfl⟩
  refine z_rcs hc hH 2 (pc' := 2) (lv' := [(0, .ref 50), (1, .int 6)]) (st' := [.int 0, .ref 50]) (μ' := μ) (by rfl) ?_
  refine zq_pfi hc hH (by rfl) (ci := 6) (f := 0) (by rfl) (by decide +kernel) (by rfl) ?_
  show Z 0 5 [(0, .ref 50), (1, .int 6)] [] (z_ui μ 50 0 0)
  refine z_rcs hc hH 3 (pc' := 114) (lv' := [(0, .ref 50), (1, .int 6)]) (st' := [.ref 50]) (μ' := z_ui μ 50 0 0) (by rfl) ?_
  refine zq_gfi hc hH (by rfl) (ci := 6) (f := 55) (by rfl) (by decide +kernel) (by rfl) ?_
  rw [ui_k (by omega)]
  refine zq_if hc hH (by rfl) (tg := 127) (by rfl) (fun h1 => ?_) (fun h1 => ?_)
  · have h1 : (decide ((μ.1 50 55) = 0)) = true := decide_eq_true (cm_eq9.mp h1)
    refine z_rcs hc hH 1 (pc' := 128) (lv' := [(0, .ref 50), (1, .int 6)]) (st' := [.int 0]) (μ' := z_ui μ 50 0 0) (by rfl) ?_
    exact hr 0 128 _ _ _ (some (.int 0)) (by decide +kernel) (by rfl) (⟨(by first | rfl | simp only [h1, cond_true, cond_false]), (by simp only [h1, cond_true, cond_false])⟩)
  · have h1 : (decide ((μ.1 50 55) = 0)) = false := decide_eq_false (cn_eq.mp h1)
    refine z_rcs hc hH 1 (pc' := 121) (lv' := [(0, .ref 50), (1, .int 6)]) (st' := [.ref 50]) (μ' := z_ui μ 50 0 0) (by rfl) ?_
    refine zq_call hc (by rfl) (fx_left d' (by omega) (z_ui μ 50 0 0) (μ.1 50 47) (μ.1 50 46) (by rw [ui_k (by omega)]) (by rw [ui_k (by omega)])) (by decide +kernel) (fun r9 μ9 hq => ?_)
    obtain ⟨hμ9, rfl⟩ := hq
    rw [hμ9]
    clear hμ9 μ9
    show Z 0 124 [(0, .ref 50), (1, .int 6)] [.int ((122 - (μ.1 50 47)) - (μ.1 50 46))] (z_ui μ 50 0 0)
    refine z_rcs hc hH 1 (pc' := 128) (lv' := [(0, .ref 50), (1, .int 6)]) (st' := [.int ((122 - (μ.1 50 47)) - (μ.1 50 46))]) (μ' := z_ui μ 50 0 0) (by rfl) ?_
    exact hr 0 128 _ _ _ (some (.int ((122 - (μ.1 50 47)) - (μ.1 50 46)))) (by decide +kernel) (by rfl) (⟨(by first | rfl | simp only [h1, cond_true, cond_false]), (by simp only [h1, cond_true, cond_false])⟩)
theorem gm_count7 (d : Nat) (hd : 4 ≤ d) (μ : zM) : z_C d mi_X7_count [.ref 50, .int 7] μ (fun r μ' => r = some (.int (μ.1 50 47)) ∧ μ' = z_ui μ 50 0 0) := by
  refine z_C_in (by decide) (by omega) (fun d' Z ed hc hr => ?_)
  have hH : zH mi_X7_count zc_X7_count 79 7 2 := ⟨by rfl, by rfl, by rfl, by rfl⟩
  refine z_rcs hc hH 2 (pc' := 2) (lv' := [(0, .ref 50), (1, .int 7)]) (st' := [.int 0, .ref 50]) (μ' := μ) (by rfl) ?_
  refine zq_pfi hc hH (by rfl) (ci := 6) (f := 0) (by rfl) (by decide +kernel) (by rfl) ?_
  show Z 0 5 [(0, .ref 50), (1, .int 7)] [] (z_ui μ 50 0 0)
  refine z_rcs hc hH 3 (pc' := 130) (lv' := [(0, .ref 50), (1, .int 7)]) (st' := [.ref 50]) (μ' := z_ui μ 50 0 0) (by rfl) ?_
  refine zq_gfi hc hH (by rfl) (ci := 6) (f := 47) (by rfl) (by decide +kernel) (by rfl) ?_
  rw [ui_k (by omega)]
  exact hr 0 133 _ _ _ (some (.int (μ.1 50 47))) (by decide +kernel) (by rfl) (⟨rfl, rfl⟩)
theorem gm_count8 (d : Nat) (hd : 4 ≤ d) (μ : zM) : z_C d mi_X7_count [.ref 50, .int 8] μ (fun r μ' => r = some ((bif decide ((μ.1 50 55) = 0) then .int 0 else .int (1 + (μ.1 50 47)))) ∧ μ' = z_ui μ 50 0 0) := by
  refine z_C_in (by decide) (by omega) (fun d' Z ed hc hr => ?_)
  have hH : zH mi_X7_count zc_X7_count 79 7 2 := ⟨by rfl, by rfl, by rfl, by rfl⟩
  refine z_rcs hc hH 2 (pc' := 2) (lv' := [(0, .ref 50), (1, .int 8)]) (st' := [.int 0, .ref 50]) (μ' := μ) (by rfl) ?_
  refine zq_pfi hc hH (by rfl) (ci := 6) (f := 0) (by rfl) (by decide +kernel) (by rfl) ?_
  show Z 0 5 [(0, .ref 50), (1, .int 8)] [] (z_ui μ 50 0 0)
  refine z_rcs hc hH 3 (pc' := 135) (lv' := [(0, .ref 50), (1, .int 8)]) (st' := [.ref 50]) (μ' := z_ui μ 50 0 0) (by rfl) ?_
  refine zq_gfi hc hH (by rfl) (ci := 6) (f := 55) (by rfl) (by decide +kernel) (by rfl) ?_
  rw [ui_k (by omega)]
  refine zq_if hc hH (by rfl) (tg := 150) (by rfl) (fun h1 => ?_) (fun h1 => ?_)
  · have h1 : (decide ((μ.1 50 55) = 0)) = true := decide_eq_true (cm_eq9.mp h1)
    refine z_rcs hc hH 1 (pc' := 151) (lv' := [(0, .ref 50), (1, .int 8)]) (st' := [.int 0]) (μ' := z_ui μ 50 0 0) (by rfl) ?_
    exact hr 0 151 _ _ _ (some (.int 0)) (by decide +kernel) (by rfl) (⟨(by first | rfl | simp only [h1, cond_true, cond_false]), (by simp only [h1, cond_true, cond_false])⟩)
  · have h1 : (decide ((μ.1 50 55) = 0)) = false := decide_eq_false (cn_eq.mp h1)
    refine z_rcs hc hH 2 (pc' := 143) (lv' := [(0, .ref 50), (1, .int 8)]) (st' := [.ref 50, .int 1]) (μ' := z_ui μ 50 0 0) (by rfl) ?_
    refine zq_gfi hc hH (by rfl) (ci := 6) (f := 47) (by rfl) (by decide +kernel) (by rfl) ?_
    rw [ui_k (by omega)]
    refine z_rcs hc hH 2 (pc' := 151) (lv' := [(0, .ref 50), (1, .int 8)]) (st' := [.int (1 + (μ.1 50 47))]) (μ' := z_ui μ 50 0 0) (by rfl) ?_
    exact hr 0 151 _ _ _ (some (.int (1 + (μ.1 50 47)))) (by decide +kernel) (by rfl) (⟨(by first | rfl | simp only [h1, cond_true, cond_false]), (by simp only [h1, cond_true, cond_false])⟩)
theorem gm_count9 (d : Nat) (hd : 4 ≤ d) (μ : zM) : z_C d mi_X7_count [.ref 50, .int 9] μ (fun r μ' => r = some ((bif decide ((μ.1 50 54) = 0) then .int 0 else .int 1)) ∧ μ' = z_ui μ 50 0 0) := by
  refine z_C_in (by decide) (by omega) (fun d' Z ed hc hr => ?_)
  have hH : zH mi_X7_count zc_X7_count 79 7 2 := ⟨by rfl, by rfl, by rfl, by rfl⟩
  refine z_rcs hc hH 2 (pc' := 2) (lv' := [(0, .ref 50), (1, .int 9)]) (st' := [.int 0, .ref 50]) (μ' := μ) (by rfl) ?_
  refine zq_pfi hc hH (by rfl) (ci := 6) (f := 0) (by rfl) (by decide +kernel) (by rfl) ?_
  show Z 0 5 [(0, .ref 50), (1, .int 9)] [] (z_ui μ 50 0 0)
  refine z_rcs hc hH 3 (pc' := 153) (lv' := [(0, .ref 50), (1, .int 9)]) (st' := [.ref 50]) (μ' := z_ui μ 50 0 0) (by rfl) ?_
  refine zq_gfi hc hH (by rfl) (ci := 6) (f := 54) (by rfl) (by decide +kernel) (by rfl) ?_
  rw [ui_k (by omega)]
  refine zq_if hc hH (by rfl) (tg := 163) (by rfl) (fun h1 => ?_) (fun h1 => ?_)
  · have h1 : (decide ((μ.1 50 54) = 0)) = true := decide_eq_true (cm_eq9.mp h1)
    refine z_rcs hc hH 1 (pc' := 164) (lv' := [(0, .ref 50), (1, .int 9)]) (st' := [.int 0]) (μ' := z_ui μ 50 0 0) (by rfl) ?_
    exact hr 0 164 _ _ _ (some (.int 0)) (by decide +kernel) (by rfl) (⟨(by first | rfl | simp only [h1, cond_true, cond_false]), (by simp only [h1, cond_true, cond_false])⟩)
  · have h1 : (decide ((μ.1 50 54) = 0)) = false := decide_eq_false (cn_eq.mp h1)
    refine z_rcs hc hH 2 (pc' := 164) (lv' := [(0, .ref 50), (1, .int 9)]) (st' := [.int 1]) (μ' := z_ui μ 50 0 0) (by rfl) ?_
    exact hr 0 164 _ _ _ (some (.int 1)) (by decide +kernel) (by rfl) (⟨(by first | rfl | simp only [h1, cond_true, cond_false]), (by simp only [h1, cond_true, cond_false])⟩)
theorem gm_count10 (d : Nat) (hd : 4 ≤ d) (μ : zM) : z_C d mi_X7_count [.ref 50, .int 10] μ (fun r μ' => r = some (.int (μ.1 50 52)) ∧ μ' = z_ui μ 50 0 0) := by
  refine z_C_in (by decide) (by omega) (fun d' Z ed hc hr => ?_)
  have hH : zH mi_X7_count zc_X7_count 79 7 2 := ⟨by rfl, by rfl, by rfl, by rfl⟩
  refine z_rcs hc hH 2 (pc' := 2) (lv' := [(0, .ref 50), (1, .int 10)]) (st' := [.int 0, .ref 50]) (μ' := μ) (by rfl) ?_
  refine zq_pfi hc hH (by rfl) (ci := 6) (f := 0) (by rfl) (by decide +kernel) (by rfl) ?_
  show Z 0 5 [(0, .ref 50), (1, .int 10)] [] (z_ui μ 50 0 0)
  refine z_rcs hc hH 3 (pc' := 166) (lv' := [(0, .ref 50), (1, .int 10)]) (st' := [.ref 50]) (μ' := z_ui μ 50 0 0) (by rfl) ?_
  refine zq_gfi hc hH (by rfl) (ci := 6) (f := 52) (by rfl) (by decide +kernel) (by rfl) ?_
  rw [ui_k (by omega)]
  exact hr 0 169 _ _ _ (some (.int (μ.1 50 52))) (by decide +kernel) (by rfl) (⟨rfl, rfl⟩)
theorem gm_count11 (d : Nat) (hd : 4 ≤ d) (μ : zM) : z_C d mi_X7_count [.ref 50, .int 11] μ (fun r μ' => r = some (.int (μ.1 50 53)) ∧ μ' = z_ui μ 50 0 0) := by
  refine z_C_in (by decide) (by omega) (fun d' Z ed hc hr => ?_)
  have hH : zH mi_X7_count zc_X7_count 79 7 2 := ⟨by rfl, by rfl, by rfl, by rfl⟩
  refine z_rcs hc hH 2 (pc' := 2) (lv' := [(0, .ref 50), (1, .int 11)]) (st' := [.int 0, .ref 50]) (μ' := μ) (by rfl) ?_
  refine zq_pfi hc hH (by rfl) (ci := 6) (f := 0) (by rfl) (by decide +kernel) (by rfl) ?_
  show Z 0 5 [(0, .ref 50), (1, .int 11)] [] (z_ui μ 50 0 0)
  refine z_rcs hc hH 3 (pc' := 171) (lv' := [(0, .ref 50), (1, .int 11)]) (st' := [.ref 50]) (μ' := z_ui μ 50 0 0) (by rfl) ?_
  refine zq_gfi hc hH (by rfl) (ci := 6) (f := 53) (by rfl) (by decide +kernel) (by rfl) ?_
  rw [ui_k (by omega)]
  exact hr 0 174 _ _ _ (some (.int (μ.1 50 53))) (by decide +kernel) (by rfl) (⟨rfl, rfl⟩)
theorem gm_count12 (d : Nat) (hd : 4 ≤ d) (μ : zM) : z_C d mi_X7_count [.ref 50, .int 12] μ (fun r μ' => r = some (.int (μ.1 50 49)) ∧ μ' = z_ui μ 50 0 0) := by
  refine z_C_in (by decide) (by omega) (fun d' Z ed hc hr => ?_)
  have hH : zH mi_X7_count zc_X7_count 79 7 2 := ⟨by rfl, by rfl, by rfl, by rfl⟩
  refine z_rcs hc hH 2 (pc' := 2) (lv' := [(0, .ref 50), (1, .int 12)]) (st' := [.int 0, .ref 50]) (μ' := μ) (by rfl) ?_
  refine zq_pfi hc hH (by rfl) (ci := 6) (f := 0) (by rfl) (by decide +kernel) (by rfl) ?_
  show Z 0 5 [(0, .ref 50), (1, .int 12)] [] (z_ui μ 50 0 0)
  refine z_rcs hc hH 3 (pc' := 176) (lv' := [(0, .ref 50), (1, .int 12)]) (st' := [.ref 50]) (μ' := z_ui μ 50 0 0) (by rfl) ?_
  refine zq_gfi hc hH (by rfl) (ci := 6) (f := 49) (by rfl) (by decide +kernel) (by rfl) ?_
  rw [ui_k (by omega)]
  exact hr 0 179 _ _ _ (some (.int (μ.1 50 49))) (by decide +kernel) (by rfl) (⟨rfl, rfl⟩)
theorem gm_countd (d : Nat) (hd : 4 ≤ d) (μ : zM) (x : Int32) (hx : (decide (x.toInt < 0) || decide (12 < x.toInt)) = true) : z_C d mi_X7_count [.ref 50, .int x] μ (fun r μ' => r = some (.int (-1)) ∧ μ' = z_ui μ 50 0 0) := by
  refine z_C_in (by decide) (by omega) (fun d' Z ed hc hr => ?_)
  have hH : zH mi_X7_count zc_X7_count 79 7 2 := ⟨by rfl, by rfl, by rfl, by rfl⟩
  refine z_rcs hc hH 2 (pc' := 2) (lv' := [(0, .ref 50), (1, .int x)]) (st' := [.int 0, .ref 50]) (μ' := μ) (by rfl) ?_
  refine zq_pfi hc hH (by rfl) (ci := 6) (f := 0) (by rfl) (by decide +kernel) (by rfl) ?_
  show Z 0 5 [(0, .ref 50), (1, .int x)] [] (z_ui μ 50 0 0)
  refine z_rcs hc hH 1 (pc' := 6) (lv' := [(0, .ref 50), (1, .int x)]) (st' := [.int x]) (μ' := z_ui μ 50 0 0) (by rfl) ?_
  refine zq_tsd hc hH (by rfl) (tg := 180) (by rfl) hx ?_
  refine z_rcs hc hH 1 (pc' := 181) (lv' := [(0, .ref 50), (1, .int x)]) (st' := [.int (-1)]) (μ' := z_ui μ 50 0 0) (by rfl) ?_
  exact hr 0 181 _ _ _ (some (.int (-1))) (by decide +kernel) (by rfl) (⟨rfl, rfl⟩)

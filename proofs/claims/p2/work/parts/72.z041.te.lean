/-! the game: records and payments of the reference -/
set_option maxRecDepth 8000
theorem gm_writes0 (d : Nat) (hd : 1 ≤ d) (μ : zM) (s pa k a1 a2 a3 : Int32) (a4 : Int64) (h1 : μ.1 50 13 = a1) (h2 : μ.1 50 14 = a2) (h3 : μ.1 50 15 = a3) (h4 : μ.2.1 50 17 = a4) : z_C d mi_X7_writes [.ref 50, .int 0, .int s, .int pa, .int k] μ (fun r μ' => r = none ∧ μ' = z_uj (z_ui (z_ui (z_ui (z_ui (z_ui (z_ui (z_ui μ 72 0 s) 72 1 pa) 72 2 a1) 72 3 a2) 72 4 a3) 72 5 0) 72 6 k) 73 0 a4) := by
  refine z_C_in (by decide) (by omega) (fun d' Z ed hc hr => ?_)
  have hH : zH mi_X7_writes zc_X7_writes 79 7 5 := ⟨by rfl, by rfl, by rfl, by rfl⟩
  refine z_rcs hc hH 1 (pc' := 1) (lv' := [(0, .ref 50), (1, .int 0), (2, .int s), (3, .int pa), (4, .int k)]) (st' := [.ref 50]) (μ' := μ) (by rfl) ?_
  refine zq_gfr hc hH (by rfl) (ci := 6) (f := 60) (q := 72) (by rfl) (by decide +kernel) (by rfl) (by decide +kernel) ?_
  refine z_rcs hc hH 4 (pc' := 9) (lv' := [(0, .ref 50), (1, .int 0), (2, .int s), (3, .int pa), (4, .int k)]) (st' := [.int s, .int 0, .ref 72]) (μ' := μ) (by rfl) ?_
  refine zq_iast hc hH (by rfl) 28 (oka_i (by decide +kernel)).2 (show vp_in (nI 0) 28 from vp_in_nI (by decide) (by decide)) ?_
  rw [show (0 : Int32).toNatClampNeg = 0 from rfl]
  show Z 0 10 [(0, .ref 50), (1, .int 0), (2, .int s), (3, .int pa), (4, .int k)] [] (z_ui μ 72 0 s)
  refine z_rcs hc hH 1 (pc' := 11) (lv' := [(0, .ref 50), (1, .int 0), (2, .int s), (3, .int pa), (4, .int k)]) (st' := [.ref 50]) (μ' := z_ui μ 72 0 s) (by rfl) ?_
  refine zq_gfr hc hH (by rfl) (ci := 6) (f := 60) (q := 72) (by rfl) (by decide +kernel) (by rfl) (by decide +kernel) ?_
  refine z_rcs hc hH 6 (pc' := 21) (lv' := [(0, .ref 50), (1, .int 0), (2, .int s), (3, .int pa), (4, .int k)]) (st' := [.int pa, .int 1, .ref 72]) (μ' := z_ui μ 72 0 s) (by rfl) ?_
  refine zq_iast hc hH (by rfl) 28 (oka_i (by decide +kernel)).2 (show vp_in (nI 1) 28 from vp_in_nI (by decide) (by decide)) ?_
  rw [show (1 : Int32).toNatClampNeg = 1 from rfl]
  show Z 0 22 [(0, .ref 50), (1, .int 0), (2, .int s), (3, .int pa), (4, .int k)] [] (z_ui (z_ui μ 72 0 s) 72 1 pa)
  refine z_rcs hc hH 1 (pc' := 23) (lv' := [(0, .ref 50), (1, .int 0), (2, .int s), (3, .int pa), (4, .int k)]) (st' := [.ref 50]) (μ' := z_ui (z_ui μ 72 0 s) 72 1 pa) (by rfl) ?_
  refine zq_gfr hc hH (by rfl) (ci := 6) (f := 60) (q := 72) (by rfl) (by decide +kernel) (by rfl) (by decide +kernel) ?_
  refine z_rcs hc hH 6 (pc' := 33) (lv' := [(0, .ref 50), (1, .int 0), (2, .int s), (3, .int pa), (4, .int k)]) (st' := [.ref 50, .int 2, .ref 72]) (μ' := z_ui (z_ui μ 72 0 s) 72 1 pa) (by rfl) ?_
  refine zq_gfi hc hH (by rfl) (ci := 6) (f := 13) (by rfl) (by decide +kernel) (by rfl) ?_
  rw [ui_o (by omega), ui_o (by omega)]
  rw [h1]
  refine zq_iast hc hH (by rfl) 28 (oka_i (by decide +kernel)).2 (show vp_in (nI 2) 28 from vp_in_nI (by decide) (by decide)) ?_
  rw [show (2 : Int32).toNatClampNeg = 2 from rfl]
  show Z 0 37 [(0, .ref 50), (1, .int 0), (2, .int s), (3, .int pa), (4, .int k)] [] (z_ui (z_ui (z_ui μ 72 0 s) 72 1 pa) 72 2 a1)
  refine z_rcs hc hH 1 (pc' := 38) (lv' := [(0, .ref 50), (1, .int 0), (2, .int s), (3, .int pa), (4, .int k)]) (st' := [.ref 50]) (μ' := z_ui (z_ui (z_ui μ 72 0 s) 72 1 pa) 72 2 a1) (by rfl) ?_
  refine zq_gfr hc hH (by rfl) (ci := 6) (f := 60) (q := 72) (by rfl) (by decide +kernel) (by rfl) (by decide +kernel) ?_
  refine z_rcs hc hH 6 (pc' := 48) (lv' := [(0, .ref 50), (1, .int 0), (2, .int s), (3, .int pa), (4, .int k)]) (st' := [.ref 50, .int 3, .ref 72]) (μ' := z_ui (z_ui (z_ui μ 72 0 s) 72 1 pa) 72 2 a1) (by rfl) ?_
  refine zq_gfi hc hH (by rfl) (ci := 6) (f := 14) (by rfl) (by decide +kernel) (by rfl) ?_
  rw [ui_o (by omega), ui_o (by omega), ui_o (by omega)]
  rw [h2]
  refine zq_iast hc hH (by rfl) 28 (oka_i (by decide +kernel)).2 (show vp_in (nI 3) 28 from vp_in_nI (by decide) (by decide)) ?_
  rw [show (3 : Int32).toNatClampNeg = 3 from rfl]
  show Z 0 52 [(0, .ref 50), (1, .int 0), (2, .int s), (3, .int pa), (4, .int k)] [] (z_ui (z_ui (z_ui (z_ui μ 72 0 s) 72 1 pa) 72 2 a1) 72 3 a2)
  refine z_rcs hc hH 1 (pc' := 53) (lv' := [(0, .ref 50), (1, .int 0), (2, .int s), (3, .int pa), (4, .int k)]) (st' := [.ref 50]) (μ' := z_ui (z_ui (z_ui (z_ui μ 72 0 s) 72 1 pa) 72 2 a1) 72 3 a2) (by rfl) ?_
  refine zq_gfr hc hH (by rfl) (ci := 6) (f := 60) (q := 72) (by rfl) (by decide +kernel) (by rfl) (by decide +kernel) ?_
  refine z_rcs hc hH 6 (pc' := 63) (lv' := [(0, .ref 50), (1, .int 0), (2, .int s), (3, .int pa), (4, .int k)]) (st' := [.ref 50, .int 4, .ref 72]) (μ' := z_ui (z_ui (z_ui (z_ui μ 72 0 s) 72 1 pa) 72 2 a1) 72 3 a2) (by rfl) ?_
  refine zq_gfi hc hH (by rfl) (ci := 6) (f := 15) (by rfl) (by decide +kernel) (by rfl) ?_
  rw [ui_o (by omega), ui_o (by omega), ui_o (by omega), ui_o (by omega)]
  rw [h3]
  refine zq_iast hc hH (by rfl) 28 (oka_i (by decide +kernel)).2 (show vp_in (nI 4) 28 from vp_in_nI (by decide) (by decide)) ?_
  rw [show (4 : Int32).toNatClampNeg = 4 from rfl]
  show Z 0 67 [(0, .ref 50), (1, .int 0), (2, .int s), (3, .int pa), (4, .int k)] [] (z_ui (z_ui (z_ui (z_ui (z_ui μ 72 0 s) 72 1 pa) 72 2 a1) 72 3 a2) 72 4 a3)
  refine z_rcs hc hH 1 (pc' := 68) (lv' := [(0, .ref 50), (1, .int 0), (2, .int s), (3, .int pa), (4, .int k)]) (st' := [.ref 50]) (μ' := z_ui (z_ui (z_ui (z_ui (z_ui μ 72 0 s) 72 1 pa) 72 2 a1) 72 3 a2) 72 4 a3) (by rfl) ?_
  refine zq_gfr hc hH (by rfl) (ci := 6) (f := 60) (q := 72) (by rfl) (by decide +kernel) (by rfl) (by decide +kernel) ?_
  refine z_rcs hc hH 6 (pc' := 78) (lv' := [(0, .ref 50), (1, .int 0), (2, .int s), (3, .int pa), (4, .int k)]) (st' := [.int 0, .int 5, .ref 72]) (μ' := z_ui (z_ui (z_ui (z_ui (z_ui μ 72 0 s) 72 1 pa) 72 2 a1) 72 3 a2) 72 4 a3) (by rfl) ?_
  refine zq_iast hc hH (by rfl) 28 (oka_i (by decide +kernel)).2 (show vp_in (nI 5) 28 from vp_in_nI (by decide) (by decide)) ?_
  rw [show (5 : Int32).toNatClampNeg = 5 from rfl]
  show Z 0 79 [(0, .ref 50), (1, .int 0), (2, .int s), (3, .int pa), (4, .int k)] [] (z_ui (z_ui (z_ui (z_ui (z_ui (z_ui μ 72 0 s) 72 1 pa) 72 2 a1) 72 3 a2) 72 4 a3) 72 5 0)
  refine z_rcs hc hH 1 (pc' := 80) (lv' := [(0, .ref 50), (1, .int 0), (2, .int s), (3, .int pa), (4, .int k)]) (st' := [.ref 50]) (μ' := z_ui (z_ui (z_ui (z_ui (z_ui (z_ui μ 72 0 s) 72 1 pa) 72 2 a1) 72 3 a2) 72 4 a3) 72 5 0) (by rfl) ?_
  refine zq_gfr hc hH (by rfl) (ci := 6) (f := 60) (q := 72) (by rfl) (by decide +kernel) (by rfl) (by decide +kernel) ?_
  refine z_rcs hc hH 6 (pc' := 92) (lv' := [(0, .ref 50), (1, .int 0), (2, .int s), (3, .int pa), (4, .int k)]) (st' := [.int k, .int 6, .ref 72]) (μ' := z_ui (z_ui (z_ui (z_ui (z_ui (z_ui μ 72 0 s) 72 1 pa) 72 2 a1) 72 3 a2) 72 4 a3) 72 5 0) (by rfl) ?_
  refine zq_iast hc hH (by rfl) 28 (oka_i (by decide +kernel)).2 (show vp_in (nI 6) 28 from vp_in_nI (by decide) (by decide)) ?_
  rw [show (6 : Int32).toNatClampNeg = 6 from rfl]
  show Z 0 93 [(0, .ref 50), (1, .int 0), (2, .int s), (3, .int pa), (4, .int k)] [] (z_ui (z_ui (z_ui (z_ui (z_ui (z_ui (z_ui μ 72 0 s) 72 1 pa) 72 2 a1) 72 3 a2) 72 4 a3) 72 5 0) 72 6 k)
  refine z_rcs hc hH 1 (pc' := 94) (lv' := [(0, .ref 50), (1, .int 0), (2, .int s), (3, .int pa), (4, .int k)]) (st' := [.ref 50]) (μ' := z_ui (z_ui (z_ui (z_ui (z_ui (z_ui (z_ui μ 72 0 s) 72 1 pa) 72 2 a1) 72 3 a2) 72 4 a3) 72 5 0) 72 6 k) (by rfl) ?_
  refine zq_gfr hc hH (by rfl) (ci := 6) (f := 61) (q := 73) (by rfl) (by decide +kernel) (by rfl) (by decide +kernel) ?_
  refine z_rcs hc hH 2 (pc' := 99) (lv' := [(0, .ref 50), (1, .int 0), (2, .int s), (3, .int pa), (4, .int k)]) (st' := [.ref 50, .int 0, .ref 73]) (μ' := z_ui (z_ui (z_ui (z_ui (z_ui (z_ui (z_ui μ 72 0 s) 72 1 pa) 72 2 a1) 72 3 a2) 72 4 a3) 72 5 0) 72 6 k) (by rfl) ?_
  refine zq_gfl hc hH (by rfl) (ci := 6) (f := 17) (by rfl) (by decide +kernel) (by rfl) ?_
  rw [ui_j, ui_j, ui_j, ui_j, ui_j, ui_j, ui_j]
  refine zq_last hc hH (by rfl) 4 (by decide +kernel) (show vp_in (nI 0) 4 from vp_in_nI (by decide) (by decide)) ?_
  rw [show (0 : Int32).toNatClampNeg = 0 from rfl]
  show Z 0 103 [(0, .ref 50), (1, .int 0), (2, .int s), (3, .int pa), (4, .int k)] [] (z_uj (z_ui (z_ui (z_ui (z_ui (z_ui (z_ui (z_ui μ 72 0 s) 72 1 pa) 72 2 a1) 72 3 a2) 72 4 a3) 72 5 0) 72 6 k) 73 0 (μ.2.1 50 17))
  exact hr 0 103 _ _ _ none (by decide +kernel) (by rfl) (⟨rfl, by rw [h4]⟩)
theorem gm_writes1 (d : Nat) (hd : 1 ≤ d) (μ : zM) (s pa k a1 a2 a3 : Int32) (a4 : Int64) (h1 : μ.1 50 13 = a1) (h2 : μ.1 50 14 = a2) (h3 : μ.1 50 15 = a3) (h4 : μ.2.1 50 17 = a4) : z_C d mi_X7_writes [.ref 50, .int 1, .int s, .int pa, .int k] μ (fun r μ' => r = none ∧ μ' = z_uj (z_ui (z_ui (z_ui (z_ui (z_ui (z_ui (z_ui μ 72 7 s) 72 8 pa) 72 9 a1) 72 10 a2) 72 11 a3) 72 12 0) 72 13 k) 73 1 a4) := by
  refine z_C_in (by decide) (by omega) (fun d' Z ed hc hr => ?_)
  have hH : zH mi_X7_writes zc_X7_writes 79 7 5 := ⟨by rfl, by rfl, by rfl, by rfl⟩
  refine z_rcs hc hH 1 (pc' := 1) (lv' := [(0, .ref 50), (1, .int 1), (2, .int s), (3, .int pa), (4, .int k)]) (st' := [.ref 50]) (μ' := μ) (by rfl) ?_
  refine zq_gfr hc hH (by rfl) (ci := 6) (f := 60) (q := 72) (by rfl) (by decide +kernel) (by rfl) (by decide +kernel) ?_
  refine z_rcs hc hH 4 (pc' := 9) (lv' := [(0, .ref 50), (1, .int 1), (2, .int s), (3, .int pa), (4, .int k)]) (st' := [.int s, .int 7, .ref 72]) (μ' := μ) (by rfl) ?_
  refine zq_iast hc hH (by rfl) 28 (oka_i (by decide +kernel)).2 (show vp_in (nI 7) 28 from vp_in_nI (by decide) (by decide)) ?_
  rw [show (7 : Int32).toNatClampNeg = 7 from rfl]
  show Z 0 10 [(0, .ref 50), (1, .int 1), (2, .int s), (3, .int pa), (4, .int k)] [] (z_ui μ 72 7 s)
  refine z_rcs hc hH 1 (pc' := 11) (lv' := [(0, .ref 50), (1, .int 1), (2, .int s), (3, .int pa), (4, .int k)]) (st' := [.ref 50]) (μ' := z_ui μ 72 7 s) (by rfl) ?_
  refine zq_gfr hc hH (by rfl) (ci := 6) (f := 60) (q := 72) (by rfl) (by decide +kernel) (by rfl) (by decide +kernel) ?_
  refine z_rcs hc hH 6 (pc' := 21) (lv' := [(0, .ref 50), (1, .int 1), (2, .int s), (3, .int pa), (4, .int k)]) (st' := [.int pa, .int 8, .ref 72]) (μ' := z_ui μ 72 7 s) (by rfl) ?_
  refine zq_iast hc hH (by rfl) 28 (oka_i (by decide +kernel)).2 (show vp_in (nI 8) 28 from vp_in_nI (by decide) (by decide)) ?_
  rw [show (8 : Int32).toNatClampNeg = 8 from rfl]
  show Z 0 22 [(0, .ref 50), (1, .int 1), (2, .int s), (3, .int pa), (4, .int k)] [] (z_ui (z_ui μ 72 7 s) 72 8 pa)
  refine z_rcs hc hH 1 (pc' := 23) (lv' := [(0, .ref 50), (1, .int 1), (2, .int s), (3, .int pa), (4, .int k)]) (st' := [.ref 50]) (μ' := z_ui (z_ui μ 72 7 s) 72 8 pa) (by rfl) ?_
  refine zq_gfr hc hH (by rfl) (ci := 6) (f := 60) (q := 72) (by rfl) (by decide +kernel) (by rfl) (by decide +kernel) ?_
  refine z_rcs hc hH 6 (pc' := 33) (lv' := [(0, .ref 50), (1, .int 1), (2, .int s), (3, .int pa), (4, .int k)]) (st' := [.ref 50, .int 9, .ref 72]) (μ' := z_ui (z_ui μ 72 7 s) 72 8 pa) (by rfl) ?_
  refine zq_gfi hc hH (by rfl) (ci := 6) (f := 13) (by rfl) (by decide +kernel) (by rfl) ?_
  rw [ui_o (by omega), ui_o (by omega)]
  rw [h1]
  refine zq_iast hc hH (by rfl) 28 (oka_i (by decide +kernel)).2 (show vp_in (nI 9) 28 from vp_in_nI (by decide) (by decide)) ?_
  rw [show (9 : Int32).toNatClampNeg = 9 from rfl]
  show Z 0 37 [(0, .ref 50), (1, .int 1), (2, .int s), (3, .int pa), (4, .int k)] [] (z_ui (z_ui (z_ui μ 72 7 s) 72 8 pa) 72 9 a1)
  refine z_rcs hc hH 1 (pc' := 38) (lv' := [(0, .ref 50), (1, .int 1), (2, .int s), (3, .int pa), (4, .int k)]) (st' := [.ref 50]) (μ' := z_ui (z_ui (z_ui μ 72 7 s) 72 8 pa) 72 9 a1) (by rfl) ?_
  refine zq_gfr hc hH (by rfl) (ci := 6) (f := 60) (q := 72) (by rfl) (by decide +kernel) (by rfl) (by decide +kernel) ?_
  refine z_rcs hc hH 6 (pc' := 48) (lv' := [(0, .ref 50), (1, .int 1), (2, .int s), (3, .int pa), (4, .int k)]) (st' := [.ref 50, .int 10, .ref 72]) (μ' := z_ui (z_ui (z_ui μ 72 7 s) 72 8 pa) 72 9 a1) (by rfl) ?_
  refine zq_gfi hc hH (by rfl) (ci := 6) (f := 14) (by rfl) (by decide +kernel) (by rfl) ?_
  rw [ui_o (by omega), ui_o (by omega), ui_o (by omega)]
  rw [h2]
  refine zq_iast hc hH (by rfl) 28 (oka_i (by decide +kernel)).2 (show vp_in (nI 10) 28 from vp_in_nI (by decide) (by decide)) ?_
  rw [show (10 : Int32).toNatClampNeg = 10 from rfl]
  show Z 0 52 [(0, .ref 50), (1, .int 1), (2, .int s), (3, .int pa), (4, .int k)] [] (z_ui (z_ui (z_ui (z_ui μ 72 7 s) 72 8 pa) 72 9 a1) 72 10 a2)
  refine z_rcs hc hH 1 (pc' := 53) (lv' := [(0, .ref 50), (1, .int 1), (2, .int s), (3, .int pa), (4, .int k)]) (st' := [.ref 50]) (μ' := z_ui (z_ui (z_ui (z_ui μ 72 7 s) 72 8 pa) 72 9 a1) 72 10 a2) (by rfl) ?_
  refine zq_gfr hc hH (by rfl) (ci := 6) (f := 60) (q := 72) (by rfl) (by decide +kernel) (by rfl) (by decide +kernel) ?_
  refine z_rcs hc hH 6 (pc' := 63) (lv' := [(0, .ref 50), (1, .int 1), (2, .int s), (3, .int pa), (4, .int k)]) (st' := [.ref 50, .int 11, .ref 72]) (μ' := z_ui (z_ui (z_ui (z_ui μ 72 7 s) 72 8 pa) 72 9 a1) 72 10 a2) (by rfl) ?_
  refine zq_gfi hc hH (by rfl) (ci := 6) (f := 15) (by rfl) (by decide +kernel) (by rfl) ?_
  rw [ui_o (by omega), ui_o (by omega), ui_o (by omega), ui_o (by omega)]
  rw [h3]
  refine zq_iast hc hH (by rfl) 28 (oka_i (by decide +kernel)).2 (show vp_in (nI 11) 28 from vp_in_nI (by decide) (by decide)) ?_
  rw [show (11 : Int32).toNatClampNeg = 11 from rfl]
  show Z 0 67 [(0, .ref 50), (1, .int 1), (2, .int s), (3, .int pa), (4, .int k)] [] (z_ui (z_ui (z_ui (z_ui (z_ui μ 72 7 s) 72 8 pa) 72 9 a1) 72 10 a2) 72 11 a3)
  refine z_rcs hc hH 1 (pc' := 68) (lv' := [(0, .ref 50), (1, .int 1), (2, .int s), (3, .int pa), (4, .int k)]) (st' := [.ref 50]) (μ' := z_ui (z_ui (z_ui (z_ui (z_ui μ 72 7 s) 72 8 pa) 72 9 a1) 72 10 a2) 72 11 a3) (by rfl) ?_
  refine zq_gfr hc hH (by rfl) (ci := 6) (f := 60) (q := 72) (by rfl) (by decide +kernel) (by rfl) (by decide +kernel) ?_
  refine z_rcs hc hH 6 (pc' := 78) (lv' := [(0, .ref 50), (1, .int 1), (2, .int s), (3, .int pa), (4, .int k)]) (st' := [.int 0, .int 12, .ref 72]) (μ' := z_ui (z_ui (z_ui (z_ui (z_ui μ 72 7 s) 72 8 pa) 72 9 a1) 72 10 a2) 72 11 a3) (by rfl) ?_
  refine zq_iast hc hH (by rfl) 28 (oka_i (by decide +kernel)).2 (show vp_in (nI 12) 28 from vp_in_nI (by decide) (by decide)) ?_
  rw [show (12 : Int32).toNatClampNeg = 12 from rfl]
  show Z 0 79 [(0, .ref 50), (1, .int 1), (2, .int s), (3, .int pa), (4, .int k)] [] (z_ui (z_ui (z_ui (z_ui (z_ui (z_ui μ 72 7 s) 72 8 pa) 72 9 a1) 72 10 a2) 72 11 a3) 72 12 0)
  refine z_rcs hc hH 1 (pc' := 80) (lv' := [(0, .ref 50), (1, .int 1), (2, .int s), (3, .int pa), (4, .int k)]) (st' := [.ref 50]) (μ' := z_ui (z_ui (z_ui (z_ui (z_ui (z_ui μ 72 7 s) 72 8 pa) 72 9 a1) 72 10 a2) 72 11 a3) 72 12 0) (by rfl) ?_
  refine zq_gfr hc hH (by rfl) (ci := 6) (f := 60) (q := 72) (by rfl) (by decide +kernel) (by rfl) (by decide +kernel) ?_
  refine z_rcs hc hH 6 (pc' := 92) (lv' := [(0, .ref 50), (1, .int 1), (2, .int s), (3, .int pa), (4, .int k)]) (st' := [.int k, .int 13, .ref 72]) (μ' := z_ui (z_ui (z_ui (z_ui (z_ui (z_ui μ 72 7 s) 72 8 pa) 72 9 a1) 72 10 a2) 72 11 a3) 72 12 0) (by rfl) ?_
  refine zq_iast hc hH (by rfl) 28 (oka_i (by decide +kernel)).2 (show vp_in (nI 13) 28 from vp_in_nI (by decide) (by decide)) ?_
  rw [show (13 : Int32).toNatClampNeg = 13 from rfl]
  show Z 0 93 [(0, .ref 50), (1, .int 1), (2, .int s), (3, .int pa), (4, .int k)] [] (z_ui (z_ui (z_ui (z_ui (z_ui (z_ui (z_ui μ 72 7 s) 72 8 pa) 72 9 a1) 72 10 a2) 72 11 a3) 72 12 0) 72 13 k)
  refine z_rcs hc hH 1 (pc' := 94) (lv' := [(0, .ref 50), (1, .int 1), (2, .int s), (3, .int pa), (4, .int k)]) (st' := [.ref 50]) (μ' := z_ui (z_ui (z_ui (z_ui (z_ui (z_ui (z_ui μ 72 7 s) 72 8 pa) 72 9 a1) 72 10 a2) 72 11 a3) 72 12 0) 72 13 k) (by rfl) ?_
  refine zq_gfr hc hH (by rfl) (ci := 6) (f := 61) (q := 73) (by rfl) (by decide +kernel) (by rfl) (by decide +kernel) ?_
  refine z_rcs hc hH 2 (pc' := 99) (lv' := [(0, .ref 50), (1, .int 1), (2, .int s), (3, .int pa), (4, .int k)]) (st' := [.ref 50, .int 1, .ref 73]) (μ' := z_ui (z_ui (z_ui (z_ui (z_ui (z_ui (z_ui μ 72 7 s) 72 8 pa) 72 9 a1) 72 10 a2) 72 11 a3) 72 12 0) 72 13 k) (by rfl) ?_
  refine zq_gfl hc hH (by rfl) (ci := 6) (f := 17) (by rfl) (by decide +kernel) (by rfl) ?_
  rw [ui_j, ui_j, ui_j, ui_j, ui_j, ui_j, ui_j]
  refine zq_last hc hH (by rfl) 4 (by decide +kernel) (show vp_in (nI 1) 4 from vp_in_nI (by decide) (by decide)) ?_
  rw [show (1 : Int32).toNatClampNeg = 1 from rfl]
  show Z 0 103 [(0, .ref 50), (1, .int 1), (2, .int s), (3, .int pa), (4, .int k)] [] (z_uj (z_ui (z_ui (z_ui (z_ui (z_ui (z_ui (z_ui μ 72 7 s) 72 8 pa) 72 9 a1) 72 10 a2) 72 11 a3) 72 12 0) 72 13 k) 73 1 (μ.2.1 50 17))
  exact hr 0 103 _ _ _ none (by decide +kernel) (by rfl) (⟨rfl, by rw [h4]⟩)
theorem gm_writes2 (d : Nat) (hd : 1 ≤ d) (μ : zM) (s pa k a1 a2 a3 : Int32) (a4 : Int64) (h1 : μ.1 50 13 = a1) (h2 : μ.1 50 14 = a2) (h3 : μ.1 50 15 = a3) (h4 : μ.2.1 50 17 = a4) : z_C d mi_X7_writes [.ref 50, .int 2, .int s, .int pa, .int k] μ (fun r μ' => r = none ∧ μ' = z_uj (z_ui (z_ui (z_ui (z_ui (z_ui (z_ui (z_ui μ 72 14 s) 72 15 pa) 72 16 a1) 72 17 a2) 72 18 a3) 72 19 0) 72 20 k) 73 2 a4) := by
  refine z_C_in (by decide) (by omega) (fun d' Z ed hc hr => ?_)
  have hH : zH mi_X7_writes zc_X7_writes 79 7 5 := ⟨by rfl, by rfl, by rfl, by rfl⟩
  refine z_rcs hc hH 1 (pc' := 1) (lv' := [(0, .ref 50), (1, .int 2), (2, .int s), (3, .int pa), (4, .int k)]) (st' := [.ref 50]) (μ' := μ) (by rfl) ?_
  refine zq_gfr hc hH (by rfl) (ci := 6) (f := 60) (q := 72) (by rfl) (by decide +kernel) (by rfl) (by decide +kernel) ?_
  refine z_rcs hc hH 4 (pc' := 9) (lv' := [(0, .ref 50), (1, .int 2), (2, .int s), (3, .int pa), (4, .int k)]) (st' := [.int s, .int 14, .ref 72]) (μ' := μ) (by rfl) ?_
  refine zq_iast hc hH (by rfl) 28 (oka_i (by decide +kernel)).2 (show vp_in (nI 14) 28 from vp_in_nI (by decide) (by decide)) ?_
  rw [show (14 : Int32).toNatClampNeg = 14 from rfl]
  show Z 0 10 [(0, .ref 50), (1, .int 2), (2, .int s), (3, .int pa), (4, .int k)] [] (z_ui μ 72 14 s)
  refine z_rcs hc hH 1 (pc' := 11) (lv' := [(0, .ref 50), (1, .int 2), (2, .int s), (3, .int pa), (4, .int k)]) (st' := [.ref 50]) (μ' := z_ui μ 72 14 s) (by rfl) ?_
  refine zq_gfr hc hH (by rfl) (ci := 6) (f := 60) (q := 72) (by rfl) (by decide +kernel) (by rfl) (by decide +kernel) ?_
  refine z_rcs hc hH 6 (pc' := 21) (lv' := [(0, .ref 50), (1, .int 2), (2, .int s), (3, .int pa), (4, .int k)]) (st' := [.int pa, .int 15, .ref 72]) (μ' := z_ui μ 72 14 s) (by rfl) ?_
  refine zq_iast hc hH (by rfl) 28 (oka_i (by decide +kernel)).2 (show vp_in (nI 15) 28 from vp_in_nI (by decide) (by decide)) ?_
  rw [show (15 : Int32).toNatClampNeg = 15 from rfl]
  show Z 0 22 [(0, .ref 50), (1, .int 2), (2, .int s), (3, .int pa), (4, .int k)] [] (z_ui (z_ui μ 72 14 s) 72 15 pa)
  refine z_rcs hc hH 1 (pc' := 23) (lv' := [(0, .ref 50), (1, .int 2), (2, .int s), (3, .int pa), (4, .int k)]) (st' := [.ref 50]) (μ' := z_ui (z_ui μ 72 14 s) 72 15 pa) (by rfl) ?_
  refine zq_gfr hc hH (by rfl) (ci := 6) (f := 60) (q := 72) (by rfl) (by decide +kernel) (by rfl) (by decide +kernel) ?_
  refine z_rcs hc hH 6 (pc' := 33) (lv' := [(0, .ref 50), (1, .int 2), (2, .int s), (3, .int pa), (4, .int k)]) (st' := [.ref 50, .int 16, .ref 72]) (μ' := z_ui (z_ui μ 72 14 s) 72 15 pa) (by rfl) ?_
  refine zq_gfi hc hH (by rfl) (ci := 6) (f := 13) (by rfl) (by decide +kernel) (by rfl) ?_
  rw [ui_o (by omega), ui_o (by omega)]
  rw [h1]
  refine zq_iast hc hH (by rfl) 28 (oka_i (by decide +kernel)).2 (show vp_in (nI 16) 28 from vp_in_nI (by decide) (by decide)) ?_
  rw [show (16 : Int32).toNatClampNeg = 16 from rfl]
  show Z 0 37 [(0, .ref 50), (1, .int 2), (2, .int s), (3, .int pa), (4, .int k)] [] (z_ui (z_ui (z_ui μ 72 14 s) 72 15 pa) 72 16 a1)
  refine z_rcs hc hH 1 (pc' := 38) (lv' := [(0, .ref 50), (1, .int 2), (2, .int s), (3, .int pa), (4, .int k)]) (st' := [.ref 50]) (μ' := z_ui (z_ui (z_ui μ 72 14 s) 72 15 pa) 72 16 a1) (by rfl) ?_
  refine zq_gfr hc hH (by rfl) (ci := 6) (f := 60) (q := 72) (by rfl) (by decide +kernel) (by rfl) (by decide +kernel) ?_
  refine z_rcs hc hH 6 (pc' := 48) (lv' := [(0, .ref 50), (1, .int 2), (2, .int s), (3, .int pa), (4, .int k)]) (st' := [.ref 50, .int 17, .ref 72]) (μ' := z_ui (z_ui (z_ui μ 72 14 s) 72 15 pa) 72 16 a1) (by rfl) ?_
  refine zq_gfi hc hH (by rfl) (ci := 6) (f := 14) (by rfl) (by decide +kernel) (by rfl) ?_
  rw [ui_o (by omega), ui_o (by omega), ui_o (by omega)]
  rw [h2]
  refine zq_iast hc hH (by rfl) 28 (oka_i (by decide +kernel)).2 (show vp_in (nI 17) 28 from vp_in_nI (by decide) (by decide)) ?_
  rw [show (17 : Int32).toNatClampNeg = 17 from rfl]
  show Z 0 52 [(0, .ref 50), (1, .int 2), (2, .int s), (3, .int pa), (4, .int k)] [] (z_ui (z_ui (z_ui (z_ui μ 72 14 s) 72 15 pa) 72 16 a1) 72 17 a2)
  refine z_rcs hc hH 1 (pc' := 53) (lv' := [(0, .ref 50), (1, .int 2), (2, .int s), (3, .int pa), (4, .int k)]) (st' := [.ref 50]) (μ' := z_ui (z_ui (z_ui (z_ui μ 72 14 s) 72 15 pa) 72 16 a1) 72 17 a2) (by rfl) ?_
  refine zq_gfr hc hH (by rfl) (ci := 6) (f := 60) (q := 72) (by rfl) (by decide +kernel) (by rfl) (by decide +kernel) ?_
  refine z_rcs hc hH 6 (pc' := 63) (lv' := [(0, .ref 50), (1, .int 2), (2, .int s), (3, .int pa), (4, .int k)]) (st' := [.ref 50, .int 18, .ref 72]) (μ' := z_ui (z_ui (z_ui (z_ui μ 72 14 s) 72 15 pa) 72 16 a1) 72 17 a2) (by rfl) ?_
  refine zq_gfi hc hH (by rfl) (ci := 6) (f := 15) (by rfl) (by decide +kernel) (by rfl) ?_
  rw [ui_o (by omega), ui_o (by omega), ui_o (by omega), ui_o (by omega)]
  rw [h3]
  refine zq_iast hc hH (by rfl) 28 (oka_i (by decide +kernel)).2 (show vp_in (nI 18) 28 from vp_in_nI (by decide) (by decide)) ?_
  rw [show (18 : Int32).toNatClampNeg = 18 from rfl]
  show Z 0 67 [(0, .ref 50), (1, .int 2), (2, .int s), (3, .int pa), (4, .int k)] [] (z_ui (z_ui (z_ui (z_ui (z_ui μ 72 14 s) 72 15 pa) 72 16 a1) 72 17 a2) 72 18 a3)
  refine z_rcs hc hH 1 (pc' := 68) (lv' := [(0, .ref 50), (1, .int 2), (2, .int s), (3, .int pa), (4, .int k)]) (st' := [.ref 50]) (μ' := z_ui (z_ui (z_ui (z_ui (z_ui μ 72 14 s) 72 15 pa) 72 16 a1) 72 17 a2) 72 18 a3) (by rfl) ?_
  refine zq_gfr hc hH (by rfl) (ci := 6) (f := 60) (q := 72) (by rfl) (by decide +kernel) (by rfl) (by decide +kernel) ?_
  refine z_rcs hc hH 6 (pc' := 78) (lv' := [(0, .ref 50), (1, .int 2), (2, .int s), (3, .int pa), (4, .int k)]) (st' := [.int 0, .int 19, .ref 72]) (μ' := z_ui (z_ui (z_ui (z_ui (z_ui μ 72 14 s) 72 15 pa) 72 16 a1) 72 17 a2) 72 18 a3) (by rfl) ?_
  refine zq_iast hc hH (by rfl) 28 (oka_i (by decide +kernel)).2 (show vp_in (nI 19) 28 from vp_in_nI (by decide) (by decide)) ?_
  rw [show (19 : Int32).toNatClampNeg = 19 from rfl]
  show Z 0 79 [(0, .ref 50), (1, .int 2), (2, .int s), (3, .int pa), (4, .int k)] [] (z_ui (z_ui (z_ui (z_ui (z_ui (z_ui μ 72 14 s) 72 15 pa) 72 16 a1) 72 17 a2) 72 18 a3) 72 19 0)
  refine z_rcs hc hH 1 (pc' := 80) (lv' := [(0, .ref 50), (1, .int 2), (2, .int s), (3, .int pa), (4, .int k)]) (st' := [.ref 50]) (μ' := z_ui (z_ui (z_ui (z_ui (z_ui (z_ui μ 72 14 s) 72 15 pa) 72 16 a1) 72 17 a2) 72 18 a3) 72 19 0) (by rfl) ?_
  refine zq_gfr hc hH (by rfl) (ci := 6) (f := 60) (q := 72) (by rfl) (by decide +kernel) (by rfl) (by decide +kernel) ?_
  refine z_rcs hc hH 6 (pc' := 92) (lv' := [(0, .ref 50), (1, .int 2), (2, .int s), (3, .int pa), (4, .int k)]) (st' := [.int k, .int 20, .ref 72]) (μ' := z_ui (z_ui (z_ui (z_ui (z_ui (z_ui μ 72 14 s) 72 15 pa) 72 16 a1) 72 17 a2) 72 18 a3) 72 19 0) (by rfl) ?_
  refine zq_iast hc hH (by rfl) 28 (oka_i (by decide +kernel)).2 (show vp_in (nI 20) 28 from vp_in_nI (by decide) (by decide)) ?_
  rw [show (20 : Int32).toNatClampNeg = 20 from rfl]
  show Z 0 93 [(0, .ref 50), (1, .int 2), (2, .int s), (3, .int pa), (4, .int k)] [] (z_ui (z_ui (z_ui (z_ui (z_ui (z_ui (z_ui μ 72 14 s) 72 15 pa) 72 16 a1) 72 17 a2) 72 18 a3) 72 19 0) 72 20 k)
  refine z_rcs hc hH 1 (pc' := 94) (lv' := [(0, .ref 50), (1, .int 2), (2, .int s), (3, .int pa), (4, .int k)]) (st' := [.ref 50]) (μ' := z_ui (z_ui (z_ui (z_ui (z_ui (z_ui (z_ui μ 72 14 s) 72 15 pa) 72 16 a1) 72 17 a2) 72 18 a3) 72 19 0) 72 20 k) (by rfl) ?_
  refine zq_gfr hc hH (by rfl) (ci := 6) (f := 61) (q := 73) (by rfl) (by decide +kernel) (by rfl) (by decide +kernel) ?_
  refine z_rcs hc hH 2 (pc' := 99) (lv' := [(0, .ref 50), (1, .int 2), (2, .int s), (3, .int pa), (4, .int k)]) (st' := [.ref 50, .int 2, .ref 73]) (μ' := z_ui (z_ui (z_ui (z_ui (z_ui (z_ui (z_ui μ 72 14 s) 72 15 pa) 72 16 a1) 72 17 a2) 72 18 a3) 72 19 0) 72 20 k) (by rfl) ?_
  refine zq_gfl hc hH (by rfl) (ci := 6) (f := 17) (by rfl) (by decide +kernel) (by rfl) ?_
  rw [ui_j, ui_j, ui_j, ui_j, ui_j, ui_j, ui_j]
  refine zq_last hc hH (by rfl) 4 (by decide +kernel) (show vp_in (nI 2) 4 from vp_in_nI (by decide) (by decide)) ?_
  rw [show (2 : Int32).toNatClampNeg = 2 from rfl]
  show Z 0 103 [(0, .ref 50), (1, .int 2), (2, .int s), (3, .int pa), (4, .int k)] [] (z_uj (z_ui (z_ui (z_ui (z_ui (z_ui (z_ui (z_ui μ 72 14 s) 72 15 pa) 72 16 a1) 72 17 a2) 72 18 a3) 72 19 0) 72 20 k) 73 2 (μ.2.1 50 17))
  exact hr 0 103 _ _ _ none (by decide +kernel) (by rfl) (⟨rfl, by rw [h4]⟩)
theorem gm_pays0 (d : Nat) (hd : 1 ≤ d) (μ : zM) (b s : Nat) (n x y z : Int32) (hb : b < 4) (hs : s < 4) (hbs : b ≠ s) (e0 : μ.1 72 0 = nI s) (hx : μ.1 61 b = x) (hy : μ.1 61 s = y) (hz : μ.1 72 5 = z) : z_C d mi_X7_pays [.ref 50, .int (nI b), .int 0, .int n] μ (fun r μ' => r = none ∧ μ' = z_ui (z_ui (z_ui μ 61 b (x - n)) 61 s (y + n)) 72 5 (z + n)) := by
  refine z_C_in (by decide) (by omega) (fun d' Z ed hc hr => ?_)
  have hH : zH mi_X7_pays zc_X7_pays 79 7 4 := ⟨by rfl, by rfl, by rfl, by rfl⟩
  refine z_rcs hc hH 1 (pc' := 1) (lv' := [(0, .ref 50), (1, .int (nI b)), (2, .int 0), (3, .int n)]) (st' := [.ref 50]) (μ' := μ) (by rfl) ?_
  refine zq_gfr hc hH (by rfl) (ci := 6) (f := 29) (q := 61) (by rfl) (by decide +kernel) (by rfl) (by decide +kernel) ?_
  refine z_rcs hc hH 2 (pc' := 6) (lv' := [(0, .ref 50), (1, .int (nI b)), (2, .int 0), (3, .int n)]) (st' := [.int (nI b), .ref 61, .int (nI b), .ref 61]) (μ' := μ) (by rfl) ?_
  refine zq_iald hc hH (by rfl) 4 (oka_i (by decide +kernel)) (vp_in_nI (by omega) (by decide)) ?_
  rw [nI_clamp (by omega)]
  rw [hx]
  refine z_rcs hc hH 2 (pc' := 9) (lv' := [(0, .ref 50), (1, .int (nI b)), (2, .int 0), (3, .int n)]) (st' := [.int (x - n), .int (nI b), .ref 61]) (μ' := μ) (by rfl) ?_
  refine zq_iast hc hH (by rfl) 4 (oka_i (by decide +kernel)).2 (vp_in_nI (by omega) (by decide)) ?_
  rw [nI_clamp (by omega)]
  show Z 0 10 [(0, .ref 50), (1, .int (nI b)), (2, .int 0), (3, .int n)] [] (z_ui μ 61 b (x - n))
  refine z_rcs hc hH 1 (pc' := 11) (lv' := [(0, .ref 50), (1, .int (nI b)), (2, .int 0), (3, .int n)]) (st' := [.ref 50]) (μ' := z_ui μ 61 b (x - n)) (by rfl) ?_
  refine zq_gfr hc hH (by rfl) (ci := 6) (f := 29) (q := 61) (by rfl) (by decide +kernel) (by rfl) (by decide +kernel) ?_
  refine z_rcs hc hH 1 (pc' := 15) (lv' := [(0, .ref 50), (1, .int (nI b)), (2, .int 0), (3, .int n)]) (st' := [.ref 50, .ref 61]) (μ' := z_ui μ 61 b (x - n)) (by rfl) ?_
  refine zq_gfr hc hH (by rfl) (ci := 6) (f := 60) (q := 72) (by rfl) (by decide +kernel) (by rfl) (by decide +kernel) ?_
  refine z_rcs hc hH 3 (pc' := 22) (lv' := [(0, .ref 50), (1, .int (nI b)), (2, .int 0), (3, .int n)]) (st' := [.int 0, .ref 72, .ref 61]) (μ' := z_ui μ 61 b (x - n)) (by rfl) ?_
  refine zq_iald hc hH (by rfl) 28 (oka_i (by decide +kernel)) (show vp_in (nI 0) 28 from vp_in_nI (by decide) (by decide)) ?_
  rw [show (0 : Int32).toNatClampNeg = 0 from rfl]
  rw [ui_o (by omega)]
  rw [e0]
  refine z_rcs hc hH 1 (pc' := 24) (lv' := [(0, .ref 50), (1, .int (nI b)), (2, .int 0), (3, .int n)]) (st' := [.int (nI s), .ref 61, .int (nI s), .ref 61]) (μ' := z_ui μ 61 b (x - n)) (by rfl) ?_
  refine zq_iald hc hH (by rfl) 4 (oka_i (by decide +kernel)) (vp_in_nI (by omega) (by decide)) ?_
  rw [nI_clamp (by omega)]
  rw [ui_k (by omega)]
  rw [hy]
  refine z_rcs hc hH 2 (pc' := 27) (lv' := [(0, .ref 50), (1, .int (nI b)), (2, .int 0), (3, .int n)]) (st' := [.int (y + n), .int (nI s), .ref 61]) (μ' := z_ui μ 61 b (x - n)) (by rfl) ?_
  refine zq_iast hc hH (by rfl) 4 (oka_i (by decide +kernel)).2 (vp_in_nI (by omega) (by decide)) ?_
  rw [nI_clamp (by omega)]
  show Z 0 28 [(0, .ref 50), (1, .int (nI b)), (2, .int 0), (3, .int n)] [] (z_ui (z_ui μ 61 b (x - n)) 61 s (y + n))
  refine z_rcs hc hH 1 (pc' := 29) (lv' := [(0, .ref 50), (1, .int (nI b)), (2, .int 0), (3, .int n)]) (st' := [.ref 50]) (μ' := z_ui (z_ui μ 61 b (x - n)) 61 s (y + n)) (by rfl) ?_
  refine zq_gfr hc hH (by rfl) (ci := 6) (f := 60) (q := 72) (by rfl) (by decide +kernel) (by rfl) (by decide +kernel) ?_
  refine z_rcs hc hH 6 (pc' := 39) (lv' := [(0, .ref 50), (1, .int (nI b)), (2, .int 0), (3, .int n)]) (st' := [.int 5, .ref 72, .int 5, .ref 72]) (μ' := z_ui (z_ui μ 61 b (x - n)) 61 s (y + n)) (by rfl) ?_
  refine zq_iald hc hH (by rfl) 28 (oka_i (by decide +kernel)) (show vp_in (nI 5) 28 from vp_in_nI (by decide) (by decide)) ?_
  rw [show (5 : Int32).toNatClampNeg = 5 from rfl]
  rw [ui_o (by omega), ui_o (by omega)]
  rw [hz]
  refine z_rcs hc hH 2 (pc' := 42) (lv' := [(0, .ref 50), (1, .int (nI b)), (2, .int 0), (3, .int n)]) (st' := [.int (z + n), .int 5, .ref 72]) (μ' := z_ui (z_ui μ 61 b (x - n)) 61 s (y + n)) (by rfl) ?_
  refine zq_iast hc hH (by rfl) 28 (oka_i (by decide +kernel)).2 (show vp_in (nI 5) 28 from vp_in_nI (by decide) (by decide)) ?_
  rw [show (5 : Int32).toNatClampNeg = 5 from rfl]
  show Z 0 43 [(0, .ref 50), (1, .int (nI b)), (2, .int 0), (3, .int n)] [] (z_ui (z_ui (z_ui μ 61 b (x - n)) 61 s (y + n)) 72 5 (z + n))
  exact hr 0 43 _ _ _ none (by decide +kernel) (by rfl) (⟨rfl, rfl⟩)
theorem gm_pays1 (d : Nat) (hd : 1 ≤ d) (μ : zM) (b s : Nat) (n x y z : Int32) (hb : b < 4) (hs : s < 4) (hbs : b ≠ s) (e0 : μ.1 72 7 = nI s) (hx : μ.1 61 b = x) (hy : μ.1 61 s = y) (hz : μ.1 72 12 = z) : z_C d mi_X7_pays [.ref 50, .int (nI b), .int 1, .int n] μ (fun r μ' => r = none ∧ μ' = z_ui (z_ui (z_ui μ 61 b (x - n)) 61 s (y + n)) 72 12 (z + n)) := by
  refine z_C_in (by decide) (by omega) (fun d' Z ed hc hr => ?_)
  have hH : zH mi_X7_pays zc_X7_pays 79 7 4 := ⟨by rfl, by rfl, by rfl, by rfl⟩
  refine z_rcs hc hH 1 (pc' := 1) (lv' := [(0, .ref 50), (1, .int (nI b)), (2, .int 1), (3, .int n)]) (st' := [.ref 50]) (μ' := μ) (by rfl) ?_
  refine zq_gfr hc hH (by rfl) (ci := 6) (f := 29) (q := 61) (by rfl) (by decide +kernel) (by rfl) (by decide +kernel) ?_
  refine z_rcs hc hH 2 (pc' := 6) (lv' := [(0, .ref 50), (1, .int (nI b)), (2, .int 1), (3, .int n)]) (st' := [.int (nI b), .ref 61, .int (nI b), .ref 61]) (μ' := μ) (by rfl) ?_
  refine zq_iald hc hH (by rfl) 4 (oka_i (by decide +kernel)) (vp_in_nI (by omega) (by decide)) ?_
  rw [nI_clamp (by omega)]
  rw [hx]
  refine z_rcs hc hH 2 (pc' := 9) (lv' := [(0, .ref 50), (1, .int (nI b)), (2, .int 1), (3, .int n)]) (st' := [.int (x - n), .int (nI b), .ref 61]) (μ' := μ) (by rfl) ?_
  refine zq_iast hc hH (by rfl) 4 (oka_i (by decide +kernel)).2 (vp_in_nI (by omega) (by decide)) ?_
  rw [nI_clamp (by omega)]
  show Z 0 10 [(0, .ref 50), (1, .int (nI b)), (2, .int 1), (3, .int n)] [] (z_ui μ 61 b (x - n))
  refine z_rcs hc hH 1 (pc' := 11) (lv' := [(0, .ref 50), (1, .int (nI b)), (2, .int 1), (3, .int n)]) (st' := [.ref 50]) (μ' := z_ui μ 61 b (x - n)) (by rfl) ?_
  refine zq_gfr hc hH (by rfl) (ci := 6) (f := 29) (q := 61) (by rfl) (by decide +kernel) (by rfl) (by decide +kernel) ?_
  refine z_rcs hc hH 1 (pc' := 15) (lv' := [(0, .ref 50), (1, .int (nI b)), (2, .int 1), (3, .int n)]) (st' := [.ref 50, .ref 61]) (μ' := z_ui μ 61 b (x - n)) (by rfl) ?_
  refine zq_gfr hc hH (by rfl) (ci := 6) (f := 60) (q := 72) (by rfl) (by decide +kernel) (by rfl) (by decide +kernel) ?_
  refine z_rcs hc hH 3 (pc' := 22) (lv' := [(0, .ref 50), (1, .int (nI b)), (2, .int 1), (3, .int n)]) (st' := [.int 7, .ref 72, .ref 61]) (μ' := z_ui μ 61 b (x - n)) (by rfl) ?_
  refine zq_iald hc hH (by rfl) 28 (oka_i (by decide +kernel)) (show vp_in (nI 7) 28 from vp_in_nI (by decide) (by decide)) ?_
  rw [show (7 : Int32).toNatClampNeg = 7 from rfl]
  rw [ui_o (by omega)]
  rw [e0]
  refine z_rcs hc hH 1 (pc' := 24) (lv' := [(0, .ref 50), (1, .int (nI b)), (2, .int 1), (3, .int n)]) (st' := [.int (nI s), .ref 61, .int (nI s), .ref 61]) (μ' := z_ui μ 61 b (x - n)) (by rfl) ?_
  refine zq_iald hc hH (by rfl) 4 (oka_i (by decide +kernel)) (vp_in_nI (by omega) (by decide)) ?_
  rw [nI_clamp (by omega)]
  rw [ui_k (by omega)]
  rw [hy]
  refine z_rcs hc hH 2 (pc' := 27) (lv' := [(0, .ref 50), (1, .int (nI b)), (2, .int 1), (3, .int n)]) (st' := [.int (y + n), .int (nI s), .ref 61]) (μ' := z_ui μ 61 b (x - n)) (by rfl) ?_
  refine zq_iast hc hH (by rfl) 4 (oka_i (by decide +kernel)).2 (vp_in_nI (by omega) (by decide)) ?_
  rw [nI_clamp (by omega)]
  show Z 0 28 [(0, .ref 50), (1, .int (nI b)), (2, .int 1), (3, .int n)] [] (z_ui (z_ui μ 61 b (x - n)) 61 s (y + n))
  refine z_rcs hc hH 1 (pc' := 29) (lv' := [(0, .ref 50), (1, .int (nI b)), (2, .int 1), (3, .int n)]) (st' := [.ref 50]) (μ' := z_ui (z_ui μ 61 b (x - n)) 61 s (y + n)) (by rfl) ?_
  refine zq_gfr hc hH (by rfl) (ci := 6) (f := 60) (q := 72) (by rfl) (by decide +kernel) (by rfl) (by decide +kernel) ?_
  refine z_rcs hc hH 6 (pc' := 39) (lv' := [(0, .ref 50), (1, .int (nI b)), (2, .int 1), (3, .int n)]) (st' := [.int 12, .ref 72, .int 12, .ref 72]) (μ' := z_ui (z_ui μ 61 b (x - n)) 61 s (y + n)) (by rfl) ?_
  refine zq_iald hc hH (by rfl) 28 (oka_i (by decide +kernel)) (show vp_in (nI 12) 28 from vp_in_nI (by decide) (by decide)) ?_
  rw [show (12 : Int32).toNatClampNeg = 12 from rfl]
  rw [ui_o (by omega), ui_o (by omega)]
  rw [hz]
  refine z_rcs hc hH 2 (pc' := 42) (lv' := [(0, .ref 50), (1, .int (nI b)), (2, .int 1), (3, .int n)]) (st' := [.int (z + n), .int 12, .ref 72]) (μ' := z_ui (z_ui μ 61 b (x - n)) 61 s (y + n)) (by rfl) ?_
  refine zq_iast hc hH (by rfl) 28 (oka_i (by decide +kernel)).2 (show vp_in (nI 12) 28 from vp_in_nI (by decide) (by decide)) ?_
  rw [show (12 : Int32).toNatClampNeg = 12 from rfl]
  show Z 0 43 [(0, .ref 50), (1, .int (nI b)), (2, .int 1), (3, .int n)] [] (z_ui (z_ui (z_ui μ 61 b (x - n)) 61 s (y + n)) 72 12 (z + n))
  exact hr 0 43 _ _ _ none (by decide +kernel) (by rfl) (⟨rfl, rfl⟩)
theorem gm_pays2 (d : Nat) (hd : 1 ≤ d) (μ : zM) (b s : Nat) (n x y z : Int32) (hb : b < 4) (hs : s < 4) (hbs : b ≠ s) (e0 : μ.1 72 14 = nI s) (hx : μ.1 61 b = x) (hy : μ.1 61 s = y) (hz : μ.1 72 19 = z) : z_C d mi_X7_pays [.ref 50, .int (nI b), .int 2, .int n] μ (fun r μ' => r = none ∧ μ' = z_ui (z_ui (z_ui μ 61 b (x - n)) 61 s (y + n)) 72 19 (z + n)) := by
  refine z_C_in (by decide) (by omega) (fun d' Z ed hc hr => ?_)
  have hH : zH mi_X7_pays zc_X7_pays 79 7 4 := ⟨by rfl, by rfl, by rfl, by rfl⟩
  refine z_rcs hc hH 1 (pc' := 1) (lv' := [(0, .ref 50), (1, .int (nI b)), (2, .int 2), (3, .int n)]) (st' := [.ref 50]) (μ' := μ) (by rfl) ?_
  refine zq_gfr hc hH (by rfl) (ci := 6) (f := 29) (q := 61) (by rfl) (by decide +kernel) (by rfl) (by decide +kernel) ?_
  refine z_rcs hc hH 2 (pc' := 6) (lv' := [(0, .ref 50), (1, .int (nI b)), (2, .int 2), (3, .int n)]) (st' := [.int (nI b), .ref 61, .int (nI b), .ref 61]) (μ' := μ) (by rfl) ?_
  refine zq_iald hc hH (by rfl) 4 (oka_i (by decide +kernel)) (vp_in_nI (by omega) (by decide)) ?_
  rw [nI_clamp (by omega)]
  rw [hx]
  refine z_rcs hc hH 2 (pc' := 9) (lv' := [(0, .ref 50), (1, .int (nI b)), (2, .int 2), (3, .int n)]) (st' := [.int (x - n), .int (nI b), .ref 61]) (μ' := μ) (by rfl) ?_
  refine zq_iast hc hH (by rfl) 4 (oka_i (by decide +kernel)).2 (vp_in_nI (by omega) (by decide)) ?_
  rw [nI_clamp (by omega)]
  show Z 0 10 [(0, .ref 50), (1, .int (nI b)), (2, .int 2), (3, .int n)] [] (z_ui μ 61 b (x - n))
  refine z_rcs hc hH 1 (pc' := 11) (lv' := [(0, .ref 50), (1, .int (nI b)), (2, .int 2), (3, .int n)]) (st' := [.ref 50]) (μ' := z_ui μ 61 b (x - n)) (by rfl) ?_
  refine zq_gfr hc hH (by rfl) (ci := 6) (f := 29) (q := 61) (by rfl) (by decide +kernel) (by rfl) (by decide +kernel) ?_
  refine z_rcs hc hH 1 (pc' := 15) (lv' := [(0, .ref 50), (1, .int (nI b)), (2, .int 2), (3, .int n)]) (st' := [.ref 50, .ref 61]) (μ' := z_ui μ 61 b (x - n)) (by rfl) ?_
  refine zq_gfr hc hH (by rfl) (ci := 6) (f := 60) (q := 72) (by rfl) (by decide +kernel) (by rfl) (by decide +kernel) ?_
  refine z_rcs hc hH 3 (pc' := 22) (lv' := [(0, .ref 50), (1, .int (nI b)), (2, .int 2), (3, .int n)]) (st' := [.int 14, .ref 72, .ref 61]) (μ' := z_ui μ 61 b (x - n)) (by rfl) ?_
  refine zq_iald hc hH (by rfl) 28 (oka_i (by decide +kernel)) (show vp_in (nI 14) 28 from vp_in_nI (by decide) (by decide)) ?_
  rw [show (14 : Int32).toNatClampNeg = 14 from rfl]
  rw [ui_o (by omega)]
  rw [e0]
  refine z_rcs hc hH 1 (pc' := 24) (lv' := [(0, .ref 50), (1, .int (nI b)), (2, .int 2), (3, .int n)]) (st' := [.int (nI s), .ref 61, .int (nI s), .ref 61]) (μ' := z_ui μ 61 b (x - n)) (by rfl) ?_
  refine zq_iald hc hH (by rfl) 4 (oka_i (by decide +kernel)) (vp_in_nI (by omega) (by decide)) ?_
  rw [nI_clamp (by omega)]
  rw [ui_k (by omega)]
  rw [hy]
  refine z_rcs hc hH 2 (pc' := 27) (lv' := [(0, .ref 50), (1, .int (nI b)), (2, .int 2), (3, .int n)]) (st' := [.int (y + n), .int (nI s), .ref 61]) (μ' := z_ui μ 61 b (x - n)) (by rfl) ?_
  refine zq_iast hc hH (by rfl) 4 (oka_i (by decide +kernel)).2 (vp_in_nI (by omega) (by decide)) ?_
  rw [nI_clamp (by omega)]
  show Z 0 28 [(0, .ref 50), (1, .int (nI b)), (2, .int 2), (3, .int n)] [] (z_ui (z_ui μ 61 b (x - n)) 61 s (y + n))
  refine z_rcs hc hH 1 (pc' := 29) (lv' := [(0, .ref 50), (1, .int (nI b)), (2, .int 2), (3, .int n)]) (st' := [.ref 50]) (μ' := z_ui (z_ui μ 61 b (x - n)) 61 s (y + n)) (by rfl) ?_
  refine zq_gfr hc hH (by rfl) (ci := 6) (f := 60) (q := 72) (by rfl) (by decide +kernel) (by rfl) (by decide +kernel) ?_
  refine z_rcs hc hH 6 (pc' := 39) (lv' := [(0, .ref 50), (1, .int (nI b)), (2, .int 2), (3, .int n)]) (st' := [.int 19, .ref 72, .int 19, .ref 72]) (μ' := z_ui (z_ui μ 61 b (x - n)) 61 s (y + n)) (by rfl) ?_
  refine zq_iald hc hH (by rfl) 28 (oka_i (by decide +kernel)) (show vp_in (nI 19) 28 from vp_in_nI (by decide) (by decide)) ?_
  rw [show (19 : Int32).toNatClampNeg = 19 from rfl]
  rw [ui_o (by omega), ui_o (by omega)]
  rw [hz]
  refine z_rcs hc hH 2 (pc' := 42) (lv' := [(0, .ref 50), (1, .int (nI b)), (2, .int 2), (3, .int n)]) (st' := [.int (z + n), .int 19, .ref 72]) (μ' := z_ui (z_ui μ 61 b (x - n)) 61 s (y + n)) (by rfl) ?_
  refine zq_iast hc hH (by rfl) 28 (oka_i (by decide +kernel)).2 (show vp_in (nI 19) 28 from vp_in_nI (by decide) (by decide)) ?_
  rw [show (19 : Int32).toNatClampNeg = 19 from rfl]
  show Z 0 43 [(0, .ref 50), (1, .int (nI b)), (2, .int 2), (3, .int n)] [] (z_ui (z_ui (z_ui μ 61 b (x - n)) 61 s (y + n)) 72 19 (z + n))
  exact hr 0 43 _ _ _ none (by decide +kernel) (by rfl) (⟨rfl, rfl⟩)
theorem gm_takesB (d : Nat) (hd : 1 ≤ d) (μ : zM) (s : Nat) (x z bb : Int32) (hs : s < 4) (e0 : μ.1 72 0 = nI s) (hx : μ.1 61 s = x) (hz : μ.1 72 5 = z) (hbb : μ.1 50 43 = bb) : z_C d mi_X7_takesBets [.ref 50] μ (fun r μ' => r = none ∧ μ' = z_ui (z_ui (z_ui μ 61 s (x + (1000 * bb))) 72 5 (z + (1000 * bb))) 50 43 0) := by
  refine z_C_in (by decide) (by omega) (fun d' Z ed hc hr => ?_)
  have hH : zH mi_X7_takesBets zc_X7_takesBets 79 7 2 := ⟨by rfl, by rfl, by rfl, by rfl⟩
  refine z_rcs hc hH 1 (pc' := 1) (lv' := [(0, .ref 50)]) (st' := [.ref 50]) (μ' := μ) (by rfl) ?_
  refine zq_gfr hc hH (by rfl) (ci := 6) (f := 60) (q := 72) (by rfl) (by decide +kernel) (by rfl) (by decide +kernel) ?_
  refine z_rcs hc hH 1 (pc' := 5) (lv' := [(0, .ref 50)]) (st' := [.int 0, .ref 72]) (μ' := μ) (by rfl) ?_
  refine zq_iald hc hH (by rfl) 28 (oka_i (by decide +kernel)) (show vp_in (nI 0) 28 from vp_in_nI (by decide) (by decide)) ?_
  rw [show (0 : Int32).toNatClampNeg = 0 from rfl]
  rw [e0]
  refine z_rcs hc hH 2 (pc' := 8) (lv' := [(1, .int (nI s)), (0, .ref 50)]) (st' := [.ref 50]) (μ' := μ) (by rfl) ?_
  refine zq_gfr hc hH (by rfl) (ci := 6) (f := 29) (q := 61) (by rfl) (by decide +kernel) (by rfl) (by decide +kernel) ?_
  refine z_rcs hc hH 2 (pc' := 13) (lv' := [(1, .int (nI s)), (0, .ref 50)]) (st' := [.int (nI s), .ref 61, .int (nI s), .ref 61]) (μ' := μ) (by rfl) ?_
  refine zq_iald hc hH (by rfl) 4 (oka_i (by decide +kernel)) (vp_in_nI (by omega) (by decide)) ?_
  rw [nI_clamp (by omega)]
  rw [hx]
  refine z_rcs hc hH 2 (pc' := 18) (lv' := [(1, .int (nI s)), (0, .ref 50)]) (st' := [.ref 50, .int 1000, .int x, .int (nI s), .ref 61]) (μ' := μ) (by rfl) ?_
  refine zq_gfi hc hH (by rfl) (ci := 6) (f := 43) (by rfl) (by decide +kernel) (by rfl) ?_
  rw [hbb]
  refine z_rcs hc hH 2 (pc' := 23) (lv' := [(1, .int (nI s)), (0, .ref 50)]) (st' := [.int (x + (1000 * bb)), .int (nI s), .ref 61]) (μ' := μ) (by rfl) ?_
  refine zq_iast hc hH (by rfl) 4 (oka_i (by decide +kernel)).2 (vp_in_nI (by omega) (by decide)) ?_
  rw [nI_clamp (by omega)]
  show Z 0 24 [(1, .int (nI s)), (0, .ref 50)] [] (z_ui μ 61 s (x + (1000 * bb)))
  refine z_rcs hc hH 1 (pc' := 25) (lv' := [(1, .int (nI s)), (0, .ref 50)]) (st' := [.ref 50]) (μ' := z_ui μ 61 s (x + (1000 * bb))) (by rfl) ?_
  refine zq_gfr hc hH (by rfl) (ci := 6) (f := 60) (q := 72) (by rfl) (by decide +kernel) (by rfl) (by decide +kernel) ?_
  refine z_rcs hc hH 2 (pc' := 30) (lv' := [(1, .int (nI s)), (0, .ref 50)]) (st' := [.int 5, .ref 72, .int 5, .ref 72]) (μ' := z_ui μ 61 s (x + (1000 * bb))) (by rfl) ?_
  refine zq_iald hc hH (by rfl) 28 (oka_i (by decide +kernel)) (show vp_in (nI 5) 28 from vp_in_nI (by decide) (by decide)) ?_
  rw [show (5 : Int32).toNatClampNeg = 5 from rfl]
  rw [ui_o (by omega)]
  rw [hz]
  refine z_rcs hc hH 2 (pc' := 35) (lv' := [(1, .int (nI s)), (0, .ref 50)]) (st' := [.ref 50, .int 1000, .int z, .int 5, .ref 72]) (μ' := z_ui μ 61 s (x + (1000 * bb))) (by rfl) ?_
  refine zq_gfi hc hH (by rfl) (ci := 6) (f := 43) (by rfl) (by decide +kernel) (by rfl) ?_
  rw [ui_o (by omega)]
  rw [hbb]
  refine z_rcs hc hH 2 (pc' := 40) (lv' := [(1, .int (nI s)), (0, .ref 50)]) (st' := [.int (z + (1000 * bb)), .int 5, .ref 72]) (μ' := z_ui μ 61 s (x + (1000 * bb))) (by rfl) ?_
  refine zq_iast hc hH (by rfl) 28 (oka_i (by decide +kernel)).2 (show vp_in (nI 5) 28 from vp_in_nI (by decide) (by decide)) ?_
  rw [show (5 : Int32).toNatClampNeg = 5 from rfl]
  show Z 0 41 [(1, .int (nI s)), (0, .ref 50)] [] (z_ui (z_ui μ 61 s (x + (1000 * bb))) 72 5 (z + (1000 * bb)))
  refine z_rcs hc hH 2 (pc' := 43) (lv' := [(1, .int (nI s)), (0, .ref 50)]) (st' := [.int 0, .ref 50]) (μ' := z_ui (z_ui μ 61 s (x + (1000 * bb))) 72 5 (z + (1000 * bb))) (by rfl) ?_
  refine zq_pfi hc hH (by rfl) (ci := 6) (f := 43) (by rfl) (by decide +kernel) (by rfl) ?_
  show Z 0 46 [(1, .int (nI s)), (0, .ref 50)] [] (z_ui (z_ui (z_ui μ 61 s (x + (1000 * bb))) 72 5 (z + (1000 * bb))) 50 43 0)
  exact hr 0 46 _ _ _ none (by decide +kernel) (by rfl) (⟨rfl, rfl⟩)
theorem SM_uj {a b : zM} (h : SMj a b) {r k : Nat} {x : Int64} : SMj (z_uj a r k x) (z_uj b r k x) := fun r' k' q => ⟨(h r' k' q).1, by
  by_cases e : r' = r
  · by_cases e2 : k' = k
    · rw [e, e2, uj_s, uj_s]
    · rw [uj_k e2, uj_k e2]; exact (h r' k' q).2
  · rw [uj_o e, uj_o e]; exact (h r' k' q).2⟩
theorem SM_bif {c : Bool} {a b a' b' : zM} (h1 : SMj a a') (h2 : SMj b b') : SMj (bif c then a else b) (bif c then a' else b') := by
  cases c
  · exact h2
  · exact h1
def eMB (μ : zM) (ds om : Bool) (dl e : Nat) : zM := bif ds then eM1 μ om dl e else eM0 μ om dl e
theorem gm_endsB (d : Nat) (hd : 1 ≤ d) (μ : zM) (ds om : Bool) (dl e : Nat) (hdl : μ.1 50 40 = nI dl) (hdl4 : dl < 4) (he : (dl + 1) % 4 = e) : z_C d mi_X7_ends [.ref 50, .int (nB ds), .int (nB om)] μ (fun r μ' => r = none ∧ μ' = eMB μ ds om dl e) := by
  cases ds
  · exact gm_ends0 d hd μ om dl e hdl hdl4 he
  · exact gm_ends1 d hd μ om dl e hdl hdl4 he
theorem SM_eM0 {a b : zM} (h : SMj a b) {om : Bool} {dl e : Nat} : SMj (eM0 a om dl e) (eM0 b om dl e) := by
  unfold eM0
  simp only [(h 61 0 (by omega)).1, (h 61 1 (by omega)).1, (h 61 2 (by omega)).1, (h 61 3 (by omega)).1, (h 50 40 (by omega)).1, (h 50 41 (by omega)).1, (h 50 42 (by omega)).1, (h 50 43 (by omega)).1, (h 50 52 (by omega)).1]
  repeat' (first | exact h | apply SM_ui | (refine SM_bif ?_ ?_))
theorem SM_eM1 {a b : zM} (h : SMj a b) {om : Bool} {dl e : Nat} : SMj (eM1 a om dl e) (eM1 b om dl e) := by
  unfold eM1
  simp only [(h 61 0 (by omega)).1, (h 61 1 (by omega)).1, (h 61 2 (by omega)).1, (h 61 3 (by omega)).1, (h 50 40 (by omega)).1, (h 50 41 (by omega)).1, (h 50 42 (by omega)).1, (h 50 43 (by omega)).1, (h 50 52 (by omega)).1]
  repeat' (first | exact h | apply SM_ui | (refine SM_bif ?_ ?_))
theorem SM_eMB {a b : zM} (h : SMj a b) {ds om : Bool} {dl e : Nat} : SMj (eMB a ds om dl e) (eMB b ds om dl e) := by
  cases ds
  · exact SM_eM0 (dl := dl) (e := e) h
  · exact SM_eM1 (dl := dl) (e := e) h

/-! the game: discard without a bet, of the reference -/
set_option maxRecDepth 8000
theorem gm_discard0 (d : Nat) (hd : 3 ≤ d) (μ : zM) (t : Nat) (ht4 : t < 4) (ht : μ.1 50 45 = nI t) (k q : Nat) (hk : k < 34) (hq : q < 136) (e66 : μ.1 66 t = nI q) : z_C d mi_X7_discard [.ref 50, .int (nI k), .int 0] μ (fun r μ' => r = some ((bif decide ((μ.1 50 44) = 1) then (bif decide ((μ.1 60 (34 * t + k)) = 0) then .int 0 else (bif decide ((μ.1 50 57) = 0) then (bif decide ((μ.1 67 t) ≤ 0) then .int 1 else (bif decide ((nI k) = (μ.1 50 49)) then .int 1 else .int 0)) else (bif decide ((nI k) = (μ.1 50 50)) then .int 0 else (bif decide ((nI k) = (μ.1 50 51)) then .int 0 else (bif decide ((μ.1 67 t) ≤ 0) then .int 1 else (bif decide ((nI k) = (μ.1 50 49)) then .int 1 else .int 0)))))) else .int 0)) ∧ μ' = (bif decide ((μ.1 50 44) = 1) then (bif decide ((μ.1 60 (34 * t + k)) = 0) then z_ui μ 50 0 0 else (bif decide ((μ.1 50 57) = 0) then (bif decide ((μ.1 67 t) ≤ 0) then z_ui (z_ui (z_ui (z_ui (z_ui (z_ui (z_ui (z_giv (z_ui μ 50 0 0) t k (-1)) 65 (136 * t + q) (nI k)) 66 t (nI (q + 1))) 69 t 0) 50 59 0) 50 44 2) 50 49 (nI k)) 50 57 0 else (bif decide ((nI k) = (μ.1 50 49)) then z_ui (z_ui (z_ui (z_ui (z_ui (z_ui (z_ui (z_giv (z_ui μ 50 0 0) t k (-1)) 65 (136 * t + q) (nI k)) 66 t (nI (q + 1))) 69 t 0) 50 59 0) 50 44 2) 50 49 (nI k)) 50 57 0 else z_ui μ 50 0 0)) else (bif decide ((nI k) = (μ.1 50 50)) then z_ui μ 50 0 0 else (bif decide ((nI k) = (μ.1 50 51)) then z_ui μ 50 0 0 else (bif decide ((μ.1 67 t) ≤ 0) then z_ui (z_ui (z_ui (z_ui (z_ui (z_ui (z_ui (z_giv (z_ui μ 50 0 0) t k (-1)) 65 (136 * t + q) (nI k)) 66 t (nI (q + 1))) 69 t 0) 50 59 0) 50 44 2) 50 49 (nI k)) 50 57 0 else (bif decide ((nI k) = (μ.1 50 49)) then z_ui (z_ui (z_ui (z_ui (z_ui (z_ui (z_ui (z_giv (z_ui μ 50 0 0) t k (-1)) 65 (136 * t + q) (nI k)) 66 t (nI (q + 1))) 69 t 0) 50 59 0) 50 44 2) 50 49 (nI k)) 50 57 0 else z_ui μ 50 0 0)))))) else z_ui μ 50 0 0)) := by
  refine z_C_in (by decide) (by omega) (fun d' Z ed hc hr => ?_)
  have hH : zH mi_X7_discard zc_X7_discard 79 7 5 := ⟨by rfl, by rfl, by rfl, by rfl⟩
  refine z_rcs hc hH 2 (pc' := 2) (lv' := [(0, .ref 50), (1, .int (nI k)), (2, .int 0)]) (st' := [.int 0, .ref 50]) (μ' := μ) (by rfl) ?_
  refine zq_pfi hc hH (by rfl) (ci := 6) (f := 0) (by rfl) (by decide +kernel) (by rfl) ?_
  show Z 0 5 [(0, .ref 50), (1, .int (nI k)), (2, .int 0)] [] (z_ui μ 50 0 0)
  refine z_rcs hc hH 1 (pc' := 6) (lv' := [(0, .ref 50), (1, .int (nI k)), (2, .int 0)]) (st' := [.ref 50]) (μ' := z_ui μ 50 0 0) (by rfl) ?_
  refine zq_gfi hc hH (by rfl) (ci := 6) (f := 44) (by rfl) (by decide +kernel) (by rfl) ?_
  rw [ui_k (by omega)]
  refine z_rcs hc hH 1 (pc' := 10) (lv' := [(0, .ref 50), (1, .int (nI k)), (2, .int 0)]) (st' := [.int 1, .int (μ.1 50 44)]) (μ' := z_ui μ 50 0 0) (by rfl) ?_
  refine zq_ic hc hH (by rfl) (tg := 32) (by rfl) (fun h1 => ?_) (fun h1 => ?_)
  · have h1 : (decide ((μ.1 50 44) = 1)) = false := decide_eq_false (cm_ne.mp h1)
    refine z_rcs hc hH 1 (pc' := 33) (lv' := [(0, .ref 50), (1, .int (nI k)), (2, .int 0)]) (st' := [.int 0]) (μ' := z_ui μ 50 0 0) (by rfl) ?_
    exact hr 0 33 _ _ _ (some (.int 0)) (by decide +kernel) (by rfl) (⟨(by first | rfl | simp only [h1, cond_true, cond_false]), (by simp only [h1, cond_true, cond_false])⟩)
  · have h1 : (decide ((μ.1 50 44) = 1)) = true := decide_eq_true (cn_ne.mp h1)
    refine z_rcs hc hH 1 (pc' := 14) (lv' := [(0, .ref 50), (1, .int (nI k)), (2, .int 0)]) (st' := [.int (nI k)]) (μ' := z_ui μ 50 0 0) (by rfl) ?_
    refine zq_call hc (by rfl) (gm_isKindN d' (by omega) (z_ui μ 50 0 0) k hk) (by decide +kernel) (fun r9 μ9 hq => ?_)
    obtain ⟨hμ9, rfl⟩ := hq
    rw [hμ9]
    clear hμ9 μ9
    show Z 0 17 [(0, .ref 50), (1, .int (nI k)), (2, .int 0)] [.int 1] (z_ui μ 50 0 0)
    refine z_rcs hc hH 3 (pc' := 22) (lv' := [(0, .ref 50), (1, .int (nI k)), (2, .int 0)]) (st' := [.ref 50, .ref 50]) (μ' := z_ui μ 50 0 0) (by rfl) ?_
    refine zq_gfi hc hH (by rfl) (ci := 6) (f := 45) (by rfl) (by decide +kernel) (by rfl) ?_
    rw [ui_k (by omega)]
    rw [ht]
    refine z_rcs hc hH 1 (pc' := 26) (lv' := [(0, .ref 50), (1, .int (nI k)), (2, .int 0)]) (st' := [.int (nI k), .int (nI t), .ref 50]) (μ' := z_ui μ 50 0 0) (by rfl) ?_
    refine zq_call hc (by rfl) (fc_X7_has_ d' (by omega) (z_ui μ 50 0 0) t k ht4 hk) (by decide +kernel) (fun r9 μ9 hq => ?_)
    obtain ⟨hμ9, rfl⟩ := hq
    rw [hμ9]
    clear hμ9 μ9
    rw [ui_o (by omega)]
    show Z 0 29 [(0, .ref 50), (1, .int (nI k)), (2, .int 0)] [.int (μ.1 60 (34 * t + k))] (z_ui μ 50 0 0)
    refine zq_if hc hH (by rfl) (tg := 34) (by rfl) (fun h2 => ?_) (fun h2 => ?_)
    · have h2 : (decide ((μ.1 60 (34 * t + k)) = 0)) = false := decide_eq_false (cm_ne.mp h2)
      refine z_rcs hc hH 1 (pc' := 35) (lv' := [(0, .ref 50), (1, .int (nI k)), (2, .int 0)]) (st' := [.ref 50]) (μ' := z_ui μ 50 0 0) (by rfl) ?_
      refine zq_gfi hc hH (by rfl) (ci := 6) (f := 57) (by rfl) (by decide +kernel) (by rfl) ?_
      rw [ui_k (by omega)]
      refine zq_if hc hH (by rfl) (tg := 57) (by rfl) (fun h3 => ?_) (fun h3 => ?_)
      · have h3 : (decide ((μ.1 50 57) = 0)) = true := decide_eq_true (cm_eq9.mp h3)
        refine z_rcs hc hH 1 (pc' := 58) (lv' := [(0, .ref 50), (1, .int (nI k)), (2, .int 0)]) (st' := [.ref 50]) (μ' := z_ui μ 50 0 0) (by rfl) ?_
        refine zq_gfr hc hH (by rfl) (ci := 6) (f := 35) (q := 67) (by rfl) (by decide +kernel) (by rfl) (by decide +kernel) ?_
        refine z_rcs hc hH 1 (pc' := 62) (lv' := [(0, .ref 50), (1, .int (nI k)), (2, .int 0)]) (st' := [.ref 50, .ref 67]) (μ' := z_ui μ 50 0 0) (by rfl) ?_
        refine zq_gfi hc hH (by rfl) (ci := 6) (f := 45) (by rfl) (by decide +kernel) (by rfl) ?_
        rw [ui_k (by omega)]
        rw [ht]
        refine zq_iald hc hH (by rfl) 4 (oka_i (by decide +kernel)) (vp_in_nI (by omega) (by decide)) ?_
        rw [nI_clamp (by omega)]
        rw [ui_o (by omega)]
        refine zq_if hc hH (by rfl) (tg := 83) (by rfl) (fun h4 => ?_) (fun h4 => ?_)
        · have h4 : (decide ((μ.1 67 t) ≤ 0)) = true := decide_eq_true (cm_le.mp h4)
          refine z_rcs hc hH 4 (pc' := 195) (lv' := [(0, .ref 50), (1, .int (nI k)), (2, .int 0)]) (st' := [.ref 50, .ref 50]) (μ' := z_ui μ 50 0 0) (by rfl) ?_
          refine zq_gfi hc hH (by rfl) (ci := 6) (f := 45) (by rfl) (by decide +kernel) (by rfl) ?_
          rw [ui_k (by omega)]
          rw [ht]
          refine z_rcs hc hH 2 (pc' := 200) (lv' := [(0, .ref 50), (1, .int (nI k)), (2, .int 0)]) (st' := [.int (-1), .int (nI k), .int (nI t), .ref 50]) (μ' := z_ui μ 50 0 0) (by rfl) ?_
          refine zq_call hc (by rfl) (fc_X7_gives d' (by omega) (z_ui μ 50 0 0) t k (-1) ht4 hk) (by decide +kernel) (fun r9 μ9 hq => ?_)
          obtain ⟨rfl, rfl⟩ := hq
          show Z 0 203 [(0, .ref 50), (1, .int (nI k)), (2, .int 0)] [] (z_giv (z_ui μ 50 0 0) t k (-1))
          refine z_rcs hc hH 1 (pc' := 204) (lv' := [(0, .ref 50), (1, .int (nI k)), (2, .int 0)]) (st' := [.ref 50]) (μ' := z_giv (z_ui μ 50 0 0) t k (-1)) (by rfl) ?_
          refine zq_gfr hc hH (by rfl) (ci := 6) (f := 33) (q := 65) (by rfl) (by decide +kernel) (by rfl) (by decide +kernel) ?_
          refine z_rcs hc hH 2 (pc' := 211) (lv' := [(0, .ref 50), (1, .int (nI k)), (2, .int 0)]) (st' := [.ref 50, .int 136, .ref 65]) (μ' := z_giv (z_ui μ 50 0 0) t k (-1)) (by rfl) ?_
          refine zq_gfi hc hH (by rfl) (ci := 6) (f := 45) (by rfl) (by decide +kernel) (by rfl) ?_
          rw [giv_o (by omega), ui_k (by omega)]
          rw [ht]
          refine z_rcs hc hH 2 (pc' := 216) (lv' := [(0, .ref 50), (1, .int (nI k)), (2, .int 0)]) (st' := [.ref 50, .int (136 * (nI t)), .ref 65]) (μ' := z_giv (z_ui μ 50 0 0) t k (-1)) (by rfl) ?_
          refine zq_gfr hc hH (by rfl) (ci := 6) (f := 34) (q := 66) (by rfl) (by decide +kernel) (by rfl) (by decide +kernel) ?_
          refine z_rcs hc hH 1 (pc' := 220) (lv' := [(0, .ref 50), (1, .int (nI k)), (2, .int 0)]) (st' := [.ref 50, .ref 66, .int (136 * (nI t)), .ref 65]) (μ' := z_giv (z_ui μ 50 0 0) t k (-1)) (by rfl) ?_
          refine zq_gfi hc hH (by rfl) (ci := 6) (f := 45) (by rfl) (by decide +kernel) (by rfl) ?_
          rw [giv_o (by omega), ui_k (by omega)]
          rw [ht]
          refine zq_iald hc hH (by rfl) 4 (oka_i (by decide +kernel)) (vp_in_nI (by omega) (by decide)) ?_
          rw [nI_clamp (by omega)]
          rw [giv_o (by omega), ui_o (by omega)]
          rw [e66]
          refine z_rcs hc hH 1 (pc' := 225) (lv' := [(0, .ref 50), (1, .int (nI k)), (2, .int 0)]) (st' := [.int ((136 * (nI t)) + (nI q)), .ref 65]) (μ' := z_giv (z_ui μ 50 0 0) t k (-1)) (by rfl) ?_
          rw [nI_136]
          refine z_rcs hc hH 1 (pc' := 226) (lv' := [(0, .ref 50), (1, .int (nI k)), (2, .int 0)]) (st' := [.int (nI k), .int (nI (136 * t + q)), .ref 65]) (μ' := z_giv (z_ui μ 50 0 0) t k (-1)) (by rfl) ?_
          refine zq_iast hc hH (by rfl) 544 (oka_i (by decide +kernel)).2 (vp_in_nI (by omega) (by decide)) ?_
          rw [nI_clamp (by omega)]
          show Z 0 227 [(0, .ref 50), (1, .int (nI k)), (2, .int 0)] [] (z_ui (z_giv (z_ui μ 50 0 0) t k (-1)) 65 (136 * t + q) (nI k))
          refine z_rcs hc hH 1 (pc' := 228) (lv' := [(0, .ref 50), (1, .int (nI k)), (2, .int 0)]) (st' := [.ref 50]) (μ' := z_ui (z_giv (z_ui μ 50 0 0) t k (-1)) 65 (136 * t + q) (nI k)) (by rfl) ?_
          refine zq_gfr hc hH (by rfl) (ci := 6) (f := 34) (q := 66) (by rfl) (by decide +kernel) (by rfl) (by decide +kernel) ?_
          refine z_rcs hc hH 1 (pc' := 232) (lv' := [(0, .ref 50), (1, .int (nI k)), (2, .int 0)]) (st' := [.ref 50, .ref 66]) (μ' := z_ui (z_giv (z_ui μ 50 0 0) t k (-1)) 65 (136 * t + q) (nI k)) (by rfl) ?_
          refine zq_gfi hc hH (by rfl) (ci := 6) (f := 45) (by rfl) (by decide +kernel) (by rfl) ?_
          rw [ui_o (by omega), giv_o (by omega), ui_k (by omega)]
          rw [ht]
          refine z_rcs hc hH 1 (pc' := 236) (lv' := [(0, .ref 50), (1, .int (nI k)), (2, .int 0)]) (st' := [.int (nI t), .ref 66, .int (nI t), .ref 66]) (μ' := z_ui (z_giv (z_ui μ 50 0 0) t k (-1)) 65 (136 * t + q) (nI k)) (by rfl) ?_
          refine zq_iald hc hH (by rfl) 4 (oka_i (by decide +kernel)) (vp_in_nI (by omega) (by decide)) ?_
          rw [nI_clamp (by omega)]
          rw [ui_o (by omega), giv_o (by omega), ui_o (by omega)]
          rw [e66]
          refine z_rcs hc hH 2 (pc' := 239) (lv' := [(0, .ref 50), (1, .int (nI k)), (2, .int 0)]) (st' := [.int ((nI q) + 1), .int (nI t), .ref 66]) (μ' := z_ui (z_giv (z_ui μ 50 0 0) t k (-1)) 65 (136 * t + q) (nI k)) (by rfl) ?_
          rw [nI_s1]
          refine zq_iast hc hH (by rfl) 4 (oka_i (by decide +kernel)).2 (vp_in_nI (by omega) (by decide)) ?_
          rw [nI_clamp (by omega)]
          show Z 0 240 [(0, .ref 50), (1, .int (nI k)), (2, .int 0)] [] (z_ui (z_ui (z_giv (z_ui μ 50 0 0) t k (-1)) 65 (136 * t + q) (nI k)) 66 t (nI (q + 1)))
          refine z_rcs hc hH 1 (pc' := 241) (lv' := [(0, .ref 50), (1, .int (nI k)), (2, .int 0)]) (st' := [.ref 50]) (μ' := z_ui (z_ui (z_giv (z_ui μ 50 0 0) t k (-1)) 65 (136 * t + q) (nI k)) 66 t (nI (q + 1))) (by rfl) ?_
          refine zq_gfr hc hH (by rfl) (ci := 6) (f := 37) (q := 69) (by rfl) (by decide +kernel) (by rfl) (by decide +kernel) ?_
          refine z_rcs hc hH 1 (pc' := 245) (lv' := [(0, .ref 50), (1, .int (nI k)), (2, .int 0)]) (st' := [.ref 50, .ref 69]) (μ' := z_ui (z_ui (z_giv (z_ui μ 50 0 0) t k (-1)) 65 (136 * t + q) (nI k)) 66 t (nI (q + 1))) (by rfl) ?_
          refine zq_gfi hc hH (by rfl) (ci := 6) (f := 45) (by rfl) (by decide +kernel) (by rfl) ?_
          rw [ui_o (by omega), ui_o (by omega), giv_o (by omega), ui_k (by omega)]
          rw [ht]
          refine z_rcs hc hH 1 (pc' := 249) (lv' := [(0, .ref 50), (1, .int (nI k)), (2, .int 0)]) (st' := [.int 0, .int (nI t), .ref 69]) (μ' := z_ui (z_ui (z_giv (z_ui μ 50 0 0) t k (-1)) 65 (136 * t + q) (nI k)) 66 t (nI (q + 1))) (by rfl) ?_
          refine zq_bast hc hH (by rfl) 4 (by decide +kernel) (vp_in_nI (by omega) (by decide)) (by decide) ?_
          rw [nI_clamp (by omega)]
          show Z 0 250 [(0, .ref 50), (1, .int (nI k)), (2, .int 0)] [] (z_ui (z_ui (z_ui (z_giv (z_ui μ 50 0 0) t k (-1)) 65 (136 * t + q) (nI k)) 66 t (nI (q + 1))) 69 t 0)
          refine z_rcs hc hH 2 (pc' := 252) (lv' := [(0, .ref 50), (1, .int (nI k)), (2, .int 0)]) (st' := [.int 0, .ref 50]) (μ' := z_ui (z_ui (z_ui (z_giv (z_ui μ 50 0 0) t k (-1)) 65 (136 * t + q) (nI k)) 66 t (nI (q + 1))) 69 t 0) (by rfl) ?_
          refine zq_pfb hc hH (by rfl) (ci := 6) (f := 59) (by rfl) (by decide +kernel) (by rfl) (by decide) ?_
          show Z 0 255 [(0, .ref 50), (1, .int (nI k)), (2, .int 0)] [] (z_ui (z_ui (z_ui (z_ui (z_giv (z_ui μ 50 0 0) t k (-1)) 65 (136 * t + q) (nI k)) 66 t (nI (q + 1))) 69 t 0) 50 59 0)
          refine z_rcs hc hH 2 (pc' := 257) (lv' := [(0, .ref 50), (1, .int (nI k)), (2, .int 0)]) (st' := [.int 2, .ref 50]) (μ' := z_ui (z_ui (z_ui (z_ui (z_giv (z_ui μ 50 0 0) t k (-1)) 65 (136 * t + q) (nI k)) 66 t (nI (q + 1))) 69 t 0) 50 59 0) (by rfl) ?_
          refine zq_pfi hc hH (by rfl) (ci := 6) (f := 44) (by rfl) (by decide +kernel) (by rfl) ?_
          show Z 0 260 [(0, .ref 50), (1, .int (nI k)), (2, .int 0)] [] (z_ui (z_ui (z_ui (z_ui (z_ui (z_giv (z_ui μ 50 0 0) t k (-1)) 65 (136 * t + q) (nI k)) 66 t (nI (q + 1))) 69 t 0) 50 59 0) 50 44 2)
          refine z_rcs hc hH 2 (pc' := 262) (lv' := [(0, .ref 50), (1, .int (nI k)), (2, .int 0)]) (st' := [.int (nI k), .ref 50]) (μ' := z_ui (z_ui (z_ui (z_ui (z_ui (z_giv (z_ui μ 50 0 0) t k (-1)) 65 (136 * t + q) (nI k)) 66 t (nI (q + 1))) 69 t 0) 50 59 0) 50 44 2) (by rfl) ?_
          refine zq_pfi hc hH (by rfl) (ci := 6) (f := 49) (by rfl) (by decide +kernel) (by rfl) ?_
          show Z 0 265 [(0, .ref 50), (1, .int (nI k)), (2, .int 0)] [] (z_ui (z_ui (z_ui (z_ui (z_ui (z_ui (z_giv (z_ui μ 50 0 0) t k (-1)) 65 (136 * t + q) (nI k)) 66 t (nI (q + 1))) 69 t 0) 50 59 0) 50 44 2) 50 49 (nI k))
          refine z_rcs hc hH 2 (pc' := 267) (lv' := [(0, .ref 50), (1, .int (nI k)), (2, .int 0)]) (st' := [.int 0, .ref 50]) (μ' := z_ui (z_ui (z_ui (z_ui (z_ui (z_ui (z_giv (z_ui μ 50 0 0) t k (-1)) 65 (136 * t + q) (nI k)) 66 t (nI (q + 1))) 69 t 0) 50 59 0) 50 44 2) 50 49 (nI k)) (by rfl) ?_
          refine zq_pfb hc hH (by rfl) (ci := 6) (f := 57) (by rfl) (by decide +kernel) (by rfl) (by decide) ?_
          show Z 0 270 [(0, .ref 50), (1, .int (nI k)), (2, .int 0)] [] (z_ui (z_ui (z_ui (z_ui (z_ui (z_ui (z_ui (z_giv (z_ui μ 50 0 0) t k (-1)) 65 (136 * t + q) (nI k)) 66 t (nI (q + 1))) 69 t 0) 50 59 0) 50 44 2) 50 49 (nI k)) 50 57 0)
          refine z_rcs hc hH 1 (pc' := 271) (lv' := [(0, .ref 50), (1, .int (nI k)), (2, .int 0)]) (st' := [.int 1]) (μ' := z_ui (z_ui (z_ui (z_ui (z_ui (z_ui (z_ui (z_giv (z_ui μ 50 0 0) t k (-1)) 65 (136 * t + q) (nI k)) 66 t (nI (q + 1))) 69 t 0) 50 59 0) 50 44 2) 50 49 (nI k)) 50 57 0) (by rfl) ?_
          exact hr 0 271 _ _ _ (some (.int 1)) (by decide +kernel) (by rfl) (⟨(by first | rfl | simp only [h1, h2, h3, h4, cond_true, cond_false]), (by simp only [h1, h2, h3, h4, cond_true, cond_false])⟩)
        · have h4 : (decide ((μ.1 67 t) ≤ 0)) = false := decide_eq_false (cn_le.mp h4)
          refine z_rcs hc hH 4 (pc' := 75) (lv' := [(0, .ref 50), (1, .int (nI k)), (2, .int 0)]) (st' := [.ref 50, .int (nI k)]) (μ' := z_ui μ 50 0 0) (by rfl) ?_
          refine zq_gfi hc hH (by rfl) (ci := 6) (f := 49) (by rfl) (by decide +kernel) (by rfl) ?_
          rw [ui_k (by omega)]
          refine zq_ic hc hH (by rfl) (tg := 83) (by rfl) (fun h5 => ?_) (fun h5 => ?_)
          · have h5 : (decide ((nI k) = (μ.1 50 49))) = true := decide_eq_true (cm_eq9.mp h5)
            refine z_rcs hc hH 4 (pc' := 195) (lv' := [(0, .ref 50), (1, .int (nI k)), (2, .int 0)]) (st' := [.ref 50, .ref 50]) (μ' := z_ui μ 50 0 0) (by rfl) ?_
            refine zq_gfi hc hH (by rfl) (ci := 6) (f := 45) (by rfl) (by decide +kernel) (by rfl) ?_
            rw [ui_k (by omega)]
            rw [ht]
            refine z_rcs hc hH 2 (pc' := 200) (lv' := [(0, .ref 50), (1, .int (nI k)), (2, .int 0)]) (st' := [.int (-1), .int (nI k), .int (nI t), .ref 50]) (μ' := z_ui μ 50 0 0) (by rfl) ?_
            refine zq_call hc (by rfl) (fc_X7_gives d' (by omega) (z_ui μ 50 0 0) t k (-1) ht4 hk) (by decide +kernel) (fun r9 μ9 hq => ?_)
            obtain ⟨rfl, rfl⟩ := hq
            show Z 0 203 [(0, .ref 50), (1, .int (nI k)), (2, .int 0)] [] (z_giv (z_ui μ 50 0 0) t k (-1))
            refine z_rcs hc hH 1 (pc' := 204) (lv' := [(0, .ref 50), (1, .int (nI k)), (2, .int 0)]) (st' := [.ref 50]) (μ' := z_giv (z_ui μ 50 0 0) t k (-1)) (by rfl) ?_
            refine zq_gfr hc hH (by rfl) (ci := 6) (f := 33) (q := 65) (by rfl) (by decide +kernel) (by rfl) (by decide +kernel) ?_
            refine z_rcs hc hH 2 (pc' := 211) (lv' := [(0, .ref 50), (1, .int (nI k)), (2, .int 0)]) (st' := [.ref 50, .int 136, .ref 65]) (μ' := z_giv (z_ui μ 50 0 0) t k (-1)) (by rfl) ?_
            refine zq_gfi hc hH (by rfl) (ci := 6) (f := 45) (by rfl) (by decide +kernel) (by rfl) ?_
            rw [giv_o (by omega), ui_k (by omega)]
            rw [ht]
            refine z_rcs hc hH 2 (pc' := 216) (lv' := [(0, .ref 50), (1, .int (nI k)), (2, .int 0)]) (st' := [.ref 50, .int (136 * (nI t)), .ref 65]) (μ' := z_giv (z_ui μ 50 0 0) t k (-1)) (by rfl) ?_
            refine zq_gfr hc hH (by rfl) (ci := 6) (f := 34) (q := 66) (by rfl) (by decide +kernel) (by rfl) (by decide +kernel) ?_
            refine z_rcs hc hH 1 (pc' := 220) (lv' := [(0, .ref 50), (1, .int (nI k)), (2, .int 0)]) (st' := [.ref 50, .ref 66, .int (136 * (nI t)), .ref 65]) (μ' := z_giv (z_ui μ 50 0 0) t k (-1)) (by rfl) ?_
            refine zq_gfi hc hH (by rfl) (ci := 6) (f := 45) (by rfl) (by decide +kernel) (by rfl) ?_
            rw [giv_o (by omega), ui_k (by omega)]
            rw [ht]
            refine zq_iald hc hH (by rfl) 4 (oka_i (by decide +kernel)) (vp_in_nI (by omega) (by decide)) ?_
            rw [nI_clamp (by omega)]
            rw [giv_o (by omega), ui_o (by omega)]
            rw [e66]
            refine z_rcs hc hH 1 (pc' := 225) (lv' := [(0, .ref 50), (1, .int (nI k)), (2, .int 0)]) (st' := [.int ((136 * (nI t)) + (nI q)), .ref 65]) (μ' := z_giv (z_ui μ 50 0 0) t k (-1)) (by rfl) ?_
            rw [nI_136]
            refine z_rcs hc hH 1 (pc' := 226) (lv' := [(0, .ref 50), (1, .int (nI k)), (2, .int 0)]) (st' := [.int (nI k), .int (nI (136 * t + q)), .ref 65]) (μ' := z_giv (z_ui μ 50 0 0) t k (-1)) (by rfl) ?_
            refine zq_iast hc hH (by rfl) 544 (oka_i (by decide +kernel)).2 (vp_in_nI (by omega) (by decide)) ?_
            rw [nI_clamp (by omega)]
            show Z 0 227 [(0, .ref 50), (1, .int (nI k)), (2, .int 0)] [] (z_ui (z_giv (z_ui μ 50 0 0) t k (-1)) 65 (136 * t + q) (nI k))
            refine z_rcs hc hH 1 (pc' := 228) (lv' := [(0, .ref 50), (1, .int (nI k)), (2, .int 0)]) (st' := [.ref 50]) (μ' := z_ui (z_giv (z_ui μ 50 0 0) t k (-1)) 65 (136 * t + q) (nI k)) (by rfl) ?_
            refine zq_gfr hc hH (by rfl) (ci := 6) (f := 34) (q := 66) (by rfl) (by decide +kernel) (by rfl) (by decide +kernel) ?_
            refine z_rcs hc hH 1 (pc' := 232) (lv' := [(0, .ref 50), (1, .int (nI k)), (2, .int 0)]) (st' := [.ref 50, .ref 66]) (μ' := z_ui (z_giv (z_ui μ 50 0 0) t k (-1)) 65 (136 * t + q) (nI k)) (by rfl) ?_
            refine zq_gfi hc hH (by rfl) (ci := 6) (f := 45) (by rfl) (by decide +kernel) (by rfl) ?_
            rw [ui_o (by omega), giv_o (by omega), ui_k (by omega)]
            rw [ht]
            refine z_rcs hc hH 1 (pc' := 236) (lv' := [(0, .ref 50), (1, .int (nI k)), (2, .int 0)]) (st' := [.int (nI t), .ref 66, .int (nI t), .ref 66]) (μ' := z_ui (z_giv (z_ui μ 50 0 0) t k (-1)) 65 (136 * t + q) (nI k)) (by rfl) ?_
            refine zq_iald hc hH (by rfl) 4 (oka_i (by decide +kernel)) (vp_in_nI (by omega) (by decide)) ?_
            rw [nI_clamp (by omega)]
            rw [ui_o (by omega), giv_o (by omega), ui_o (by omega)]
            rw [e66]
            refine z_rcs hc hH 2 (pc' := 239) (lv' := [(0, .ref 50), (1, .int (nI k)), (2, .int 0)]) (st' := [.int ((nI q) + 1), .int (nI t), .ref 66]) (μ' := z_ui (z_giv (z_ui μ 50 0 0) t k (-1)) 65 (136 * t + q) (nI k)) (by rfl) ?_
            rw [nI_s1]
            refine zq_iast hc hH (by rfl) 4 (oka_i (by decide +kernel)).2 (vp_in_nI (by omega) (by decide)) ?_
            rw [nI_clamp (by omega)]
            show Z 0 240 [(0, .ref 50), (1, .int (nI k)), (2, .int 0)] [] (z_ui (z_ui (z_giv (z_ui μ 50 0 0) t k (-1)) 65 (136 * t + q) (nI k)) 66 t (nI (q + 1)))
            refine z_rcs hc hH 1 (pc' := 241) (lv' := [(0, .ref 50), (1, .int (nI k)), (2, .int 0)]) (st' := [.ref 50]) (μ' := z_ui (z_ui (z_giv (z_ui μ 50 0 0) t k (-1)) 65 (136 * t + q) (nI k)) 66 t (nI (q + 1))) (by rfl) ?_
            refine zq_gfr hc hH (by rfl) (ci := 6) (f := 37) (q := 69) (by rfl) (by decide +kernel) (by rfl) (by decide +kernel) ?_
            refine z_rcs hc hH 1 (pc' := 245) (lv' := [(0, .ref 50), (1, .int (nI k)), (2, .int 0)]) (st' := [.ref 50, .ref 69]) (μ' := z_ui (z_ui (z_giv (z_ui μ 50 0 0) t k (-1)) 65 (136 * t + q) (nI k)) 66 t (nI (q + 1))) (by rfl) ?_
            refine zq_gfi hc hH (by rfl) (ci := 6) (f := 45) (by rfl) (by decide +kernel) (by rfl) ?_
            rw [ui_o (by omega), ui_o (by omega), giv_o (by omega), ui_k (by omega)]
            rw [ht]
            refine z_rcs hc hH 1 (pc' := 249) (lv' := [(0, .ref 50), (1, .int (nI k)), (2, .int 0)]) (st' := [.int 0, .int (nI t), .ref 69]) (μ' := z_ui (z_ui (z_giv (z_ui μ 50 0 0) t k (-1)) 65 (136 * t + q) (nI k)) 66 t (nI (q + 1))) (by rfl) ?_
            refine zq_bast hc hH (by rfl) 4 (by decide +kernel) (vp_in_nI (by omega) (by decide)) (by decide) ?_
            rw [nI_clamp (by omega)]
            show Z 0 250 [(0, .ref 50), (1, .int (nI k)), (2, .int 0)] [] (z_ui (z_ui (z_ui (z_giv (z_ui μ 50 0 0) t k (-1)) 65 (136 * t + q) (nI k)) 66 t (nI (q + 1))) 69 t 0)
            refine z_rcs hc hH 2 (pc' := 252) (lv' := [(0, .ref 50), (1, .int (nI k)), (2, .int 0)]) (st' := [.int 0, .ref 50]) (μ' := z_ui (z_ui (z_ui (z_giv (z_ui μ 50 0 0) t k (-1)) 65 (136 * t + q) (nI k)) 66 t (nI (q + 1))) 69 t 0) (by rfl) ?_
            refine zq_pfb hc hH (by rfl) (ci := 6) (f := 59) (by rfl) (by decide +kernel) (by rfl) (by decide) ?_
            show Z 0 255 [(0, .ref 50), (1, .int (nI k)), (2, .int 0)] [] (z_ui (z_ui (z_ui (z_ui (z_giv (z_ui μ 50 0 0) t k (-1)) 65 (136 * t + q) (nI k)) 66 t (nI (q + 1))) 69 t 0) 50 59 0)
            refine z_rcs hc hH 2 (pc' := 257) (lv' := [(0, .ref 50), (1, .int (nI k)), (2, .int 0)]) (st' := [.int 2, .ref 50]) (μ' := z_ui (z_ui (z_ui (z_ui (z_giv (z_ui μ 50 0 0) t k (-1)) 65 (136 * t + q) (nI k)) 66 t (nI (q + 1))) 69 t 0) 50 59 0) (by rfl) ?_
            refine zq_pfi hc hH (by rfl) (ci := 6) (f := 44) (by rfl) (by decide +kernel) (by rfl) ?_
            show Z 0 260 [(0, .ref 50), (1, .int (nI k)), (2, .int 0)] [] (z_ui (z_ui (z_ui (z_ui (z_ui (z_giv (z_ui μ 50 0 0) t k (-1)) 65 (136 * t + q) (nI k)) 66 t (nI (q + 1))) 69 t 0) 50 59 0) 50 44 2)
            refine z_rcs hc hH 2 (pc' := 262) (lv' := [(0, .ref 50), (1, .int (nI k)), (2, .int 0)]) (st' := [.int (nI k), .ref 50]) (μ' := z_ui (z_ui (z_ui (z_ui (z_ui (z_giv (z_ui μ 50 0 0) t k (-1)) 65 (136 * t + q) (nI k)) 66 t (nI (q + 1))) 69 t 0) 50 59 0) 50 44 2) (by rfl) ?_
            refine zq_pfi hc hH (by rfl) (ci := 6) (f := 49) (by rfl) (by decide +kernel) (by rfl) ?_
            show Z 0 265 [(0, .ref 50), (1, .int (nI k)), (2, .int 0)] [] (z_ui (z_ui (z_ui (z_ui (z_ui (z_ui (z_giv (z_ui μ 50 0 0) t k (-1)) 65 (136 * t + q) (nI k)) 66 t (nI (q + 1))) 69 t 0) 50 59 0) 50 44 2) 50 49 (nI k))
            refine z_rcs hc hH 2 (pc' := 267) (lv' := [(0, .ref 50), (1, .int (nI k)), (2, .int 0)]) (st' := [.int 0, .ref 50]) (μ' := z_ui (z_ui (z_ui (z_ui (z_ui (z_ui (z_giv (z_ui μ 50 0 0) t k (-1)) 65 (136 * t + q) (nI k)) 66 t (nI (q + 1))) 69 t 0) 50 59 0) 50 44 2) 50 49 (nI k)) (by rfl) ?_
            refine zq_pfb hc hH (by rfl) (ci := 6) (f := 57) (by rfl) (by decide +kernel) (by rfl) (by decide) ?_
            show Z 0 270 [(0, .ref 50), (1, .int (nI k)), (2, .int 0)] [] (z_ui (z_ui (z_ui (z_ui (z_ui (z_ui (z_ui (z_giv (z_ui μ 50 0 0) t k (-1)) 65 (136 * t + q) (nI k)) 66 t (nI (q + 1))) 69 t 0) 50 59 0) 50 44 2) 50 49 (nI k)) 50 57 0)
            refine z_rcs hc hH 1 (pc' := 271) (lv' := [(0, .ref 50), (1, .int (nI k)), (2, .int 0)]) (st' := [.int 1]) (μ' := z_ui (z_ui (z_ui (z_ui (z_ui (z_ui (z_ui (z_giv (z_ui μ 50 0 0) t k (-1)) 65 (136 * t + q) (nI k)) 66 t (nI (q + 1))) 69 t 0) 50 59 0) 50 44 2) 50 49 (nI k)) 50 57 0) (by rfl) ?_
            exact hr 0 271 _ _ _ (some (.int 1)) (by decide +kernel) (by rfl) (⟨(by first | rfl | simp only [h1, h2, h3, h4, h5, cond_true, cond_false]), (by simp only [h1, h2, h3, h4, h5, cond_true, cond_false])⟩)
          · have h5 : (decide ((nI k) = (μ.1 50 49))) = false := decide_eq_false (cn_eq.mp h5)
            refine z_rcs hc hH 1 (pc' := 82) (lv' := [(0, .ref 50), (1, .int (nI k)), (2, .int 0)]) (st' := [.int 0]) (μ' := z_ui μ 50 0 0) (by rfl) ?_
            exact hr 0 82 _ _ _ (some (.int 0)) (by decide +kernel) (by rfl) (⟨(by first | rfl | simp only [h1, h2, h3, h4, h5, cond_true, cond_false]), (by simp only [h1, h2, h3, h4, h5, cond_true, cond_false])⟩)
      · have h3 : (decide ((μ.1 50 57) = 0)) = false := decide_eq_false (cn_eq.mp h3)
        refine z_rcs hc hH 2 (pc' := 43) (lv' := [(0, .ref 50), (1, .int (nI k)), (2, .int 0)]) (st' := [.ref 50, .int (nI k)]) (μ' := z_ui μ 50 0 0) (by rfl) ?_
        refine zq_gfi hc hH (by rfl) (ci := 6) (f := 50) (by rfl) (by decide +kernel) (by rfl) ?_
        rw [ui_k (by omega)]
        refine zq_ic hc hH (by rfl) (tg := 81) (by rfl) (fun h6 => ?_) (fun h6 => ?_)
        · have h6 : (decide ((nI k) = (μ.1 50 50))) = true := decide_eq_true (cm_eq9.mp h6)
          refine z_rcs hc hH 1 (pc' := 82) (lv' := [(0, .ref 50), (1, .int (nI k)), (2, .int 0)]) (st' := [.int 0]) (μ' := z_ui μ 50 0 0) (by rfl) ?_
          exact hr 0 82 _ _ _ (some (.int 0)) (by decide +kernel) (by rfl) (⟨(by first | rfl | simp only [h1, h2, h3, h6, cond_true, cond_false]), (by simp only [h1, h2, h3, h6, cond_true, cond_false])⟩)
        · have h6 : (decide ((nI k) = (μ.1 50 50))) = false := decide_eq_false (cn_eq.mp h6)
          refine z_rcs hc hH 2 (pc' := 51) (lv' := [(0, .ref 50), (1, .int (nI k)), (2, .int 0)]) (st' := [.ref 50, .int (nI k)]) (μ' := z_ui μ 50 0 0) (by rfl) ?_
          refine zq_gfi hc hH (by rfl) (ci := 6) (f := 51) (by rfl) (by decide +kernel) (by rfl) ?_
          rw [ui_k (by omega)]
          refine zq_ic hc hH (by rfl) (tg := 81) (by rfl) (fun h7 => ?_) (fun h7 => ?_)
          · have h7 : (decide ((nI k) = (μ.1 50 51))) = true := decide_eq_true (cm_eq9.mp h7)
            refine z_rcs hc hH 1 (pc' := 82) (lv' := [(0, .ref 50), (1, .int (nI k)), (2, .int 0)]) (st' := [.int 0]) (μ' := z_ui μ 50 0 0) (by rfl) ?_
            exact hr 0 82 _ _ _ (some (.int 0)) (by decide +kernel) (by rfl) (⟨(by first | rfl | simp only [h1, h2, h3, h6, h7, cond_true, cond_false]), (by simp only [h1, h2, h3, h6, h7, cond_true, cond_false])⟩)
          · have h7 : (decide ((nI k) = (μ.1 50 51))) = false := decide_eq_false (cn_eq.mp h7)
            refine z_rcs hc hH 1 (pc' := 58) (lv' := [(0, .ref 50), (1, .int (nI k)), (2, .int 0)]) (st' := [.ref 50]) (μ' := z_ui μ 50 0 0) (by rfl) ?_
            refine zq_gfr hc hH (by rfl) (ci := 6) (f := 35) (q := 67) (by rfl) (by decide +kernel) (by rfl) (by decide +kernel) ?_
            refine z_rcs hc hH 1 (pc' := 62) (lv' := [(0, .ref 50), (1, .int (nI k)), (2, .int 0)]) (st' := [.ref 50, .ref 67]) (μ' := z_ui μ 50 0 0) (by rfl) ?_
            refine zq_gfi hc hH (by rfl) (ci := 6) (f := 45) (by rfl) (by decide +kernel) (by rfl) ?_
            rw [ui_k (by omega)]
            rw [ht]
            refine zq_iald hc hH (by rfl) 4 (oka_i (by decide +kernel)) (vp_in_nI (by omega) (by decide)) ?_
            rw [nI_clamp (by omega)]
            rw [ui_o (by omega)]
            refine zq_if hc hH (by rfl) (tg := 83) (by rfl) (fun h8 => ?_) (fun h8 => ?_)
            · have h8 : (decide ((μ.1 67 t) ≤ 0)) = true := decide_eq_true (cm_le.mp h8)
              refine z_rcs hc hH 4 (pc' := 195) (lv' := [(0, .ref 50), (1, .int (nI k)), (2, .int 0)]) (st' := [.ref 50, .ref 50]) (μ' := z_ui μ 50 0 0) (by rfl) ?_
              refine zq_gfi hc hH (by rfl) (ci := 6) (f := 45) (by rfl) (by decide +kernel) (by rfl) ?_
              rw [ui_k (by omega)]
              rw [ht]
              refine z_rcs hc hH 2 (pc' := 200) (lv' := [(0, .ref 50), (1, .int (nI k)), (2, .int 0)]) (st' := [.int (-1), .int (nI k), .int (nI t), .ref 50]) (μ' := z_ui μ 50 0 0) (by rfl) ?_
              refine zq_call hc (by rfl) (fc_X7_gives d' (by omega) (z_ui μ 50 0 0) t k (-1) ht4 hk) (by decide +kernel) (fun r9 μ9 hq => ?_)
              obtain ⟨rfl, rfl⟩ := hq
              show Z 0 203 [(0, .ref 50), (1, .int (nI k)), (2, .int 0)] [] (z_giv (z_ui μ 50 0 0) t k (-1))
              refine z_rcs hc hH 1 (pc' := 204) (lv' := [(0, .ref 50), (1, .int (nI k)), (2, .int 0)]) (st' := [.ref 50]) (μ' := z_giv (z_ui μ 50 0 0) t k (-1)) (by rfl) ?_
              refine zq_gfr hc hH (by rfl) (ci := 6) (f := 33) (q := 65) (by rfl) (by decide +kernel) (by rfl) (by decide +kernel) ?_
              refine z_rcs hc hH 2 (pc' := 211) (lv' := [(0, .ref 50), (1, .int (nI k)), (2, .int 0)]) (st' := [.ref 50, .int 136, .ref 65]) (μ' := z_giv (z_ui μ 50 0 0) t k (-1)) (by rfl) ?_
              refine zq_gfi hc hH (by rfl) (ci := 6) (f := 45) (by rfl) (by decide +kernel) (by rfl) ?_
              rw [giv_o (by omega), ui_k (by omega)]
              rw [ht]
              refine z_rcs hc hH 2 (pc' := 216) (lv' := [(0, .ref 50), (1, .int (nI k)), (2, .int 0)]) (st' := [.ref 50, .int (136 * (nI t)), .ref 65]) (μ' := z_giv (z_ui μ 50 0 0) t k (-1)) (by rfl) ?_
              refine zq_gfr hc hH (by rfl) (ci := 6) (f := 34) (q := 66) (by rfl) (by decide +kernel) (by rfl) (by decide +kernel) ?_
              refine z_rcs hc hH 1 (pc' := 220) (lv' := [(0, .ref 50), (1, .int (nI k)), (2, .int 0)]) (st' := [.ref 50, .ref 66, .int (136 * (nI t)), .ref 65]) (μ' := z_giv (z_ui μ 50 0 0) t k (-1)) (by rfl) ?_
              refine zq_gfi hc hH (by rfl) (ci := 6) (f := 45) (by rfl) (by decide +kernel) (by rfl) ?_
              rw [giv_o (by omega), ui_k (by omega)]
              rw [ht]
              refine zq_iald hc hH (by rfl) 4 (oka_i (by decide +kernel)) (vp_in_nI (by omega) (by decide)) ?_
              rw [nI_clamp (by omega)]
              rw [giv_o (by omega), ui_o (by omega)]
              rw [e66]
              refine z_rcs hc hH 1 (pc' := 225) (lv' := [(0, .ref 50), (1, .int (nI k)), (2, .int 0)]) (st' := [.int ((136 * (nI t)) + (nI q)), .ref 65]) (μ' := z_giv (z_ui μ 50 0 0) t k (-1)) (by rfl) ?_
              rw [nI_136]
              refine z_rcs hc hH 1 (pc' := 226) (lv' := [(0, .ref 50), (1, .int (nI k)), (2, .int 0)]) (st' := [.int (nI k), .int (nI (136 * t + q)), .ref 65]) (μ' := z_giv (z_ui μ 50 0 0) t k (-1)) (by rfl) ?_
              refine zq_iast hc hH (by rfl) 544 (oka_i (by decide +kernel)).2 (vp_in_nI (by omega) (by decide)) ?_
              rw [nI_clamp (by omega)]
              show Z 0 227 [(0, .ref 50), (1, .int (nI k)), (2, .int 0)] [] (z_ui (z_giv (z_ui μ 50 0 0) t k (-1)) 65 (136 * t + q) (nI k))
              refine z_rcs hc hH 1 (pc' := 228) (lv' := [(0, .ref 50), (1, .int (nI k)), (2, .int 0)]) (st' := [.ref 50]) (μ' := z_ui (z_giv (z_ui μ 50 0 0) t k (-1)) 65 (136 * t + q) (nI k)) (by rfl) ?_
              refine zq_gfr hc hH (by rfl) (ci := 6) (f := 34) (q := 66) (by rfl) (by decide +kernel) (by rfl) (by decide +kernel) ?_
              refine z_rcs hc hH 1 (pc' := 232) (lv' := [(0, .ref 50), (1, .int (nI k)), (2, .int 0)]) (st' := [.ref 50, .ref 66]) (μ' := z_ui (z_giv (z_ui μ 50 0 0) t k (-1)) 65 (136 * t + q) (nI k)) (by rfl) ?_
              refine zq_gfi hc hH (by rfl) (ci := 6) (f := 45) (by rfl) (by decide +kernel) (by rfl) ?_
              rw [ui_o (by omega), giv_o (by omega), ui_k (by omega)]
              rw [ht]
              refine z_rcs hc hH 1 (pc' := 236) (lv' := [(0, .ref 50), (1, .int (nI k)), (2, .int 0)]) (st' := [.int (nI t), .ref 66, .int (nI t), .ref 66]) (μ' := z_ui (z_giv (z_ui μ 50 0 0) t k (-1)) 65 (136 * t + q) (nI k)) (by rfl) ?_
              refine zq_iald hc hH (by rfl) 4 (oka_i (by decide +kernel)) (vp_in_nI (by omega) (by decide)) ?_
              rw [nI_clamp (by omega)]
              rw [ui_o (by omega), giv_o (by omega), ui_o (by omega)]
              rw [e66]
              refine z_rcs hc hH 2 (pc' := 239) (lv' := [(0, .ref 50), (1, .int (nI k)), (2, .int 0)]) (st' := [.int ((nI q) + 1), .int (nI t), .ref 66]) (μ' := z_ui (z_giv (z_ui μ 50 0 0) t k (-1)) 65 (136 * t + q) (nI k)) (by rfl) ?_
              rw [nI_s1]
              refine zq_iast hc hH (by rfl) 4 (oka_i (by decide +kernel)).2 (vp_in_nI (by omega) (by decide)) ?_
              rw [nI_clamp (by omega)]
              show Z 0 240 [(0, .ref 50), (1, .int (nI k)), (2, .int 0)] [] (z_ui (z_ui (z_giv (z_ui μ 50 0 0) t k (-1)) 65 (136 * t + q) (nI k)) 66 t (nI (q + 1)))
              refine z_rcs hc hH 1 (pc' := 241) (lv' := [(0, .ref 50), (1, .int (nI k)), (2, .int 0)]) (st' := [.ref 50]) (μ' := z_ui (z_ui (z_giv (z_ui μ 50 0 0) t k (-1)) 65 (136 * t + q) (nI k)) 66 t (nI (q + 1))) (by rfl) ?_
              refine zq_gfr hc hH (by rfl) (ci := 6) (f := 37) (q := 69) (by rfl) (by decide +kernel) (by rfl) (by decide +kernel) ?_
              refine z_rcs hc hH 1 (pc' := 245) (lv' := [(0, .ref 50), (1, .int (nI k)), (2, .int 0)]) (st' := [.ref 50, .ref 69]) (μ' := z_ui (z_ui (z_giv (z_ui μ 50 0 0) t k (-1)) 65 (136 * t + q) (nI k)) 66 t (nI (q + 1))) (by rfl) ?_
              refine zq_gfi hc hH (by rfl) (ci := 6) (f := 45) (by rfl) (by decide +kernel) (by rfl) ?_
              rw [ui_o (by omega), ui_o (by omega), giv_o (by omega), ui_k (by omega)]
              rw [ht]
              refine z_rcs hc hH 1 (pc' := 249) (lv' := [(0, .ref 50), (1, .int (nI k)), (2, .int 0)]) (st' := [.int 0, .int (nI t), .ref 69]) (μ' := z_ui (z_ui (z_giv (z_ui μ 50 0 0) t k (-1)) 65 (136 * t + q) (nI k)) 66 t (nI (q + 1))) (by rfl) ?_
              refine zq_bast hc hH (by rfl) 4 (by decide +kernel) (vp_in_nI (by omega) (by decide)) (by decide) ?_
              rw [nI_clamp (by omega)]
              show Z 0 250 [(0, .ref 50), (1, .int (nI k)), (2, .int 0)] [] (z_ui (z_ui (z_ui (z_giv (z_ui μ 50 0 0) t k (-1)) 65 (136 * t + q) (nI k)) 66 t (nI (q + 1))) 69 t 0)
              refine z_rcs hc hH 2 (pc' := 252) (lv' := [(0, .ref 50), (1, .int (nI k)), (2, .int 0)]) (st' := [.int 0, .ref 50]) (μ' := z_ui (z_ui (z_ui (z_giv (z_ui μ 50 0 0) t k (-1)) 65 (136 * t + q) (nI k)) 66 t (nI (q + 1))) 69 t 0) (by rfl) ?_
              refine zq_pfb hc hH (by rfl) (ci := 6) (f := 59) (by rfl) (by decide +kernel) (by rfl) (by decide) ?_
              show Z 0 255 [(0, .ref 50), (1, .int (nI k)), (2, .int 0)] [] (z_ui (z_ui (z_ui (z_ui (z_giv (z_ui μ 50 0 0) t k (-1)) 65 (136 * t + q) (nI k)) 66 t (nI (q + 1))) 69 t 0) 50 59 0)
              refine z_rcs hc hH 2 (pc' := 257) (lv' := [(0, .ref 50), (1, .int (nI k)), (2, .int 0)]) (st' := [.int 2, .ref 50]) (μ' := z_ui (z_ui (z_ui (z_ui (z_giv (z_ui μ 50 0 0) t k (-1)) 65 (136 * t + q) (nI k)) 66 t (nI (q + 1))) 69 t 0) 50 59 0) (by rfl) ?_
              refine zq_pfi hc hH (by rfl) (ci := 6) (f := 44) (by rfl) (by decide +kernel) (by rfl) ?_
              show Z 0 260 [(0, .ref 50), (1, .int (nI k)), (2, .int 0)] [] (z_ui (z_ui (z_ui (z_ui (z_ui (z_giv (z_ui μ 50 0 0) t k (-1)) 65 (136 * t + q) (nI k)) 66 t (nI (q + 1))) 69 t 0) 50 59 0) 50 44 2)
              refine z_rcs hc hH 2 (pc' := 262) (lv' := [(0, .ref 50), (1, .int (nI k)), (2, .int 0)]) (st' := [.int (nI k), .ref 50]) (μ' := z_ui (z_ui (z_ui (z_ui (z_ui (z_giv (z_ui μ 50 0 0) t k (-1)) 65 (136 * t + q) (nI k)) 66 t (nI (q + 1))) 69 t 0) 50 59 0) 50 44 2) (by rfl) ?_
              refine zq_pfi hc hH (by rfl) (ci := 6) (f := 49) (by rfl) (by decide +kernel) (by rfl) ?_
              show Z 0 265 [(0, .ref 50), (1, .int (nI k)), (2, .int 0)] [] (z_ui (z_ui (z_ui (z_ui (z_ui (z_ui (z_giv (z_ui μ 50 0 0) t k (-1)) 65 (136 * t + q) (nI k)) 66 t (nI (q + 1))) 69 t 0) 50 59 0) 50 44 2) 50 49 (nI k))
              refine z_rcs hc hH 2 (pc' := 267) (lv' := [(0, .ref 50), (1, .int (nI k)), (2, .int 0)]) (st' := [.int 0, .ref 50]) (μ' := z_ui (z_ui (z_ui (z_ui (z_ui (z_ui (z_giv (z_ui μ 50 0 0) t k (-1)) 65 (136 * t + q) (nI k)) 66 t (nI (q + 1))) 69 t 0) 50 59 0) 50 44 2) 50 49 (nI k)) (by rfl) ?_
              refine zq_pfb hc hH (by rfl) (ci := 6) (f := 57) (by rfl) (by decide +kernel) (by rfl) (by decide) ?_
              show Z 0 270 [(0, .ref 50), (1, .int (nI k)), (2, .int 0)] [] (z_ui (z_ui (z_ui (z_ui (z_ui (z_ui (z_ui (z_giv (z_ui μ 50 0 0) t k (-1)) 65 (136 * t + q) (nI k)) 66 t (nI (q + 1))) 69 t 0) 50 59 0) 50 44 2) 50 49 (nI k)) 50 57 0)
              refine z_rcs hc hH 1 (pc' := 271) (lv' := [(0, .ref 50), (1, .int (nI k)), (2, .int 0)]) (st' := [.int 1]) (μ' := z_ui (z_ui (z_ui (z_ui (z_ui (z_ui (z_ui (z_giv (z_ui μ 50 0 0) t k (-1)) 65 (136 * t + q) (nI k)) 66 t (nI (q + 1))) 69 t 0) 50 59 0) 50 44 2) 50 49 (nI k)) 50 57 0) (by rfl) ?_
              exact hr 0 271 _ _ _ (some (.int 1)) (by decide +kernel) (by rfl) (⟨(by first | rfl | simp only [h1, h2, h3, h6, h7, h8, cond_true, cond_false]), (by simp only [h1, h2, h3, h6, h7, h8, cond_true, cond_false])⟩)
            · have h8 : (decide ((μ.1 67 t) ≤ 0)) = false := decide_eq_false (cn_le.mp h8)
              refine z_rcs hc hH 4 (pc' := 75) (lv' := [(0, .ref 50), (1, .int (nI k)), (2, .int 0)]) (st' := [.ref 50, .int (nI k)]) (μ' := z_ui μ 50 0 0) (by rfl) ?_
              refine zq_gfi hc hH (by rfl) (ci := 6) (f := 49) (by rfl) (by decide +kernel) (by rfl) ?_
              rw [ui_k (by omega)]
              refine zq_ic hc hH (by rfl) (tg := 83) (by rfl) (fun h9 => ?_) (fun h9 => ?_)
              · have h9 : (decide ((nI k) = (μ.1 50 49))) = true := decide_eq_true (cm_eq9.mp h9)
                refine z_rcs hc hH 4 (pc' := 195) (lv' := [(0, .ref 50), (1, .int (nI k)), (2, .int 0)]) (st' := [.ref 50, .ref 50]) (μ' := z_ui μ 50 0 0) (by rfl) ?_
                refine zq_gfi hc hH (by rfl) (ci := 6) (f := 45) (by rfl) (by decide +kernel) (by rfl) ?_
                rw [ui_k (by omega)]
                rw [ht]
                refine z_rcs hc hH 2 (pc' := 200) (lv' := [(0, .ref 50), (1, .int (nI k)), (2, .int 0)]) (st' := [.int (-1), .int (nI k), .int (nI t), .ref 50]) (μ' := z_ui μ 50 0 0) (by rfl) ?_
                refine zq_call hc (by rfl) (fc_X7_gives d' (by omega) (z_ui μ 50 0 0) t k (-1) ht4 hk) (by decide +kernel) (fun r9 μ9 hq => ?_)
                obtain ⟨rfl, rfl⟩ := hq
                show Z 0 203 [(0, .ref 50), (1, .int (nI k)), (2, .int 0)] [] (z_giv (z_ui μ 50 0 0) t k (-1))
                refine z_rcs hc hH 1 (pc' := 204) (lv' := [(0, .ref 50), (1, .int (nI k)), (2, .int 0)]) (st' := [.ref 50]) (μ' := z_giv (z_ui μ 50 0 0) t k (-1)) (by rfl) ?_
                refine zq_gfr hc hH (by rfl) (ci := 6) (f := 33) (q := 65) (by rfl) (by decide +kernel) (by rfl) (by decide +kernel) ?_
                refine z_rcs hc hH 2 (pc' := 211) (lv' := [(0, .ref 50), (1, .int (nI k)), (2, .int 0)]) (st' := [.ref 50, .int 136, .ref 65]) (μ' := z_giv (z_ui μ 50 0 0) t k (-1)) (by rfl) ?_
                refine zq_gfi hc hH (by rfl) (ci := 6) (f := 45) (by rfl) (by decide +kernel) (by rfl) ?_
                rw [giv_o (by omega), ui_k (by omega)]
                rw [ht]
                refine z_rcs hc hH 2 (pc' := 216) (lv' := [(0, .ref 50), (1, .int (nI k)), (2, .int 0)]) (st' := [.ref 50, .int (136 * (nI t)), .ref 65]) (μ' := z_giv (z_ui μ 50 0 0) t k (-1)) (by rfl) ?_
                refine zq_gfr hc hH (by rfl) (ci := 6) (f := 34) (q := 66) (by rfl) (by decide +kernel) (by rfl) (by decide +kernel) ?_
                refine z_rcs hc hH 1 (pc' := 220) (lv' := [(0, .ref 50), (1, .int (nI k)), (2, .int 0)]) (st' := [.ref 50, .ref 66, .int (136 * (nI t)), .ref 65]) (μ' := z_giv (z_ui μ 50 0 0) t k (-1)) (by rfl) ?_
                refine zq_gfi hc hH (by rfl) (ci := 6) (f := 45) (by rfl) (by decide +kernel) (by rfl) ?_
                rw [giv_o (by omega), ui_k (by omega)]
                rw [ht]
                refine zq_iald hc hH (by rfl) 4 (oka_i (by decide +kernel)) (vp_in_nI (by omega) (by decide)) ?_
                rw [nI_clamp (by omega)]
                rw [giv_o (by omega), ui_o (by omega)]
                rw [e66]
                refine z_rcs hc hH 1 (pc' := 225) (lv' := [(0, .ref 50), (1, .int (nI k)), (2, .int 0)]) (st' := [.int ((136 * (nI t)) + (nI q)), .ref 65]) (μ' := z_giv (z_ui μ 50 0 0) t k (-1)) (by rfl) ?_
                rw [nI_136]
                refine z_rcs hc hH 1 (pc' := 226) (lv' := [(0, .ref 50), (1, .int (nI k)), (2, .int 0)]) (st' := [.int (nI k), .int (nI (136 * t + q)), .ref 65]) (μ' := z_giv (z_ui μ 50 0 0) t k (-1)) (by rfl) ?_
                refine zq_iast hc hH (by rfl) 544 (oka_i (by decide +kernel)).2 (vp_in_nI (by omega) (by decide)) ?_
                rw [nI_clamp (by omega)]
                show Z 0 227 [(0, .ref 50), (1, .int (nI k)), (2, .int 0)] [] (z_ui (z_giv (z_ui μ 50 0 0) t k (-1)) 65 (136 * t + q) (nI k))
                refine z_rcs hc hH 1 (pc' := 228) (lv' := [(0, .ref 50), (1, .int (nI k)), (2, .int 0)]) (st' := [.ref 50]) (μ' := z_ui (z_giv (z_ui μ 50 0 0) t k (-1)) 65 (136 * t + q) (nI k)) (by rfl) ?_
                refine zq_gfr hc hH (by rfl) (ci := 6) (f := 34) (q := 66) (by rfl) (by decide +kernel) (by rfl) (by decide +kernel) ?_
                refine z_rcs hc hH 1 (pc' := 232) (lv' := [(0, .ref 50), (1, .int (nI k)), (2, .int 0)]) (st' := [.ref 50, .ref 66]) (μ' := z_ui (z_giv (z_ui μ 50 0 0) t k (-1)) 65 (136 * t + q) (nI k)) (by rfl) ?_
                refine zq_gfi hc hH (by rfl) (ci := 6) (f := 45) (by rfl) (by decide +kernel) (by rfl) ?_
                rw [ui_o (by omega), giv_o (by omega), ui_k (by omega)]
                rw [ht]
                refine z_rcs hc hH 1 (pc' := 236) (lv' := [(0, .ref 50), (1, .int (nI k)), (2, .int 0)]) (st' := [.int (nI t), .ref 66, .int (nI t), .ref 66]) (μ' := z_ui (z_giv (z_ui μ 50 0 0) t k (-1)) 65 (136 * t + q) (nI k)) (by rfl) ?_
                refine zq_iald hc hH (by rfl) 4 (oka_i (by decide +kernel)) (vp_in_nI (by omega) (by decide)) ?_
                rw [nI_clamp (by omega)]
                rw [ui_o (by omega), giv_o (by omega), ui_o (by omega)]
                rw [e66]
                refine z_rcs hc hH 2 (pc' := 239) (lv' := [(0, .ref 50), (1, .int (nI k)), (2, .int 0)]) (st' := [.int ((nI q) + 1), .int (nI t), .ref 66]) (μ' := z_ui (z_giv (z_ui μ 50 0 0) t k (-1)) 65 (136 * t + q) (nI k)) (by rfl) ?_
                rw [nI_s1]
                refine zq_iast hc hH (by rfl) 4 (oka_i (by decide +kernel)).2 (vp_in_nI (by omega) (by decide)) ?_
                rw [nI_clamp (by omega)]
                show Z 0 240 [(0, .ref 50), (1, .int (nI k)), (2, .int 0)] [] (z_ui (z_ui (z_giv (z_ui μ 50 0 0) t k (-1)) 65 (136 * t + q) (nI k)) 66 t (nI (q + 1)))
                refine z_rcs hc hH 1 (pc' := 241) (lv' := [(0, .ref 50), (1, .int (nI k)), (2, .int 0)]) (st' := [.ref 50]) (μ' := z_ui (z_ui (z_giv (z_ui μ 50 0 0) t k (-1)) 65 (136 * t + q) (nI k)) 66 t (nI (q + 1))) (by rfl) ?_
                refine zq_gfr hc hH (by rfl) (ci := 6) (f := 37) (q := 69) (by rfl) (by decide +kernel) (by rfl) (by decide +kernel) ?_
                refine z_rcs hc hH 1 (pc' := 245) (lv' := [(0, .ref 50), (1, .int (nI k)), (2, .int 0)]) (st' := [.ref 50, .ref 69]) (μ' := z_ui (z_ui (z_giv (z_ui μ 50 0 0) t k (-1)) 65 (136 * t + q) (nI k)) 66 t (nI (q + 1))) (by rfl) ?_
                refine zq_gfi hc hH (by rfl) (ci := 6) (f := 45) (by rfl) (by decide +kernel) (by rfl) ?_
                rw [ui_o (by omega), ui_o (by omega), giv_o (by omega), ui_k (by omega)]
                rw [ht]
                refine z_rcs hc hH 1 (pc' := 249) (lv' := [(0, .ref 50), (1, .int (nI k)), (2, .int 0)]) (st' := [.int 0, .int (nI t), .ref 69]) (μ' := z_ui (z_ui (z_giv (z_ui μ 50 0 0) t k (-1)) 65 (136 * t + q) (nI k)) 66 t (nI (q + 1))) (by rfl) ?_
                refine zq_bast hc hH (by rfl) 4 (by decide +kernel) (vp_in_nI (by omega) (by decide)) (by decide) ?_
                rw [nI_clamp (by omega)]
                show Z 0 250 [(0, .ref 50), (1, .int (nI k)), (2, .int 0)] [] (z_ui (z_ui (z_ui (z_giv (z_ui μ 50 0 0) t k (-1)) 65 (136 * t + q) (nI k)) 66 t (nI (q + 1))) 69 t 0)
                refine z_rcs hc hH 2 (pc' := 252) (lv' := [(0, .ref 50), (1, .int (nI k)), (2, .int 0)]) (st' := [.int 0, .ref 50]) (μ' := z_ui (z_ui (z_ui (z_giv (z_ui μ 50 0 0) t k (-1)) 65 (136 * t + q) (nI k)) 66 t (nI (q + 1))) 69 t 0) (by rfl) ?_
                refine zq_pfb hc hH (by rfl) (ci := 6) (f := 59) (by rfl) (by decide +kernel) (by rfl) (by decide) ?_
                show Z 0 255 [(0, .ref 50), (1, .int (nI k)), (2, .int 0)] [] (z_ui (z_ui (z_ui (z_ui (z_giv (z_ui μ 50 0 0) t k (-1)) 65 (136 * t + q) (nI k)) 66 t (nI (q + 1))) 69 t 0) 50 59 0)
                refine z_rcs hc hH 2 (pc' := 257) (lv' := [(0, .ref 50), (1, .int (nI k)), (2, .int 0)]) (st' := [.int 2, .ref 50]) (μ' := z_ui (z_ui (z_ui (z_ui (z_giv (z_ui μ 50 0 0) t k (-1)) 65 (136 * t + q) (nI k)) 66 t (nI (q + 1))) 69 t 0) 50 59 0) (by rfl) ?_
                refine zq_pfi hc hH (by rfl) (ci := 6) (f := 44) (by rfl) (by decide +kernel) (by rfl) ?_
                show Z 0 260 [(0, .ref 50), (1, .int (nI k)), (2, .int 0)] [] (z_ui (z_ui (z_ui (z_ui (z_ui (z_giv (z_ui μ 50 0 0) t k (-1)) 65 (136 * t + q) (nI k)) 66 t (nI (q + 1))) 69 t 0) 50 59 0) 50 44 2)
                refine z_rcs hc hH 2 (pc' := 262) (lv' := [(0, .ref 50), (1, .int (nI k)), (2, .int 0)]) (st' := [.int (nI k), .ref 50]) (μ' := z_ui (z_ui (z_ui (z_ui (z_ui (z_giv (z_ui μ 50 0 0) t k (-1)) 65 (136 * t + q) (nI k)) 66 t (nI (q + 1))) 69 t 0) 50 59 0) 50 44 2) (by rfl) ?_
                refine zq_pfi hc hH (by rfl) (ci := 6) (f := 49) (by rfl) (by decide +kernel) (by rfl) ?_
                show Z 0 265 [(0, .ref 50), (1, .int (nI k)), (2, .int 0)] [] (z_ui (z_ui (z_ui (z_ui (z_ui (z_ui (z_giv (z_ui μ 50 0 0) t k (-1)) 65 (136 * t + q) (nI k)) 66 t (nI (q + 1))) 69 t 0) 50 59 0) 50 44 2) 50 49 (nI k))
                refine z_rcs hc hH 2 (pc' := 267) (lv' := [(0, .ref 50), (1, .int (nI k)), (2, .int 0)]) (st' := [.int 0, .ref 50]) (μ' := z_ui (z_ui (z_ui (z_ui (z_ui (z_ui (z_giv (z_ui μ 50 0 0) t k (-1)) 65 (136 * t + q) (nI k)) 66 t (nI (q + 1))) 69 t 0) 50 59 0) 50 44 2) 50 49 (nI k)) (by rfl) ?_
                refine zq_pfb hc hH (by rfl) (ci := 6) (f := 57) (by rfl) (by decide +kernel) (by rfl) (by decide) ?_
                show Z 0 270 [(0, .ref 50), (1, .int (nI k)), (2, .int 0)] [] (z_ui (z_ui (z_ui (z_ui (z_ui (z_ui (z_ui (z_giv (z_ui μ 50 0 0) t k (-1)) 65 (136 * t + q) (nI k)) 66 t (nI (q + 1))) 69 t 0) 50 59 0) 50 44 2) 50 49 (nI k)) 50 57 0)
                refine z_rcs hc hH 1 (pc' := 271) (lv' := [(0, .ref 50), (1, .int (nI k)), (2, .int 0)]) (st' := [.int 1]) (μ' := z_ui (z_ui (z_ui (z_ui (z_ui (z_ui (z_ui (z_giv (z_ui μ 50 0 0) t k (-1)) 65 (136 * t + q) (nI k)) 66 t (nI (q + 1))) 69 t 0) 50 59 0) 50 44 2) 50 49 (nI k)) 50 57 0) (by rfl) ?_
                exact hr 0 271 _ _ _ (some (.int 1)) (by decide +kernel) (by rfl) (⟨(by first | rfl | simp only [h1, h2, h3, h6, h7, h8, h9, cond_true, cond_false]), (by simp only [h1, h2, h3, h6, h7, h8, h9, cond_true, cond_false])⟩)
              · have h9 : (decide ((nI k) = (μ.1 50 49))) = false := decide_eq_false (cn_eq.mp h9)
                refine z_rcs hc hH 1 (pc' := 82) (lv' := [(0, .ref 50), (1, .int (nI k)), (2, .int 0)]) (st' := [.int 0]) (μ' := z_ui μ 50 0 0) (by rfl) ?_
                exact hr 0 82 _ _ _ (some (.int 0)) (by decide +kernel) (by rfl) (⟨(by first | rfl | simp only [h1, h2, h3, h6, h7, h8, h9, cond_true, cond_false]), (by simp only [h1, h2, h3, h6, h7, h8, h9, cond_true, cond_false])⟩)
    · have h2 : (decide ((μ.1 60 (34 * t + k)) = 0)) = true := decide_eq_true (cn_ne.mp h2)
      refine z_rcs hc hH 1 (pc' := 33) (lv' := [(0, .ref 50), (1, .int (nI k)), (2, .int 0)]) (st' := [.int 0]) (μ' := z_ui μ 50 0 0) (by rfl) ?_
      exact hr 0 33 _ _ _ (some (.int 0)) (by decide +kernel) (by rfl) (⟨(by first | rfl | simp only [h1, h2, cond_true, cond_false]), (by simp only [h1, h2, cond_true, cond_false])⟩)

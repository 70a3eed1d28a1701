/-! the game: draws of the reference -/
set_option maxRecDepth 8000
theorem giv_o {μ : zM} {a c r k : Nat} {n : Int32} (h : r ≠ 60) : (z_giv μ a c n).1 r k = μ.1 r k := by
  unfold z_giv; exact ui_o h
theorem giv_j {μ : zM} {a c r k : Nat} {n : Int32} : (z_giv μ a c n).2.1 r k = μ.2.1 r k := rfl
def dM0 (μ : zM) (s n k : Nat) : zM := (bif decide ((μ.1 67 s) = 0) then z_ui (z_ui (z_ui (z_ui (z_ui (z_ui (z_ui (z_ui (z_giv (z_ui (z_ui μ 50 46 (nI (n + 1))) 50 49 (nI k)) s k 1) 68 s ((μ.1 68 s) + 1)) 70 s 0) 50 45 (nI s)) 50 44 1) 50 57 0) 50 58 0) 50 50 (-1)) 50 51 (-1) else z_ui (z_ui (z_ui (z_ui (z_ui (z_ui (z_ui (z_giv (z_ui (z_ui μ 50 46 (nI (n + 1))) 50 49 (nI k)) s k 1) 68 s ((μ.1 68 s) + 1)) 50 45 (nI s)) 50 44 1) 50 57 0) 50 58 0) 50 50 (-1)) 50 51 (-1))
theorem gm_draws0 (d : Nat) (hd : 3 ≤ d) (μ : zM) (s n k : Nat) (hs4 : s < 4) (hn2 : n < 136) (hn : μ.1 50 46 = nI n) (hk : k < 34) (hkk : μ.1 59 (n) = nI k) : z_C d mi_X7_draws [.ref 50, .int (nI s), .int 0] μ (fun r μ' => r = none ∧ μ' = dM0 μ s n k) := by
  refine z_C_in (by decide) (by omega) (fun d' Z ed hc hr => ?_)
  have hH : zH mi_X7_draws zc_X7_draws 79 7 4 := ⟨by rfl, by rfl, by rfl, by rfl⟩
  refine z_rcs hc hH 3 (pc' := 15) (lv' := [(0, .ref 50), (1, .int (nI s)), (2, .int 0)]) (st' := [.ref 50]) (μ' := μ) (by rfl) ?_
  refine zq_gfi hc hH (by rfl) (ci := 6) (f := 46) (by rfl) (by decide +kernel) (by rfl) ?_
  rw [hn]
  refine z_rcs hc hH 5 (pc' := 38) (lv' := [(3, .int (nI n)), (0, .ref 50), (1, .int (nI s)), (2, .int 0)]) (st' := [.ref 50, .ref 50]) (μ' := μ) (by rfl) ?_
  refine zq_gfi hc hH (by rfl) (ci := 6) (f := 46) (by rfl) (by decide +kernel) (by rfl) ?_
  rw [hn]
  refine z_rcs hc hH 2 (pc' := 43) (lv' := [(3, .int (nI n)), (0, .ref 50), (1, .int (nI s)), (2, .int 0)]) (st' := [.int ((nI n) + 1), .ref 50]) (μ' := μ) (by rfl) ?_
  rw [nI_s1]
  refine zq_pfi hc hH (by rfl) (ci := 6) (f := 46) (by rfl) (by decide +kernel) (by rfl) ?_
  show Z 0 46 [(3, .int (nI n)), (0, .ref 50), (1, .int (nI s)), (2, .int 0)] [] (z_ui μ 50 46 (nI (n + 1)))
  refine z_rcs hc hH 2 (pc' := 48) (lv' := [(3, .int (nI n)), (0, .ref 50), (1, .int (nI s)), (2, .int 0)]) (st' := [.ref 50, .ref 50]) (μ' := z_ui μ 50 46 (nI (n + 1))) (by rfl) ?_
  refine zq_gfr hc hH (by rfl) (ci := 6) (f := 27) (q := 59) (by rfl) (by decide +kernel) (by rfl) (by decide +kernel) ?_
  refine z_rcs hc hH 1 (pc' := 52) (lv' := [(3, .int (nI n)), (0, .ref 50), (1, .int (nI s)), (2, .int 0)]) (st' := [.int (nI n), .ref 59, .ref 50]) (μ' := z_ui μ 50 46 (nI (n + 1))) (by rfl) ?_
  refine zq_iald hc hH (by rfl) 136 (oka_i (by decide +kernel)) (vp_in_nI (by omega) (by decide)) ?_
  rw [nI_clamp (by omega)]
  rw [ui_o (by omega)]
  rw [hkk]
  refine zq_pfi hc hH (by rfl) (ci := 6) (f := 49) (by rfl) (by decide +kernel) (by rfl) ?_
  show Z 0 56 [(3, .int (nI n)), (0, .ref 50), (1, .int (nI s)), (2, .int 0)] [] (z_ui (z_ui μ 50 46 (nI (n + 1))) 50 49 (nI k))
  refine z_rcs hc hH 3 (pc' := 59) (lv' := [(3, .int (nI n)), (0, .ref 50), (1, .int (nI s)), (2, .int 0)]) (st' := [.ref 50, .int (nI s), .ref 50]) (μ' := z_ui (z_ui μ 50 46 (nI (n + 1))) 50 49 (nI k)) (by rfl) ?_
  refine zq_gfi hc hH (by rfl) (ci := 6) (f := 49) (by rfl) (by decide +kernel) (by rfl) ?_
  rw [ui_s]
  refine z_rcs hc hH 1 (pc' := 63) (lv' := [(3, .int (nI n)), (0, .ref 50), (1, .int (nI s)), (2, .int 0)]) (st' := [.int 1, .int (nI k), .int (nI s), .ref 50]) (μ' := z_ui (z_ui μ 50 46 (nI (n + 1))) 50 49 (nI k)) (by rfl) ?_
  refine zq_call hc (by rfl) (fc_X7_gives d' (by omega) (z_ui (z_ui μ 50 46 (nI (n + 1))) 50 49 (nI k)) s k 1 hs4 hk) (by decide +kernel) (fun r9 μ9 hq => ?_)
  obtain ⟨rfl, rfl⟩ := hq
  show Z 0 66 [(3, .int (nI n)), (0, .ref 50), (1, .int (nI s)), (2, .int 0)] [] (z_giv (z_ui (z_ui μ 50 46 (nI (n + 1))) 50 49 (nI k)) s k 1)
  refine z_rcs hc hH 1 (pc' := 67) (lv' := [(3, .int (nI n)), (0, .ref 50), (1, .int (nI s)), (2, .int 0)]) (st' := [.ref 50]) (μ' := z_giv (z_ui (z_ui μ 50 46 (nI (n + 1))) 50 49 (nI k)) s k 1) (by rfl) ?_
  refine zq_gfr hc hH (by rfl) (ci := 6) (f := 36) (q := 68) (by rfl) (by decide +kernel) (by rfl) (by decide +kernel) ?_
  refine z_rcs hc hH 2 (pc' := 72) (lv' := [(3, .int (nI n)), (0, .ref 50), (1, .int (nI s)), (2, .int 0)]) (st' := [.int (nI s), .ref 68, .int (nI s), .ref 68]) (μ' := z_giv (z_ui (z_ui μ 50 46 (nI (n + 1))) 50 49 (nI k)) s k 1) (by rfl) ?_
  refine zq_iald hc hH (by rfl) 4 (oka_i (by decide +kernel)) (vp_in_nI (by omega) (by decide)) ?_
  rw [nI_clamp (by omega)]
  rw [giv_o (by omega), ui_o (by omega), ui_o (by omega)]
  refine z_rcs hc hH 2 (pc' := 75) (lv' := [(3, .int (nI n)), (0, .ref 50), (1, .int (nI s)), (2, .int 0)]) (st' := [.int ((μ.1 68 s) + 1), .int (nI s), .ref 68]) (μ' := z_giv (z_ui (z_ui μ 50 46 (nI (n + 1))) 50 49 (nI k)) s k 1) (by rfl) ?_
  refine zq_iast hc hH (by rfl) 4 (oka_i (by decide +kernel)).2 (vp_in_nI (by omega) (by decide)) ?_
  rw [nI_clamp (by omega)]
  show Z 0 76 [(3, .int (nI n)), (0, .ref 50), (1, .int (nI s)), (2, .int 0)] [] (z_ui (z_giv (z_ui (z_ui μ 50 46 (nI (n + 1))) 50 49 (nI k)) s k 1) 68 s ((μ.1 68 s) + 1))
  refine z_rcs hc hH 1 (pc' := 77) (lv' := [(3, .int (nI n)), (0, .ref 50), (1, .int (nI s)), (2, .int 0)]) (st' := [.ref 50]) (μ' := z_ui (z_giv (z_ui (z_ui μ 50 46 (nI (n + 1))) 50 49 (nI k)) s k 1) 68 s ((μ.1 68 s) + 1)) (by rfl) ?_
  refine zq_gfr hc hH (by rfl) (ci := 6) (f := 35) (q := 67) (by rfl) (by decide +kernel) (by rfl) (by decide +kernel) ?_
  refine z_rcs hc hH 1 (pc' := 81) (lv' := [(3, .int (nI n)), (0, .ref 50), (1, .int (nI s)), (2, .int 0)]) (st' := [.int (nI s), .ref 67]) (μ' := z_ui (z_giv (z_ui (z_ui μ 50 46 (nI (n + 1))) 50 49 (nI k)) s k 1) 68 s ((μ.1 68 s) + 1)) (by rfl) ?_
  refine zq_iald hc hH (by rfl) 4 (oka_i (by decide +kernel)) (vp_in_nI (by omega) (by decide)) ?_
  rw [nI_clamp (by omega)]
  rw [ui_o (by omega), giv_o (by omega), ui_o (by omega), ui_o (by omega)]
  refine zq_if hc hH (by rfl) (tg := 92) (by rfl) (fun h1 => ?_) (fun h1 => ?_)
  · have h1 : (decide ((μ.1 67 s) = 0)) = false := decide_eq_false (cm_ne.mp h1)
    refine z_rcs hc hH 2 (pc' := 94) (lv' := [(3, .int (nI n)), (0, .ref 50), (1, .int (nI s)), (2, .int 0)]) (st' := [.int (nI s), .ref 50]) (μ' := z_ui (z_giv (z_ui (z_ui μ 50 46 (nI (n + 1))) 50 49 (nI k)) s k 1) 68 s ((μ.1 68 s) + 1)) (by rfl) ?_
    refine zq_pfi hc hH (by rfl) (ci := 6) (f := 45) (by rfl) (by decide +kernel) (by rfl) ?_
    show Z 0 97 [(3, .int (nI n)), (0, .ref 50), (1, .int (nI s)), (2, .int 0)] [] (z_ui (z_ui (z_giv (z_ui (z_ui μ 50 46 (nI (n + 1))) 50 49 (nI k)) s k 1) 68 s ((μ.1 68 s) + 1)) 50 45 (nI s))
    refine z_rcs hc hH 2 (pc' := 99) (lv' := [(3, .int (nI n)), (0, .ref 50), (1, .int (nI s)), (2, .int 0)]) (st' := [.int 1, .ref 50]) (μ' := z_ui (z_ui (z_giv (z_ui (z_ui μ 50 46 (nI (n + 1))) 50 49 (nI k)) s k 1) 68 s ((μ.1 68 s) + 1)) 50 45 (nI s)) (by rfl) ?_
    refine zq_pfi hc hH (by rfl) (ci := 6) (f := 44) (by rfl) (by decide +kernel) (by rfl) ?_
    show Z 0 102 [(3, .int (nI n)), (0, .ref 50), (1, .int (nI s)), (2, .int 0)] [] (z_ui (z_ui (z_ui (z_giv (z_ui (z_ui μ 50 46 (nI (n + 1))) 50 49 (nI k)) s k 1) 68 s ((μ.1 68 s) + 1)) 50 45 (nI s)) 50 44 1)
    refine z_rcs hc hH 2 (pc' := 104) (lv' := [(3, .int (nI n)), (0, .ref 50), (1, .int (nI s)), (2, .int 0)]) (st' := [.int 0, .ref 50]) (μ' := z_ui (z_ui (z_ui (z_giv (z_ui (z_ui μ 50 46 (nI (n + 1))) 50 49 (nI k)) s k 1) 68 s ((μ.1 68 s) + 1)) 50 45 (nI s)) 50 44 1) (by rfl) ?_
    refine zq_pfb hc hH (by rfl) (ci := 6) (f := 57) (by rfl) (by decide +kernel) (by rfl) (by decide) ?_
    show Z 0 107 [(3, .int (nI n)), (0, .ref 50), (1, .int (nI s)), (2, .int 0)] [] (z_ui (z_ui (z_ui (z_ui (z_giv (z_ui (z_ui μ 50 46 (nI (n + 1))) 50 49 (nI k)) s k 1) 68 s ((μ.1 68 s) + 1)) 50 45 (nI s)) 50 44 1) 50 57 0)
    refine z_rcs hc hH 2 (pc' := 109) (lv' := [(3, .int (nI n)), (0, .ref 50), (1, .int (nI s)), (2, .int 0)]) (st' := [.int 0, .ref 50]) (μ' := z_ui (z_ui (z_ui (z_ui (z_giv (z_ui (z_ui μ 50 46 (nI (n + 1))) 50 49 (nI k)) s k 1) 68 s ((μ.1 68 s) + 1)) 50 45 (nI s)) 50 44 1) 50 57 0) (by rfl) ?_
    refine zq_pfb hc hH (by rfl) (ci := 6) (f := 58) (by rfl) (by decide +kernel) (by rfl) (by decide) ?_
    show Z 0 112 [(3, .int (nI n)), (0, .ref 50), (1, .int (nI s)), (2, .int 0)] [] (z_ui (z_ui (z_ui (z_ui (z_ui (z_giv (z_ui (z_ui μ 50 46 (nI (n + 1))) 50 49 (nI k)) s k 1) 68 s ((μ.1 68 s) + 1)) 50 45 (nI s)) 50 44 1) 50 57 0) 50 58 0)
    refine z_rcs hc hH 2 (pc' := 114) (lv' := [(3, .int (nI n)), (0, .ref 50), (1, .int (nI s)), (2, .int 0)]) (st' := [.int (-1), .ref 50]) (μ' := z_ui (z_ui (z_ui (z_ui (z_ui (z_giv (z_ui (z_ui μ 50 46 (nI (n + 1))) 50 49 (nI k)) s k 1) 68 s ((μ.1 68 s) + 1)) 50 45 (nI s)) 50 44 1) 50 57 0) 50 58 0) (by rfl) ?_
    refine zq_pfi hc hH (by rfl) (ci := 6) (f := 50) (by rfl) (by decide +kernel) (by rfl) ?_
    show Z 0 117 [(3, .int (nI n)), (0, .ref 50), (1, .int (nI s)), (2, .int 0)] [] (z_ui (z_ui (z_ui (z_ui (z_ui (z_ui (z_giv (z_ui (z_ui μ 50 46 (nI (n + 1))) 50 49 (nI k)) s k 1) 68 s ((μ.1 68 s) + 1)) 50 45 (nI s)) 50 44 1) 50 57 0) 50 58 0) 50 50 (-1))
    refine z_rcs hc hH 2 (pc' := 119) (lv' := [(3, .int (nI n)), (0, .ref 50), (1, .int (nI s)), (2, .int 0)]) (st' := [.int (-1), .ref 50]) (μ' := z_ui (z_ui (z_ui (z_ui (z_ui (z_ui (z_giv (z_ui (z_ui μ 50 46 (nI (n + 1))) 50 49 (nI k)) s k 1) 68 s ((μ.1 68 s) + 1)) 50 45 (nI s)) 50 44 1) 50 57 0) 50 58 0) 50 50 (-1)) (by rfl) ?_
    refine zq_pfi hc hH (by rfl) (ci := 6) (f := 51) (by rfl) (by decide +kernel) (by rfl) ?_
    show Z 0 122 [(3, .int (nI n)), (0, .ref 50), (1, .int (nI s)), (2, .int 0)] [] (z_ui (z_ui (z_ui (z_ui (z_ui (z_ui (z_ui (z_giv (z_ui (z_ui μ 50 46 (nI (n + 1))) 50 49 (nI k)) s k 1) 68 s ((μ.1 68 s) + 1)) 50 45 (nI s)) 50 44 1) 50 57 0) 50 58 0) 50 50 (-1)) 50 51 (-1))
    exact hr 0 122 _ _ _ none (by decide +kernel) (by rfl) (⟨rfl, (by unfold dM0; simp only [h1, cond_true, cond_false])⟩)
  · have h1 : (decide ((μ.1 67 s) = 0)) = true := decide_eq_true (cn_ne.mp h1)
    refine z_rcs hc hH 1 (pc' := 86) (lv' := [(3, .int (nI n)), (0, .ref 50), (1, .int (nI s)), (2, .int 0)]) (st' := [.ref 50]) (μ' := z_ui (z_giv (z_ui (z_ui μ 50 46 (nI (n + 1))) 50 49 (nI k)) s k 1) 68 s ((μ.1 68 s) + 1)) (by rfl) ?_
    refine zq_gfr hc hH (by rfl) (ci := 6) (f := 38) (q := 70) (by rfl) (by decide +kernel) (by rfl) (by decide +kernel) ?_
    refine z_rcs hc hH 2 (pc' := 91) (lv' := [(3, .int (nI n)), (0, .ref 50), (1, .int (nI s)), (2, .int 0)]) (st' := [.int 0, .int (nI s), .ref 70]) (μ' := z_ui (z_giv (z_ui (z_ui μ 50 46 (nI (n + 1))) 50 49 (nI k)) s k 1) 68 s ((μ.1 68 s) + 1)) (by rfl) ?_
    refine zq_bast hc hH (by rfl) 4 (by decide +kernel) (vp_in_nI (by omega) (by decide)) (by decide) ?_
    rw [nI_clamp (by omega)]
    show Z 0 92 [(3, .int (nI n)), (0, .ref 50), (1, .int (nI s)), (2, .int 0)] [] (z_ui (z_ui (z_giv (z_ui (z_ui μ 50 46 (nI (n + 1))) 50 49 (nI k)) s k 1) 68 s ((μ.1 68 s) + 1)) 70 s 0)
    refine z_rcs hc hH 2 (pc' := 94) (lv' := [(3, .int (nI n)), (0, .ref 50), (1, .int (nI s)), (2, .int 0)]) (st' := [.int (nI s), .ref 50]) (μ' := z_ui (z_ui (z_giv (z_ui (z_ui μ 50 46 (nI (n + 1))) 50 49 (nI k)) s k 1) 68 s ((μ.1 68 s) + 1)) 70 s 0) (by rfl) ?_
    refine zq_pfi hc hH (by rfl) (ci := 6) (f := 45) (by rfl) (by decide +kernel) (by rfl) ?_
    show Z 0 97 [(3, .int (nI n)), (0, .ref 50), (1, .int (nI s)), (2, .int 0)] [] (z_ui (z_ui (z_ui (z_giv (z_ui (z_ui μ 50 46 (nI (n + 1))) 50 49 (nI k)) s k 1) 68 s ((μ.1 68 s) + 1)) 70 s 0) 50 45 (nI s))
    refine z_rcs hc hH 2 (pc' := 99) (lv' := [(3, .int (nI n)), (0, .ref 50), (1, .int (nI s)), (2, .int 0)]) (st' := [.int 1, .ref 50]) (μ' := z_ui (z_ui (z_ui (z_giv (z_ui (z_ui μ 50 46 (nI (n + 1))) 50 49 (nI k)) s k 1) 68 s ((μ.1 68 s) + 1)) 70 s 0) 50 45 (nI s)) (by rfl) ?_
    refine zq_pfi hc hH (by rfl) (ci := 6) (f := 44) (by rfl) (by decide +kernel) (by rfl) ?_
    show Z 0 102 [(3, .int (nI n)), (0, .ref 50), (1, .int (nI s)), (2, .int 0)] [] (z_ui (z_ui (z_ui (z_ui (z_giv (z_ui (z_ui μ 50 46 (nI (n + 1))) 50 49 (nI k)) s k 1) 68 s ((μ.1 68 s) + 1)) 70 s 0) 50 45 (nI s)) 50 44 1)
    refine z_rcs hc hH 2 (pc' := 104) (lv' := [(3, .int (nI n)), (0, .ref 50), (1, .int (nI s)), (2, .int 0)]) (st' := [.int 0, .ref 50]) (μ' := z_ui (z_ui (z_ui (z_ui (z_giv (z_ui (z_ui μ 50 46 (nI (n + 1))) 50 49 (nI k)) s k 1) 68 s ((μ.1 68 s) + 1)) 70 s 0) 50 45 (nI s)) 50 44 1) (by rfl) ?_
    refine zq_pfb hc hH (by rfl) (ci := 6) (f := 57) (by rfl) (by decide +kernel) (by rfl) (by decide) ?_
    show Z 0 107 [(3, .int (nI n)), (0, .ref 50), (1, .int (nI s)), (2, .int 0)] [] (z_ui (z_ui (z_ui (z_ui (z_ui (z_giv (z_ui (z_ui μ 50 46 (nI (n + 1))) 50 49 (nI k)) s k 1) 68 s ((μ.1 68 s) + 1)) 70 s 0) 50 45 (nI s)) 50 44 1) 50 57 0)
    refine z_rcs hc hH 2 (pc' := 109) (lv' := [(3, .int (nI n)), (0, .ref 50), (1, .int (nI s)), (2, .int 0)]) (st' := [.int 0, .ref 50]) (μ' := z_ui (z_ui (z_ui (z_ui (z_ui (z_giv (z_ui (z_ui μ 50 46 (nI (n + 1))) 50 49 (nI k)) s k 1) 68 s ((μ.1 68 s) + 1)) 70 s 0) 50 45 (nI s)) 50 44 1) 50 57 0) (by rfl) ?_
    refine zq_pfb hc hH (by rfl) (ci := 6) (f := 58) (by rfl) (by decide +kernel) (by rfl) (by decide) ?_
    show Z 0 112 [(3, .int (nI n)), (0, .ref 50), (1, .int (nI s)), (2, .int 0)] [] (z_ui (z_ui (z_ui (z_ui (z_ui (z_ui (z_giv (z_ui (z_ui μ 50 46 (nI (n + 1))) 50 49 (nI k)) s k 1) 68 s ((μ.1 68 s) + 1)) 70 s 0) 50 45 (nI s)) 50 44 1) 50 57 0) 50 58 0)
    refine z_rcs hc hH 2 (pc' := 114) (lv' := [(3, .int (nI n)), (0, .ref 50), (1, .int (nI s)), (2, .int 0)]) (st' := [.int (-1), .ref 50]) (μ' := z_ui (z_ui (z_ui (z_ui (z_ui (z_ui (z_giv (z_ui (z_ui μ 50 46 (nI (n + 1))) 50 49 (nI k)) s k 1) 68 s ((μ.1 68 s) + 1)) 70 s 0) 50 45 (nI s)) 50 44 1) 50 57 0) 50 58 0) (by rfl) ?_
    refine zq_pfi hc hH (by rfl) (ci := 6) (f := 50) (by rfl) (by decide +kernel) (by rfl) ?_
    show Z 0 117 [(3, .int (nI n)), (0, .ref 50), (1, .int (nI s)), (2, .int 0)] [] (z_ui (z_ui (z_ui (z_ui (z_ui (z_ui (z_ui (z_giv (z_ui (z_ui μ 50 46 (nI (n + 1))) 50 49 (nI k)) s k 1) 68 s ((μ.1 68 s) + 1)) 70 s 0) 50 45 (nI s)) 50 44 1) 50 57 0) 50 58 0) 50 50 (-1))
    refine z_rcs hc hH 2 (pc' := 119) (lv' := [(3, .int (nI n)), (0, .ref 50), (1, .int (nI s)), (2, .int 0)]) (st' := [.int (-1), .ref 50]) (μ' := z_ui (z_ui (z_ui (z_ui (z_ui (z_ui (z_ui (z_giv (z_ui (z_ui μ 50 46 (nI (n + 1))) 50 49 (nI k)) s k 1) 68 s ((μ.1 68 s) + 1)) 70 s 0) 50 45 (nI s)) 50 44 1) 50 57 0) 50 58 0) 50 50 (-1)) (by rfl) ?_
    refine zq_pfi hc hH (by rfl) (ci := 6) (f := 51) (by rfl) (by decide +kernel) (by rfl) ?_
    show Z 0 122 [(3, .int (nI n)), (0, .ref 50), (1, .int (nI s)), (2, .int 0)] [] (z_ui (z_ui (z_ui (z_ui (z_ui (z_ui (z_ui (z_ui (z_giv (z_ui (z_ui μ 50 46 (nI (n + 1))) 50 49 (nI k)) s k 1) 68 s ((μ.1 68 s) + 1)) 70 s 0) 50 45 (nI s)) 50 44 1) 50 57 0) 50 58 0) 50 50 (-1)) 50 51 (-1))
    exact hr 0 122 _ _ _ none (by decide +kernel) (by rfl) (⟨rfl, (by unfold dM0; simp only [h1, cond_true, cond_false])⟩)
def dM1 (μ : zM) (s n k : Nat) : zM := (bif decide ((μ.1 67 s) = 0) then z_ui (z_ui (z_ui (z_ui (z_ui (z_ui (z_ui (z_ui (z_giv (z_ui (z_ui μ 50 48 (nI (n + 1))) 50 49 (nI k)) s k 1) 68 s ((μ.1 68 s) + 1)) 70 s 0) 50 45 (nI s)) 50 44 1) 50 57 0) 50 58 1) 50 50 (-1)) 50 51 (-1) else z_ui (z_ui (z_ui (z_ui (z_ui (z_ui (z_ui (z_giv (z_ui (z_ui μ 50 48 (nI (n + 1))) 50 49 (nI k)) s k 1) 68 s ((μ.1 68 s) + 1)) 50 45 (nI s)) 50 44 1) 50 57 0) 50 58 1) 50 50 (-1)) 50 51 (-1))
theorem gm_draws1 (d : Nat) (hd : 3 ≤ d) (μ : zM) (s n k : Nat) (hs4 : s < 4) (hn2 : n < 14) (hn : μ.1 50 48 = nI n) (hk : k < 34) (hkk : μ.1 59 (122 + n) = nI k) : z_C d mi_X7_draws [.ref 50, .int (nI s), .int 1] μ (fun r μ' => r = none ∧ μ' = dM1 μ s n k) := by
  refine z_C_in (by decide) (by omega) (fun d' Z ed hc hr => ?_)
  have hH : zH mi_X7_draws zc_X7_draws 79 7 4 := ⟨by rfl, by rfl, by rfl, by rfl⟩
  refine z_rcs hc hH 4 (pc' := 7) (lv' := [(0, .ref 50), (1, .int (nI s)), (2, .int 1)]) (st' := [.ref 50, .int 122]) (μ' := μ) (by rfl) ?_
  refine zq_gfi hc hH (by rfl) (ci := 6) (f := 48) (by rfl) (by decide +kernel) (by rfl) ?_
  rw [hn]
  refine z_rcs hc hH 1 (pc' := 11) (lv' := [(0, .ref 50), (1, .int (nI s)), (2, .int 1)]) (st' := [.int (122 + (nI n))]) (μ' := μ) (by rfl) ?_
  rw [nI_122]
  refine z_rcs hc hH 6 (pc' := 25) (lv' := [(3, .int (nI (122 + n))), (0, .ref 50), (1, .int (nI s)), (2, .int 1)]) (st' := [.ref 50, .ref 50]) (μ' := μ) (by rfl) ?_
  refine zq_gfi hc hH (by rfl) (ci := 6) (f := 48) (by rfl) (by decide +kernel) (by rfl) ?_
  rw [hn]
  refine z_rcs hc hH 2 (pc' := 30) (lv' := [(3, .int (nI (122 + n))), (0, .ref 50), (1, .int (nI s)), (2, .int 1)]) (st' := [.int ((nI n) + 1), .ref 50]) (μ' := μ) (by rfl) ?_
  rw [nI_s1]
  refine zq_pfi hc hH (by rfl) (ci := 6) (f := 48) (by rfl) (by decide +kernel) (by rfl) ?_
  show Z 0 33 [(3, .int (nI (122 + n))), (0, .ref 50), (1, .int (nI s)), (2, .int 1)] [] (z_ui μ 50 48 (nI (n + 1)))
  refine z_rcs hc hH 3 (pc' := 48) (lv' := [(3, .int (nI (122 + n))), (0, .ref 50), (1, .int (nI s)), (2, .int 1)]) (st' := [.ref 50, .ref 50]) (μ' := z_ui μ 50 48 (nI (n + 1))) (by rfl) ?_
  refine zq_gfr hc hH (by rfl) (ci := 6) (f := 27) (q := 59) (by rfl) (by decide +kernel) (by rfl) (by decide +kernel) ?_
  refine z_rcs hc hH 1 (pc' := 52) (lv' := [(3, .int (nI (122 + n))), (0, .ref 50), (1, .int (nI s)), (2, .int 1)]) (st' := [.int (nI (122 + n)), .ref 59, .ref 50]) (μ' := z_ui μ 50 48 (nI (n + 1))) (by rfl) ?_
  refine zq_iald hc hH (by rfl) 136 (oka_i (by decide +kernel)) (vp_in_nI (by omega) (by decide)) ?_
  rw [nI_clamp (by omega)]
  rw [ui_o (by omega)]
  rw [hkk]
  refine zq_pfi hc hH (by rfl) (ci := 6) (f := 49) (by rfl) (by decide +kernel) (by rfl) ?_
  show Z 0 56 [(3, .int (nI (122 + n))), (0, .ref 50), (1, .int (nI s)), (2, .int 1)] [] (z_ui (z_ui μ 50 48 (nI (n + 1))) 50 49 (nI k))
  refine z_rcs hc hH 3 (pc' := 59) (lv' := [(3, .int (nI (122 + n))), (0, .ref 50), (1, .int (nI s)), (2, .int 1)]) (st' := [.ref 50, .int (nI s), .ref 50]) (μ' := z_ui (z_ui μ 50 48 (nI (n + 1))) 50 49 (nI k)) (by rfl) ?_
  refine zq_gfi hc hH (by rfl) (ci := 6) (f := 49) (by rfl) (by decide +kernel) (by rfl) ?_
  rw [ui_s]
  refine z_rcs hc hH 1 (pc' := 63) (lv' := [(3, .int (nI (122 + n))), (0, .ref 50), (1, .int (nI s)), (2, .int 1)]) (st' := [.int 1, .int (nI k), .int (nI s), .ref 50]) (μ' := z_ui (z_ui μ 50 48 (nI (n + 1))) 50 49 (nI k)) (by rfl) ?_
  refine zq_call hc (by rfl) (fc_X7_gives d' (by omega) (z_ui (z_ui μ 50 48 (nI (n + 1))) 50 49 (nI k)) s k 1 hs4 hk) (by decide +kernel) (fun r9 μ9 hq => ?_)
  obtain ⟨rfl, rfl⟩ := hq
  show Z 0 66 [(3, .int (nI (122 + n))), (0, .ref 50), (1, .int (nI s)), (2, .int 1)] [] (z_giv (z_ui (z_ui μ 50 48 (nI (n + 1))) 50 49 (nI k)) s k 1)
  refine z_rcs hc hH 1 (pc' := 67) (lv' := [(3, .int (nI (122 + n))), (0, .ref 50), (1, .int (nI s)), (2, .int 1)]) (st' := [.ref 50]) (μ' := z_giv (z_ui (z_ui μ 50 48 (nI (n + 1))) 50 49 (nI k)) s k 1) (by rfl) ?_
  refine zq_gfr hc hH (by rfl) (ci := 6) (f := 36) (q := 68) (by rfl) (by decide +kernel) (by rfl) (by decide +kernel) ?_
  refine z_rcs hc hH 2 (pc' := 72) (lv' := [(3, .int (nI (122 + n))), (0, .ref 50), (1, .int (nI s)), (2, .int 1)]) (st' := [.int (nI s), .ref 68, .int (nI s), .ref 68]) (μ' := z_giv (z_ui (z_ui μ 50 48 (nI (n + 1))) 50 49 (nI k)) s k 1) (by rfl) ?_
  refine zq_iald hc hH (by rfl) 4 (oka_i (by decide +kernel)) (vp_in_nI (by omega) (by decide)) ?_
  rw [nI_clamp (by omega)]
  rw [giv_o (by omega), ui_o (by omega), ui_o (by omega)]
  refine z_rcs hc hH 2 (pc' := 75) (lv' := [(3, .int (nI (122 + n))), (0, .ref 50), (1, .int (nI s)), (2, .int 1)]) (st' := [.int ((μ.1 68 s) + 1), .int (nI s), .ref 68]) (μ' := z_giv (z_ui (z_ui μ 50 48 (nI (n + 1))) 50 49 (nI k)) s k 1) (by rfl) ?_
  refine zq_iast hc hH (by rfl) 4 (oka_i (by decide +kernel)).2 (vp_in_nI (by omega) (by decide)) ?_
  rw [nI_clamp (by omega)]
  show Z 0 76 [(3, .int (nI (122 + n))), (0, .ref 50), (1, .int (nI s)), (2, .int 1)] [] (z_ui (z_giv (z_ui (z_ui μ 50 48 (nI (n + 1))) 50 49 (nI k)) s k 1) 68 s ((μ.1 68 s) + 1))
  refine z_rcs hc hH 1 (pc' := 77) (lv' := [(3, .int (nI (122 + n))), (0, .ref 50), (1, .int (nI s)), (2, .int 1)]) (st' := [.ref 50]) (μ' := z_ui (z_giv (z_ui (z_ui μ 50 48 (nI (n + 1))) 50 49 (nI k)) s k 1) 68 s ((μ.1 68 s) + 1)) (by rfl) ?_
  refine zq_gfr hc hH (by rfl) (ci := 6) (f := 35) (q := 67) (by rfl) (by decide +kernel) (by rfl) (by decide +kernel) ?_
  refine z_rcs hc hH 1 (pc' := 81) (lv' := [(3, .int (nI (122 + n))), (0, .ref 50), (1, .int (nI s)), (2, .int 1)]) (st' := [.int (nI s), .ref 67]) (μ' := z_ui (z_giv (z_ui (z_ui μ 50 48 (nI (n + 1))) 50 49 (nI k)) s k 1) 68 s ((μ.1 68 s) + 1)) (by rfl) ?_
  refine zq_iald hc hH (by rfl) 4 (oka_i (by decide +kernel)) (vp_in_nI (by omega) (by decide)) ?_
  rw [nI_clamp (by omega)]
  rw [ui_o (by omega), giv_o (by omega), ui_o (by omega), ui_o (by omega)]
  refine zq_if hc hH (by rfl) (tg := 92) (by rfl) (fun h1 => ?_) (fun h1 => ?_)
  · have h1 : (decide ((μ.1 67 s) = 0)) = false := decide_eq_false (cm_ne.mp h1)
    refine z_rcs hc hH 2 (pc' := 94) (lv' := [(3, .int (nI (122 + n))), (0, .ref 50), (1, .int (nI s)), (2, .int 1)]) (st' := [.int (nI s), .ref 50]) (μ' := z_ui (z_giv (z_ui (z_ui μ 50 48 (nI (n + 1))) 50 49 (nI k)) s k 1) 68 s ((μ.1 68 s) + 1)) (by rfl) ?_
    refine zq_pfi hc hH (by rfl) (ci := 6) (f := 45) (by rfl) (by decide +kernel) (by rfl) ?_
    show Z 0 97 [(3, .int (nI (122 + n))), (0, .ref 50), (1, .int (nI s)), (2, .int 1)] [] (z_ui (z_ui (z_giv (z_ui (z_ui μ 50 48 (nI (n + 1))) 50 49 (nI k)) s k 1) 68 s ((μ.1 68 s) + 1)) 50 45 (nI s))
    refine z_rcs hc hH 2 (pc' := 99) (lv' := [(3, .int (nI (122 + n))), (0, .ref 50), (1, .int (nI s)), (2, .int 1)]) (st' := [.int 1, .ref 50]) (μ' := z_ui (z_ui (z_giv (z_ui (z_ui μ 50 48 (nI (n + 1))) 50 49 (nI k)) s k 1) 68 s ((μ.1 68 s) + 1)) 50 45 (nI s)) (by rfl) ?_
    refine zq_pfi hc hH (by rfl) (ci := 6) (f := 44) (by rfl) (by decide +kernel) (by rfl) ?_
    show Z 0 102 [(3, .int (nI (122 + n))), (0, .ref 50), (1, .int (nI s)), (2, .int 1)] [] (z_ui (z_ui (z_ui (z_giv (z_ui (z_ui μ 50 48 (nI (n + 1))) 50 49 (nI k)) s k 1) 68 s ((μ.1 68 s) + 1)) 50 45 (nI s)) 50 44 1)
    refine z_rcs hc hH 2 (pc' := 104) (lv' := [(3, .int (nI (122 + n))), (0, .ref 50), (1, .int (nI s)), (2, .int 1)]) (st' := [.int 0, .ref 50]) (μ' := z_ui (z_ui (z_ui (z_giv (z_ui (z_ui μ 50 48 (nI (n + 1))) 50 49 (nI k)) s k 1) 68 s ((μ.1 68 s) + 1)) 50 45 (nI s)) 50 44 1) (by rfl) ?_
    refine zq_pfb hc hH (by rfl) (ci := 6) (f := 57) (by rfl) (by decide +kernel) (by rfl) (by decide) ?_
    show Z 0 107 [(3, .int (nI (122 + n))), (0, .ref 50), (1, .int (nI s)), (2, .int 1)] [] (z_ui (z_ui (z_ui (z_ui (z_giv (z_ui (z_ui μ 50 48 (nI (n + 1))) 50 49 (nI k)) s k 1) 68 s ((μ.1 68 s) + 1)) 50 45 (nI s)) 50 44 1) 50 57 0)
    refine z_rcs hc hH 2 (pc' := 109) (lv' := [(3, .int (nI (122 + n))), (0, .ref 50), (1, .int (nI s)), (2, .int 1)]) (st' := [.int 1, .ref 50]) (μ' := z_ui (z_ui (z_ui (z_ui (z_giv (z_ui (z_ui μ 50 48 (nI (n + 1))) 50 49 (nI k)) s k 1) 68 s ((μ.1 68 s) + 1)) 50 45 (nI s)) 50 44 1) 50 57 0) (by rfl) ?_
    refine zq_pfb hc hH (by rfl) (ci := 6) (f := 58) (by rfl) (by decide +kernel) (by rfl) (by decide) ?_
    show Z 0 112 [(3, .int (nI (122 + n))), (0, .ref 50), (1, .int (nI s)), (2, .int 1)] [] (z_ui (z_ui (z_ui (z_ui (z_ui (z_giv (z_ui (z_ui μ 50 48 (nI (n + 1))) 50 49 (nI k)) s k 1) 68 s ((μ.1 68 s) + 1)) 50 45 (nI s)) 50 44 1) 50 57 0) 50 58 1)
    refine z_rcs hc hH 2 (pc' := 114) (lv' := [(3, .int (nI (122 + n))), (0, .ref 50), (1, .int (nI s)), (2, .int 1)]) (st' := [.int (-1), .ref 50]) (μ' := z_ui (z_ui (z_ui (z_ui (z_ui (z_giv (z_ui (z_ui μ 50 48 (nI (n + 1))) 50 49 (nI k)) s k 1) 68 s ((μ.1 68 s) + 1)) 50 45 (nI s)) 50 44 1) 50 57 0) 50 58 1) (by rfl) ?_
    refine zq_pfi hc hH (by rfl) (ci := 6) (f := 50) (by rfl) (by decide +kernel) (by rfl) ?_
    show Z 0 117 [(3, .int (nI (122 + n))), (0, .ref 50), (1, .int (nI s)), (2, .int 1)] [] (z_ui (z_ui (z_ui (z_ui (z_ui (z_ui (z_giv (z_ui (z_ui μ 50 48 (nI (n + 1))) 50 49 (nI k)) s k 1) 68 s ((μ.1 68 s) + 1)) 50 45 (nI s)) 50 44 1) 50 57 0) 50 58 1) 50 50 (-1))
    refine z_rcs hc hH 2 (pc' := 119) (lv' := [(3, .int (nI (122 + n))), (0, .ref 50), (1, .int (nI s)), (2, .int 1)]) (st' := [.int (-1), .ref 50]) (μ' := z_ui (z_ui (z_ui (z_ui (z_ui (z_ui (z_giv (z_ui (z_ui μ 50 48 (nI (n + 1))) 50 49 (nI k)) s k 1) 68 s ((μ.1 68 s) + 1)) 50 45 (nI s)) 50 44 1) 50 57 0) 50 58 1) 50 50 (-1)) (by rfl) ?_
    refine zq_pfi hc hH (by rfl) (ci := 6) (f := 51) (by rfl) (by decide +kernel) (by rfl) ?_
    show Z 0 122 [(3, .int (nI (122 + n))), (0, .ref 50), (1, .int (nI s)), (2, .int 1)] [] (z_ui (z_ui (z_ui (z_ui (z_ui (z_ui (z_ui (z_giv (z_ui (z_ui μ 50 48 (nI (n + 1))) 50 49 (nI k)) s k 1) 68 s ((μ.1 68 s) + 1)) 50 45 (nI s)) 50 44 1) 50 57 0) 50 58 1) 50 50 (-1)) 50 51 (-1))
    exact hr 0 122 _ _ _ none (by decide +kernel) (by rfl) (⟨rfl, (by unfold dM1; simp only [h1, cond_true, cond_false])⟩)
  · have h1 : (decide ((μ.1 67 s) = 0)) = true := decide_eq_true (cn_ne.mp h1)
    refine z_rcs hc hH 1 (pc' := 86) (lv' := [(3, .int (nI (122 + n))), (0, .ref 50), (1, .int (nI s)), (2, .int 1)]) (st' := [.ref 50]) (μ' := z_ui (z_giv (z_ui (z_ui μ 50 48 (nI (n + 1))) 50 49 (nI k)) s k 1) 68 s ((μ.1 68 s) + 1)) (by rfl) ?_
    refine zq_gfr hc hH (by rfl) (ci := 6) (f := 38) (q := 70) (by rfl) (by decide +kernel) (by rfl) (by decide +kernel) ?_
    refine z_rcs hc hH 2 (pc' := 91) (lv' := [(3, .int (nI (122 + n))), (0, .ref 50), (1, .int (nI s)), (2, .int 1)]) (st' := [.int 0, .int (nI s), .ref 70]) (μ' := z_ui (z_giv (z_ui (z_ui μ 50 48 (nI (n + 1))) 50 49 (nI k)) s k 1) 68 s ((μ.1 68 s) + 1)) (by rfl) ?_
    refine zq_bast hc hH (by rfl) 4 (by decide +kernel) (vp_in_nI (by omega) (by decide)) (by decide) ?_
    rw [nI_clamp (by omega)]
    show Z 0 92 [(3, .int (nI (122 + n))), (0, .ref 50), (1, .int (nI s)), (2, .int 1)] [] (z_ui (z_ui (z_giv (z_ui (z_ui μ 50 48 (nI (n + 1))) 50 49 (nI k)) s k 1) 68 s ((μ.1 68 s) + 1)) 70 s 0)
    refine z_rcs hc hH 2 (pc' := 94) (lv' := [(3, .int (nI (122 + n))), (0, .ref 50), (1, .int (nI s)), (2, .int 1)]) (st' := [.int (nI s), .ref 50]) (μ' := z_ui (z_ui (z_giv (z_ui (z_ui μ 50 48 (nI (n + 1))) 50 49 (nI k)) s k 1) 68 s ((μ.1 68 s) + 1)) 70 s 0) (by rfl) ?_
    refine zq_pfi hc hH (by rfl) (ci := 6) (f := 45) (by rfl) (by decide +kernel) (by rfl) ?_
    show Z 0 97 [(3, .int (nI (122 + n))), (0, .ref 50), (1, .int (nI s)), (2, .int 1)] [] (z_ui (z_ui (z_ui (z_giv (z_ui (z_ui μ 50 48 (nI (n + 1))) 50 49 (nI k)) s k 1) 68 s ((μ.1 68 s) + 1)) 70 s 0) 50 45 (nI s))
    refine z_rcs hc hH 2 (pc' := 99) (lv' := [(3, .int (nI (122 + n))), (0, .ref 50), (1, .int (nI s)), (2, .int 1)]) (st' := [.int 1, .ref 50]) (μ' := z_ui (z_ui (z_ui (z_giv (z_ui (z_ui μ 50 48 (nI (n + 1))) 50 49 (nI k)) s k 1) 68 s ((μ.1 68 s) + 1)) 70 s 0) 50 45 (nI s)) (by rfl) ?_
    refine zq_pfi hc hH (by rfl) (ci := 6) (f := 44) (by rfl) (by decide +kernel) (by rfl) ?_
    show Z 0 102 [(3, .int (nI (122 + n))), (0, .ref 50), (1, .int (nI s)), (2, .int 1)] [] (z_ui (z_ui (z_ui (z_ui (z_giv (z_ui (z_ui μ 50 48 (nI (n + 1))) 50 49 (nI k)) s k 1) 68 s ((μ.1 68 s) + 1)) 70 s 0) 50 45 (nI s)) 50 44 1)
    refine z_rcs hc hH 2 (pc' := 104) (lv' := [(3, .int (nI (122 + n))), (0, .ref 50), (1, .int (nI s)), (2, .int 1)]) (st' := [.int 0, .ref 50]) (μ' := z_ui (z_ui (z_ui (z_ui (z_giv (z_ui (z_ui μ 50 48 (nI (n + 1))) 50 49 (nI k)) s k 1) 68 s ((μ.1 68 s) + 1)) 70 s 0) 50 45 (nI s)) 50 44 1) (by rfl) ?_
    refine zq_pfb hc hH (by rfl) (ci := 6) (f := 57) (by rfl) (by decide +kernel) (by rfl) (by decide) ?_
    show Z 0 107 [(3, .int (nI (122 + n))), (0, .ref 50), (1, .int (nI s)), (2, .int 1)] [] (z_ui (z_ui (z_ui (z_ui (z_ui (z_giv (z_ui (z_ui μ 50 48 (nI (n + 1))) 50 49 (nI k)) s k 1) 68 s ((μ.1 68 s) + 1)) 70 s 0) 50 45 (nI s)) 50 44 1) 50 57 0)
    refine z_rcs hc hH 2 (pc' := 109) (lv' := [(3, .int (nI (122 + n))), (0, .ref 50), (1, .int (nI s)), (2, .int 1)]) (st' := [.int 1, .ref 50]) (μ' := z_ui (z_ui (z_ui (z_ui (z_ui (z_giv (z_ui (z_ui μ 50 48 (nI (n + 1))) 50 49 (nI k)) s k 1) 68 s ((μ.1 68 s) + 1)) 70 s 0) 50 45 (nI s)) 50 44 1) 50 57 0) (by rfl) ?_
    refine zq_pfb hc hH (by rfl) (ci := 6) (f := 58) (by rfl) (by decide +kernel) (by rfl) (by decide) ?_
    show Z 0 112 [(3, .int (nI (122 + n))), (0, .ref 50), (1, .int (nI s)), (2, .int 1)] [] (z_ui (z_ui (z_ui (z_ui (z_ui (z_ui (z_giv (z_ui (z_ui μ 50 48 (nI (n + 1))) 50 49 (nI k)) s k 1) 68 s ((μ.1 68 s) + 1)) 70 s 0) 50 45 (nI s)) 50 44 1) 50 57 0) 50 58 1)
    refine z_rcs hc hH 2 (pc' := 114) (lv' := [(3, .int (nI (122 + n))), (0, .ref 50), (1, .int (nI s)), (2, .int 1)]) (st' := [.int (-1), .ref 50]) (μ' := z_ui (z_ui (z_ui (z_ui (z_ui (z_ui (z_giv (z_ui (z_ui μ 50 48 (nI (n + 1))) 50 49 (nI k)) s k 1) 68 s ((μ.1 68 s) + 1)) 70 s 0) 50 45 (nI s)) 50 44 1) 50 57 0) 50 58 1) (by rfl) ?_
    refine zq_pfi hc hH (by rfl) (ci := 6) (f := 50) (by rfl) (by decide +kernel) (by rfl) ?_
    show Z 0 117 [(3, .int (nI (122 + n))), (0, .ref 50), (1, .int (nI s)), (2, .int 1)] [] (z_ui (z_ui (z_ui (z_ui (z_ui (z_ui (z_ui (z_giv (z_ui (z_ui μ 50 48 (nI (n + 1))) 50 49 (nI k)) s k 1) 68 s ((μ.1 68 s) + 1)) 70 s 0) 50 45 (nI s)) 50 44 1) 50 57 0) 50 58 1) 50 50 (-1))
    refine z_rcs hc hH 2 (pc' := 119) (lv' := [(3, .int (nI (122 + n))), (0, .ref 50), (1, .int (nI s)), (2, .int 1)]) (st' := [.int (-1), .ref 50]) (μ' := z_ui (z_ui (z_ui (z_ui (z_ui (z_ui (z_ui (z_giv (z_ui (z_ui μ 50 48 (nI (n + 1))) 50 49 (nI k)) s k 1) 68 s ((μ.1 68 s) + 1)) 70 s 0) 50 45 (nI s)) 50 44 1) 50 57 0) 50 58 1) 50 50 (-1)) (by rfl) ?_
    refine zq_pfi hc hH (by rfl) (ci := 6) (f := 51) (by rfl) (by decide +kernel) (by rfl) ?_
    show Z 0 122 [(3, .int (nI (122 + n))), (0, .ref 50), (1, .int (nI s)), (2, .int 1)] [] (z_ui (z_ui (z_ui (z_ui (z_ui (z_ui (z_ui (z_ui (z_giv (z_ui (z_ui μ 50 48 (nI (n + 1))) 50 49 (nI k)) s k 1) 68 s ((μ.1 68 s) + 1)) 70 s 0) 50 45 (nI s)) 50 44 1) 50 57 0) 50 58 1) 50 50 (-1)) 50 51 (-1))
    exact hr 0 122 _ _ _ none (by decide +kernel) (by rfl) (⟨rfl, (by unfold dM1; simp only [h1, cond_true, cond_false])⟩)

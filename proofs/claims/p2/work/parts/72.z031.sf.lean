/-! the game: three of the reference -/
set_option maxRecDepth 8000
abbrev thC (μ : zM) (s c : Nat) (mc cd : Bool) : Bool := (mc) && ((decide (2 ≤ (μ.1 60 (34 * s + c))))) && (cd)
theorem gm_three (d : Nat) (hd : 702 ≤ d) (μ : zM) (s c q : Nat) (hs4 : s < 4) (hc34 : c < 34) (hc49 : μ.1 50 49 = nI c) (hq4 : q < 4) (mc : Bool) (hmc : ∀ d, 2 ≤ d → z_C d mi_X7_mayClaim [.ref 50, .int (nI s)] (z_ui μ 50 0 0) (zR (z_ui μ 50 0 0) (.int (nB mc)))) (cd : Bool) (hcd : ∀ d, 2 ≤ d → z_C d mi_X7_canDiscard [.ref 50, .int (nI s)] (z_giv (z_ui (z_ui (z_ui μ 50 0 0) 50 50 (nI c)) 50 51 (-1)) s c (-2)) (zR (z_giv (z_ui (z_ui (z_ui μ 50 0 0) 50 50 (nI c)) 50 51 (-1)) s c (-2)) (.int (nB cd)))) (O : zM) (hov : ∀ d, 701 ≤ d → z_C d mi_X7_over [.ref 50] (z_giv (z_giv (z_ui (z_ui (z_ui μ 50 0 0) 50 50 (nI c)) 50 51 (-1)) s c (-2)) s c 2) (fun r W => r = none ∧ SMj O W)) (o49 : O.1 50 49 = nI c) (e64 : O.1 64 s = nI q) : z_C d mi_X7_three [.ref 50, .int (nI s)] μ (fun r μ' => (thC μ s c mc cd = true ∧ r = some (.int 1) ∧ SMj (clM (z_giv O s c (-2)) s q 1 (nI c)) μ') ∨ (thC μ s c mc cd = false ∧ r = some (.int 0) ∧ (μ' = z_ui μ 50 0 0 ∨ μ' = z_giv (z_giv (z_ui (z_ui (z_ui μ 50 0 0) 50 50 (nI c)) 50 51 (-1)) s c (-2)) s c 2))) := by
  refine z_C_in (by decide) (by omega) (fun d' Z ed hc hr => ?_)
  have hH : zH mi_X7_three zc_X7_three 79 7 3 := ⟨by rfl, by rfl, by rfl, by rfl⟩
  refine z_rcs hc hH 2 (pc' := 2) (lv' := [(0, .ref 50), (1, .int (nI s))]) (st' := [.int 0, .ref 50]) (μ' := μ) (by rfl) ?_
  refine zq_pfi hc hH (by rfl) (ci := 6) (f := 0) (by rfl) (by decide +kernel) (by rfl) ?_
  show Z 0 5 [(0, .ref 50), (1, .int (nI s))] [] (z_ui μ 50 0 0)
  refine z_rcs hc hH 2 (pc' := 7) (lv' := [(0, .ref 50), (1, .int (nI s))]) (st' := [.int (nI s), .ref 50]) (μ' := z_ui μ 50 0 0) (by rfl) ?_
  refine zq_call hc (by rfl) (hmc d' (by omega)) (by decide +kernel) (fun r9 μ9 hq => ?_)
  obtain ⟨hμ9, rfl⟩ := hq
  rw [hμ9]
  clear hμ9 μ9
  show Z 0 10 [(0, .ref 50), (1, .int (nI s))] [.int (nB mc)] (z_ui μ 50 0 0)
  refine zq_if hc hH (by rfl) (tg := 26) (by rfl) (fun h1 => ?_) (fun h1 => ?_)
  · have h1 : (mc) = false := nB_z.mp (cm_eq9.mp h1)
    refine z_rcs hc hH 1 (pc' := 27) (lv' := [(0, .ref 50), (1, .int (nI s))]) (st' := [.int 0]) (μ' := z_ui μ 50 0 0) (by rfl) ?_
    exact hr 0 27 _ _ _ (some (.int 0)) (by decide +kernel) (by rfl) (Or.inr ⟨by simp only [thC, h1, Bool.true_or, Bool.true_and, Bool.and_true, Bool.false_and, Bool.and_false, Bool.not_true, Bool.not_false], rfl, Or.inl rfl⟩)
  · have h1 : (mc) = true := nB_n.mp (cn_eq.mp h1)
    refine z_rcs hc hH 3 (pc' := 16) (lv' := [(0, .ref 50), (1, .int (nI s))]) (st' := [.ref 50, .int (nI s), .ref 50]) (μ' := z_ui μ 50 0 0) (by rfl) ?_
    refine zq_gfi hc hH (by rfl) (ci := 6) (f := 49) (by rfl) (by decide +kernel) (by rfl) ?_
    rw [ui_k (by omega)]
    rw [hc49]
    refine zq_call hc (by rfl) (fc_X7_has_ d' (by omega) (z_ui μ 50 0 0) s c hs4 hc34) (by decide +kernel) (fun r9 μ9 hq => ?_)
    obtain ⟨hμ9, rfl⟩ := hq
    rw [hμ9]
    clear hμ9 μ9
    rw [ui_o (by omega)]
    show Z 0 22 [(0, .ref 50), (1, .int (nI s))] [.int (μ.1 60 (34 * s + c))] (z_ui μ 50 0 0)
    refine z_rcs hc hH 1 (pc' := 23) (lv' := [(0, .ref 50), (1, .int (nI s))]) (st' := [.int 2, .int (μ.1 60 (34 * s + c))]) (μ' := z_ui μ 50 0 0) (by rfl) ?_
    refine zq_ic hc hH (by rfl) (tg := 28) (by rfl) (fun h2 => ?_) (fun h2 => ?_)
    · have h2 : (decide (2 ≤ (μ.1 60 (34 * s + c)))) = true := decide_eq_true (cm_ge.mp h2)
      refine z_rcs hc hH 2 (pc' := 30) (lv' := [(0, .ref 50), (1, .int (nI s))]) (st' := [.ref 50, .ref 50]) (μ' := z_ui μ 50 0 0) (by rfl) ?_
      refine zq_gfi hc hH (by rfl) (ci := 6) (f := 49) (by rfl) (by decide +kernel) (by rfl) ?_
      rw [ui_k (by omega)]
      rw [hc49]
      refine zq_pfi hc hH (by rfl) (ci := 6) (f := 50) (by rfl) (by decide +kernel) (by rfl) ?_
      show Z 0 36 [(0, .ref 50), (1, .int (nI s))] [] (z_ui (z_ui μ 50 0 0) 50 50 (nI c))
      refine z_rcs hc hH 2 (pc' := 38) (lv' := [(0, .ref 50), (1, .int (nI s))]) (st' := [.int (-1), .ref 50]) (μ' := z_ui (z_ui μ 50 0 0) 50 50 (nI c)) (by rfl) ?_
      refine zq_pfi hc hH (by rfl) (ci := 6) (f := 51) (by rfl) (by decide +kernel) (by rfl) ?_
      show Z 0 41 [(0, .ref 50), (1, .int (nI s))] [] (z_ui (z_ui (z_ui μ 50 0 0) 50 50 (nI c)) 50 51 (-1))
      refine z_rcs hc hH 3 (pc' := 44) (lv' := [(0, .ref 50), (1, .int (nI s))]) (st' := [.ref 50, .int (nI s), .ref 50]) (μ' := z_ui (z_ui (z_ui μ 50 0 0) 50 50 (nI c)) 50 51 (-1)) (by rfl) ?_
      refine zq_gfi hc hH (by rfl) (ci := 6) (f := 49) (by rfl) (by decide +kernel) (by rfl) ?_
      rw [ui_k (by omega), ui_k (by omega), ui_k (by omega)]
      rw [hc49]
      refine z_rcs hc hH 1 (pc' := 49) (lv' := [(0, .ref 50), (1, .int (nI s))]) (st' := [.int (-2), .int (nI c), .int (nI s), .ref 50]) (μ' := z_ui (z_ui (z_ui μ 50 0 0) 50 50 (nI c)) 50 51 (-1)) (by rfl) ?_
      refine zq_call hc (by rfl) (fc_X7_gives d' (by omega) (z_ui (z_ui (z_ui μ 50 0 0) 50 50 (nI c)) 50 51 (-1)) s c (-2) hs4 hc34) (by decide +kernel) (fun r9 μ9 hq => ?_)
      obtain ⟨rfl, rfl⟩ := hq
      show Z 0 52 [(0, .ref 50), (1, .int (nI s))] [] (z_giv (z_ui (z_ui (z_ui μ 50 0 0) 50 50 (nI c)) 50 51 (-1)) s c (-2))
      refine z_rcs hc hH 2 (pc' := 54) (lv' := [(0, .ref 50), (1, .int (nI s))]) (st' := [.int (nI s), .ref 50]) (μ' := z_giv (z_ui (z_ui (z_ui μ 50 0 0) 50 50 (nI c)) 50 51 (-1)) s c (-2)) (by rfl) ?_
      refine zq_call hc (by rfl) (hcd d' (by omega)) (by decide +kernel) (fun r9 μ9 hq => ?_)
      obtain ⟨hμ9, rfl⟩ := hq
      rw [hμ9]
      clear hμ9 μ9
      show Z 0 57 [(0, .ref 50), (1, .int (nI s))] [.int (nB cd)] (z_giv (z_ui (z_ui (z_ui μ 50 0 0) 50 50 (nI c)) 50 51 (-1)) s c (-2))
      refine z_rcs hc hH 4 (pc' := 61) (lv' := [(2, .int (nB cd)), (0, .ref 50), (1, .int (nI s))]) (st' := [.ref 50, .int (nI s), .ref 50]) (μ' := z_giv (z_ui (z_ui (z_ui μ 50 0 0) 50 50 (nI c)) 50 51 (-1)) s c (-2)) (by rfl) ?_
      refine zq_gfi hc hH (by rfl) (ci := 6) (f := 49) (by rfl) (by decide +kernel) (by rfl) ?_
      rw [giv_o (by omega), ui_k (by omega), ui_k (by omega), ui_k (by omega)]
      rw [hc49]
      refine z_rcs hc hH 1 (pc' := 65) (lv' := [(2, .int (nB cd)), (0, .ref 50), (1, .int (nI s))]) (st' := [.int 2, .int (nI c), .int (nI s), .ref 50]) (μ' := z_giv (z_ui (z_ui (z_ui μ 50 0 0) 50 50 (nI c)) 50 51 (-1)) s c (-2)) (by rfl) ?_
      refine zq_call hc (by rfl) (fc_X7_gives d' (by omega) (z_giv (z_ui (z_ui (z_ui μ 50 0 0) 50 50 (nI c)) 50 51 (-1)) s c (-2)) s c 2 hs4 hc34) (by decide +kernel) (fun r9 μ9 hq => ?_)
      obtain ⟨rfl, rfl⟩ := hq
      show Z 0 68 [(2, .int (nB cd)), (0, .ref 50), (1, .int (nI s))] [] (z_giv (z_giv (z_ui (z_ui (z_ui μ 50 0 0) 50 50 (nI c)) 50 51 (-1)) s c (-2)) s c 2)
      refine z_rcs hc hH 1 (pc' := 69) (lv' := [(2, .int (nB cd)), (0, .ref 50), (1, .int (nI s))]) (st' := [.int (nB cd)]) (μ' := z_giv (z_giv (z_ui (z_ui (z_ui μ 50 0 0) 50 50 (nI c)) 50 51 (-1)) s c (-2)) s c 2) (by rfl) ?_
      refine zq_if hc hH (by rfl) (tg := 74) (by rfl) (fun h3 => ?_) (fun h3 => ?_)
      · have h3 : (cd) = true := nB_n.mp (cm_ne.mp h3)
        refine z_rcs hc hH 1 (pc' := 75) (lv' := [(2, .int (nB cd)), (0, .ref 50), (1, .int (nI s))]) (st' := [.ref 50]) (μ' := z_giv (z_giv (z_ui (z_ui (z_ui μ 50 0 0) 50 50 (nI c)) 50 51 (-1)) s c (-2)) s c 2) (by rfl) ?_
        refine zq_call hc (by rfl) (hov d' (by omega)) (by decide +kernel) (fun r9 W hq => ?_)
        obtain ⟨rfl, hO⟩ := hq
        show Z 0 78 [(2, .int (nB cd)), (0, .ref 50), (1, .int (nI s))] [] W
        refine z_rcs hc hH 3 (pc' := 81) (lv' := [(2, .int (nB cd)), (0, .ref 50), (1, .int (nI s))]) (st' := [.ref 50, .int (nI s), .ref 50]) (μ' := W) (by rfl) ?_
        refine zq_gfi hc hH (by rfl) (ci := 6) (f := 49) (by rfl) (by decide +kernel) (by rfl) ?_
        rw [(hO _ _ (by omega)).1]
        rw [o49]
        refine z_rcs hc hH 1 (pc' := 86) (lv' := [(2, .int (nB cd)), (0, .ref 50), (1, .int (nI s))]) (st' := [.int (-2), .int (nI c), .int (nI s), .ref 50]) (μ' := W) (by rfl) ?_
        refine zq_call hc (by rfl) (fc_X7_gives d' (by omega) W s c (-2) hs4 hc34) (by decide +kernel) (fun r9 μ9 hq => ?_)
        obtain ⟨rfl, rfl⟩ := hq
        show Z 0 89 [(2, .int (nB cd)), (0, .ref 50), (1, .int (nI s))] [] (z_giv W s c (-2))
        refine z_rcs hc hH 4 (pc' := 93) (lv' := [(2, .int (nB cd)), (0, .ref 50), (1, .int (nI s))]) (st' := [.ref 50, .int 1, .int (nI s), .ref 50]) (μ' := z_giv W s c (-2)) (by rfl) ?_
        refine zq_gfi hc hH (by rfl) (ci := 6) (f := 49) (by rfl) (by decide +kernel) (by rfl) ?_
        rw [giv_o (by omega), (hO _ _ (by omega)).1]
        rw [o49]
        refine zq_call hc (by rfl) (gm_claims d' (by omega) (z_giv W s c (-2)) s q 1 (nI c) hs4 hq4 (by rw [giv_o (by omega), (hO _ _ (by omega)).1]; exact e64)) (by decide +kernel) (fun r9 μ9 hq => ?_)
        obtain ⟨rfl, rfl⟩ := hq
        show Z 0 99 [(2, .int (nB cd)), (0, .ref 50), (1, .int (nI s))] [] (clM (z_giv W s c (-2)) s q 1 (nI c))
        refine z_rcs hc hH 1 (pc' := 100) (lv' := [(2, .int (nB cd)), (0, .ref 50), (1, .int (nI s))]) (st' := [.int 1]) (μ' := clM (z_giv W s c (-2)) s q 1 (nI c)) (by rfl) ?_
        exact hr 0 100 _ _ _ (some (.int 1)) (by decide +kernel) (by rfl) (Or.inl ⟨by simp only [thC, h1, h2, h3, Bool.true_or, Bool.true_and, Bool.and_true, Bool.false_and, Bool.and_false, Bool.not_true, Bool.not_false], rfl, SM_cl (SM_giv (hO))⟩)
      · have h3 : (cd) = false := nB_z.mp (cn_ne.mp h3)
        refine z_rcs hc hH 1 (pc' := 73) (lv' := [(2, .int (nB cd)), (0, .ref 50), (1, .int (nI s))]) (st' := [.int 0]) (μ' := z_giv (z_giv (z_ui (z_ui (z_ui μ 50 0 0) 50 50 (nI c)) 50 51 (-1)) s c (-2)) s c 2) (by rfl) ?_
        exact hr 0 73 _ _ _ (some (.int 0)) (by decide +kernel) (by rfl) (Or.inr ⟨by simp only [thC, h1, h2, h3, Bool.true_or, Bool.true_and, Bool.and_true, Bool.false_and, Bool.and_false, Bool.not_true, Bool.not_false], rfl, Or.inr rfl⟩)
    · have h2 : (decide (2 ≤ (μ.1 60 (34 * s + c)))) = false := decide_eq_false (cn_ge.mp h2)
      refine z_rcs hc hH 1 (pc' := 27) (lv' := [(0, .ref 50), (1, .int (nI s))]) (st' := [.int 0]) (μ' := z_ui μ 50 0 0) (by rfl) ?_
      exact hr 0 27 _ _ _ (some (.int 0)) (by decide +kernel) (by rfl) (Or.inr ⟨by simp only [thC, h1, h2, Bool.true_or, Bool.true_and, Bool.and_true, Bool.false_and, Bool.and_false, Bool.not_true, Bool.not_false], rfl, Or.inl rfl⟩)

/-! the game: four, three of the reference -/
set_option maxRecDepth 8000
theorem SM_giv {a b : zM} (h : SMj a b) {s c : Nat} {n : Int32} : SMj (z_giv a s c n) (z_giv b s c n) := by
  unfold z_giv
  rw [(h 60 (34 * s + c) (by omega)).1]
  exact SM_ui h
theorem SM_lys {a b : zM} (h : SMj a b) {s q : Nat} {so k : Int32} : SMj (z_lys a s q so k) (z_lys b s q so k) := SM_ui (SM_ui (SM_ui h))
theorem SM_to {a b : zM} (h : SMj a b) : SMj (toM a) (toM b) := SM_ui (SM_ui (SM_ui (SM_ui (SM_ui h))))
theorem SM_dM1 {a b : zM} (h : SMj a b) {s n k : Nat} : SMj (dM1 a s n k) (dM1 b s n k) := by
  unfold dM1
  rw [(h 67 s (by omega)).1, (h 68 s (by omega)).1]
  cases decide (a.1 67 s = 0)
  · rw [cond_false, cond_false]; exact SM_ui (SM_ui (SM_ui (SM_ui (SM_ui (SM_ui (SM_ui (SM_giv (SM_ui (SM_ui h)))))))))
  · rw [cond_true, cond_true]; exact SM_ui (SM_ui (SM_ui (SM_ui (SM_ui (SM_ui (SM_ui (SM_ui (SM_giv (SM_ui (SM_ui h))))))))))
theorem SM_cl {a b : zM} (h : SMj a b) {s q : Nat} {so k : Int32} : SMj (clM a s q so k) (clM b s q so k) := SM_ui (SM_ui (SM_ui (SM_ui (SM_ui (SM_to (SM_lys h))))))
abbrev foC (μ : zM) (s c : Nat) (mc : Bool) : Bool := (mc) && (!(decide ((μ.1 60 (34 * s + c)) < 3))) && (!(decide ((μ.1 50 47) = 4)))
theorem gm_four (d : Nat) (hd : 702 ≤ d) (μ : zM) (s c q n k2 : Nat) (hs4 : s < 4) (hc34 : c < 34) (hc49 : μ.1 50 49 = nI c) (hq4 : q < 4) (mc : Bool) (hmc : ∀ d, 2 ≤ d → z_C d mi_X7_mayClaim [.ref 50, .int (nI s)] (z_ui μ 50 0 0) (zR (z_ui μ 50 0 0) (.int (nB mc)))) (O : zM) (hov : ∀ d, 701 ≤ d → z_C d mi_X7_over [.ref 50] (z_ui μ 50 0 0) (fun r W => r = none ∧ SMj O W)) (o49 : O.1 50 49 = nI c) (e64 : O.1 64 s = nI q) (hn2 : n < 14) (o48 : O.1 50 48 = nI n) (hk2 : k2 < 34) (o59 : O.1 59 (122 + n) = nI k2) : z_C d mi_X7_four [.ref 50, .int (nI s)] μ (fun r μ' => (foC μ s c mc = true ∧ r = some (.int 1) ∧ SMj (dM1 (z_ui (toM (z_lys (z_giv O s c (-3)) s q 2 (nI c)) ) 50 47 ((O.1 50 47) + 1)) s n k2) μ') ∨ (foC μ s c mc = false ∧ r = some (.int 0) ∧ μ' = z_ui μ 50 0 0)) := by
  refine z_C_in (by decide) (by omega) (fun d' Z ed hc hr => ?_)
  have hH : zH mi_X7_four zc_X7_four 79 7 2 := ⟨by rfl, by rfl, by rfl, by rfl⟩
  refine z_rcs hc hH 2 (pc' := 2) (lv' := [(0, .ref 50), (1, .int (nI s))]) (st' := [.int 0, .ref 50]) (μ' := μ) (by rfl) ?_
  refine zq_pfi hc hH (by rfl) (ci := 6) (f := 0) (by rfl) (by decide +kernel) (by rfl) ?_
  show Z 0 5 [(0, .ref 50), (1, .int (nI s))] [] (z_ui μ 50 0 0)
  refine z_rcs hc hH 2 (pc' := 7) (lv' := [(0, .ref 50), (1, .int (nI s))]) (st' := [.int (nI s), .ref 50]) (μ' := z_ui μ 50 0 0) (by rfl) ?_
  refine zq_call hc (by rfl) (hmc d' (by omega)) (by decide +kernel) (fun r9 μ9 hq => ?_)
  obtain ⟨hμ9, rfl⟩ := hq
  rw [hμ9]
  clear hμ9 μ9
  show Z 0 10 [(0, .ref 50), (1, .int (nI s))] [.int (nB mc)] (z_ui μ 50 0 0)
  refine zq_if hc hH (by rfl) (tg := 34) (by rfl) (fun h1 => ?_) (fun h1 => ?_)
  · have h1 : (mc) = false := nB_z.mp (cm_eq9.mp h1)
    refine z_rcs hc hH 1 (pc' := 35) (lv' := [(0, .ref 50), (1, .int (nI s))]) (st' := [.int 0]) (μ' := z_ui μ 50 0 0) (by rfl) ?_
    exact hr 0 35 _ _ _ (some (.int 0)) (by decide +kernel) (by rfl) (Or.inr ⟨by simp only [foC, h1, Bool.true_or, Bool.true_and, Bool.and_true, Bool.false_and, Bool.and_false, Bool.not_true, Bool.not_false], rfl, rfl⟩)
  · have h1 : (mc) = true := nB_n.mp (cn_eq.mp h1)
    refine z_rcs hc hH 3 (pc' := 16) (lv' := [(0, .ref 50), (1, .int (nI s))]) (st' := [.ref 50, .int (nI s), .ref 50]) (μ' := z_ui μ 50 0 0) (by rfl) ?_
    refine zq_gfi hc hH (by rfl) (ci := 6) (f := 49) (by rfl) (by decide +kernel) (by rfl) ?_
    rw [ui_k (by omega)]
    rw [hc49]
    refine zq_call hc (by rfl) (fc_X7_has_ d' (by omega) (z_ui μ 50 0 0) s c hs4 hc34) (by decide +kernel) (fun r9 μ9 hq => ?_)
    obtain ⟨hμ9, rfl⟩ := hq
    rw [hμ9]
    clear hμ9 μ9
    rw [ui_o (by omega)]
    show Z 0 22 [(0, .ref 50), (1, .int (nI s))] [.int (μ.1 60 (34 * s + c))] (z_ui μ 50 0 0)
    refine z_rcs hc hH 1 (pc' := 23) (lv' := [(0, .ref 50), (1, .int (nI s))]) (st' := [.int 3, .int (μ.1 60 (34 * s + c))]) (μ' := z_ui μ 50 0 0) (by rfl) ?_
    refine zq_ic hc hH (by rfl) (tg := 34) (by rfl) (fun h2 => ?_) (fun h2 => ?_)
    · have h2 : (decide ((μ.1 60 (34 * s + c)) < 3)) = true := decide_eq_true (cm_lt.mp h2)
      refine z_rcs hc hH 1 (pc' := 35) (lv' := [(0, .ref 50), (1, .int (nI s))]) (st' := [.int 0]) (μ' := z_ui μ 50 0 0) (by rfl) ?_
      exact hr 0 35 _ _ _ (some (.int 0)) (by decide +kernel) (by rfl) (Or.inr ⟨by simp only [foC, h1, h2, Bool.true_or, Bool.true_and, Bool.and_true, Bool.false_and, Bool.and_false, Bool.not_true, Bool.not_false], rfl, rfl⟩)
    · have h2 : (decide ((μ.1 60 (34 * s + c)) < 3)) = false := decide_eq_false (cn_lt.mp h2)
      refine z_rcs hc hH 1 (pc' := 27) (lv' := [(0, .ref 50), (1, .int (nI s))]) (st' := [.ref 50]) (μ' := z_ui μ 50 0 0) (by rfl) ?_
      refine zq_gfi hc hH (by rfl) (ci := 6) (f := 47) (by rfl) (by decide +kernel) (by rfl) ?_
      rw [ui_k (by omega)]
      refine z_rcs hc hH 1 (pc' := 31) (lv' := [(0, .ref 50), (1, .int (nI s))]) (st' := [.int 4, .int (μ.1 50 47)]) (μ' := z_ui μ 50 0 0) (by rfl) ?_
      refine zq_ic hc hH (by rfl) (tg := 36) (by rfl) (fun h3 => ?_) (fun h3 => ?_)
      · have h3 : (decide ((μ.1 50 47) = 4)) = false := decide_eq_false (cm_ne.mp h3)
        refine z_rcs hc hH 1 (pc' := 37) (lv' := [(0, .ref 50), (1, .int (nI s))]) (st' := [.ref 50]) (μ' := z_ui μ 50 0 0) (by rfl) ?_
        refine zq_call hc (by rfl) (hov d' (by omega)) (by decide +kernel) (fun r9 W hq => ?_)
        obtain ⟨rfl, hO⟩ := hq
        show Z 0 40 [(0, .ref 50), (1, .int (nI s))] [] W
        refine z_rcs hc hH 3 (pc' := 43) (lv' := [(0, .ref 50), (1, .int (nI s))]) (st' := [.ref 50, .int (nI s), .ref 50]) (μ' := W) (by rfl) ?_
        refine zq_gfi hc hH (by rfl) (ci := 6) (f := 49) (by rfl) (by decide +kernel) (by rfl) ?_
        rw [(hO _ _ (by omega)).1]
        rw [o49]
        refine z_rcs hc hH 1 (pc' := 48) (lv' := [(0, .ref 50), (1, .int (nI s))]) (st' := [.int (-3), .int (nI c), .int (nI s), .ref 50]) (μ' := W) (by rfl) ?_
        refine zq_call hc (by rfl) (fc_X7_gives d' (by omega) W s c (-3) hs4 hc34) (by decide +kernel) (fun r9 μ9 hq => ?_)
        obtain ⟨rfl, rfl⟩ := hq
        show Z 0 51 [(0, .ref 50), (1, .int (nI s))] [] (z_giv W s c (-3))
        refine z_rcs hc hH 4 (pc' := 55) (lv' := [(0, .ref 50), (1, .int (nI s))]) (st' := [.ref 50, .int 2, .int (nI s), .ref 50]) (μ' := z_giv W s c (-3)) (by rfl) ?_
        refine zq_gfi hc hH (by rfl) (ci := 6) (f := 49) (by rfl) (by decide +kernel) (by rfl) ?_
        rw [giv_o (by omega), (hO _ _ (by omega)).1]
        rw [o49]
        refine zq_call hc (by rfl) (fc_X7_lays d' (by omega) (z_giv W s c (-3)) s q 2 (nI c) hs4 hq4 (by rw [giv_o (by omega), (hO _ _ (by omega)).1]; exact e64)) (by decide +kernel) (fun r9 μ9 hq => ?_)
        obtain ⟨rfl, rfl⟩ := hq
        show Z 0 61 [(0, .ref 50), (1, .int (nI s))] [] (z_lys (z_giv W s c (-3)) s q 2 (nI c))
        refine z_rcs hc hH 1 (pc' := 62) (lv' := [(0, .ref 50), (1, .int (nI s))]) (st' := [.ref 50]) (μ' := z_lys (z_giv W s c (-3)) s q 2 (nI c)) (by rfl) ?_
        refine zq_call hc (by rfl) (gm_touched d' (by omega) (z_lys (z_giv W s c (-3)) s q 2 (nI c))) (by decide +kernel) (fun r9 μ9 hq => ?_)
        obtain ⟨rfl, rfl⟩ := hq
        show Z 0 65 [(0, .ref 50), (1, .int (nI s))] [] (toM (z_lys (z_giv W s c (-3)) s q 2 (nI c)) )
        refine z_rcs hc hH 2 (pc' := 67) (lv' := [(0, .ref 50), (1, .int (nI s))]) (st' := [.ref 50, .ref 50]) (μ' := toM (z_lys (z_giv W s c (-3)) s q 2 (nI c)) ) (by rfl) ?_
        refine zq_gfi hc hH (by rfl) (ci := 6) (f := 47) (by rfl) (by decide +kernel) (by rfl) ?_
        rw [toM_o (by omega), lys_o (by omega), giv_o (by omega), (hO _ _ (by omega)).1]
        refine z_rcs hc hH 2 (pc' := 72) (lv' := [(0, .ref 50), (1, .int (nI s))]) (st' := [.int ((O.1 50 47) + 1), .ref 50]) (μ' := toM (z_lys (z_giv W s c (-3)) s q 2 (nI c)) ) (by rfl) ?_
        refine zq_pfi hc hH (by rfl) (ci := 6) (f := 47) (by rfl) (by decide +kernel) (by rfl) ?_
        show Z 0 75 [(0, .ref 50), (1, .int (nI s))] [] (z_ui (toM (z_lys (z_giv W s c (-3)) s q 2 (nI c)) ) 50 47 ((O.1 50 47) + 1))
        refine z_rcs hc hH 3 (pc' := 78) (lv' := [(0, .ref 50), (1, .int (nI s))]) (st' := [.int 1, .int (nI s), .ref 50]) (μ' := z_ui (toM (z_lys (z_giv W s c (-3)) s q 2 (nI c)) ) 50 47 ((O.1 50 47) + 1)) (by rfl) ?_
        refine zq_call hc (by rfl) (gm_draws1 d' (by omega) (z_ui (toM (z_lys (z_giv W s c (-3)) s q 2 (nI c)) ) 50 47 ((O.1 50 47) + 1)) s n k2 hs4 hn2 (by rw [ui_k (by omega), toM_o (by omega), lys_o (by omega), giv_o (by omega), (hO _ _ (by omega)).1]; exact o48) hk2 (by rw [ui_o (by omega), toM_o (by omega), lys_o (by omega), giv_o (by omega), (hO _ _ (by omega)).1]; exact o59)) (by decide +kernel) (fun r9 μ9 hq => ?_)
        obtain ⟨rfl, rfl⟩ := hq
        show Z 0 81 [(0, .ref 50), (1, .int (nI s))] [] (dM1 (z_ui (toM (z_lys (z_giv W s c (-3)) s q 2 (nI c)) ) 50 47 ((O.1 50 47) + 1)) s n k2)
        refine z_rcs hc hH 1 (pc' := 82) (lv' := [(0, .ref 50), (1, .int (nI s))]) (st' := [.int 1]) (μ' := dM1 (z_ui (toM (z_lys (z_giv W s c (-3)) s q 2 (nI c)) ) 50 47 ((O.1 50 47) + 1)) s n k2) (by rfl) ?_
        exact hr 0 82 _ _ _ (some (.int 1)) (by decide +kernel) (by rfl) (Or.inl ⟨by simp only [foC, h1, h2, h3, Bool.true_or, Bool.true_and, Bool.and_true, Bool.false_and, Bool.and_false, Bool.not_true, Bool.not_false], rfl, SM_dM1 (SM_ui (SM_to (SM_lys (SM_giv (hO)))))⟩)
      · have h3 : (decide ((μ.1 50 47) = 4)) = true := decide_eq_true (cn_ne.mp h3)
        refine z_rcs hc hH 1 (pc' := 35) (lv' := [(0, .ref 50), (1, .int (nI s))]) (st' := [.int 0]) (μ' := z_ui μ 50 0 0) (by rfl) ?_
        exact hr 0 35 _ _ _ (some (.int 0)) (by decide +kernel) (by rfl) (Or.inr ⟨by simp only [foC, h1, h2, h3, Bool.true_or, Bool.true_and, Bool.and_true, Bool.false_and, Bool.and_false, Bool.not_true, Bool.not_false], rfl, rfl⟩)

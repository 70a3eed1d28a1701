/-! the game: pass, discard with a bet, nine of the reference -/
set_option maxRecDepth 8000
theorem SM_dM0 {a b : zM} (h : SMj a b) {s n k : Nat} : SMj (dM0 a s n k) (dM0 b s n k) := by
  unfold dM0
  rw [(h 67 s (by omega)).1, (h 68 s (by omega)).1]
  cases decide (a.1 67 s = 0)
  · rw [cond_false, cond_false]; exact SM_ui (SM_ui (SM_ui (SM_ui (SM_ui (SM_ui (SM_ui (SM_giv (SM_ui (SM_ui h)))))))))
  · rw [cond_true, cond_true]; exact SM_ui (SM_ui (SM_ui (SM_ui (SM_ui (SM_ui (SM_ui (SM_ui (SM_giv (SM_ui (SM_ui h))))))))))
theorem gm_passW (d : Nat) (hd : 702 ≤ d) (μ : zM) (hp : decide (2 ≤ μ.1 50 44) = true) (an : Bool) (han : ∀ d, 2 ≤ d → z_C d mi_X7_anySays [.ref 50] (z_ui μ 50 0 0) (zR (z_ui μ 50 0 0) (.int (nB an)))) (ha : an = true) (NW : zM → Prop) (haw : ∀ d, 701 ≤ d → z_C d mi_X7_allWin [.ref 50] (z_ui μ 50 0 0) (fun r μ' => r = none ∧ NW μ')) : z_C d mi_X7_pass [.ref 50] μ (fun r μ' => r = some (.int 1) ∧ NW μ') := by
  refine z_C_in (by decide) (by omega) (fun d' Z ed hc hr => ?_)
  have hH : zH mi_X7_pass zt_X7_pass 79 7 2 := hh_X7_pass
  refine z_rcs hc hH 2 (pc' := 2) (lv' := [(0, .ref 50)]) (st' := [.int 0, .ref 50]) (μ' := μ) (by rfl) ?_
  refine zq_pfi hc hH (by rfl) (ci := 6) (f := 0) (by rfl) (by decide +kernel) (by rfl) ?_
  show Z 0 5 [(0, .ref 50)] [] (z_ui μ 50 0 0)
  refine z_rcs hc hH 1 (pc' := 6) (lv' := [(0, .ref 50)]) (st' := [.ref 50]) (μ' := z_ui μ 50 0 0) (by rfl) ?_
  refine zq_gfi hc hH (by rfl) (ci := 6) (f := 44) (by rfl) (by decide +kernel) (by rfl) ?_
  refine zV1 (Z := Z) (ui_k (by first | decide | omega)) ?_
  refine z_rcs hc hH 1 (pc' := 10) (lv' := [(0, .ref 50)]) (st' := [.int 2, .int (μ.1 50 44)]) (μ' := z_ui μ 50 0 0) (by rfl) ?_
  refine zq_ic hc hH (by rfl) (tg := 15) (by rfl) (fun h1 => ?_) (fun h1 => ?_)
  · have h1 : (decide (2 ≤ (μ.1 50 44))) = true := decide_eq_true (cm_ge.mp h1)
    refine z_rcs hc hH 1 (pc' := 16) (lv' := [(0, .ref 50)]) (st' := [.ref 50]) (μ' := z_ui μ 50 0 0) (by rfl) ?_
    refine zq_call hc (z_cx_ok hH (by rfl)) (han d' (by omega)) (by decide +kernel) (fun r9 μ9 hq => ?_)
    obtain ⟨hμ9, rfl⟩ := hq
    rw [hμ9]
    clear hμ9 μ9
    show Z 0 19 [(0, .ref 50)] [.int (nB an)] (z_ui μ 50 0 0)
    refine zq_if hc hH (by rfl) (tg := 28) (by rfl) (fun h2 => ?_) (fun h2 => ?_)
    · have h2 : (an) = false := nB_z.mp (cm_eq9.mp h2)
      exact absurd (Eq.trans (Eq.symm (ha)) h2) (by decide)
    · have h2 : (an) = true := nB_n.mp (cn_eq.mp h2)
      refine z_rcs hc hH 1 (pc' := 23) (lv' := [(0, .ref 50)]) (st' := [.ref 50]) (μ' := z_ui μ 50 0 0) (by rfl) ?_
      refine zq_call hc (z_cx_ok hH (by rfl)) (haw d' (by omega)) (by decide +kernel) (fun r9 W hq => ?_)
      obtain ⟨rfl, hN⟩ := hq
      show Z 0 26 [(0, .ref 50)] [] W
      refine z_rcs hc hH 1 (pc' := 27) (lv' := [(0, .ref 50)]) (st' := [.int 1]) (μ' := W) (by rfl) ?_
      exact hr 0 27 _ _ _ (some (.int 1)) (by decide +kernel) (z_rx_ok hH (by rfl)) (⟨rfl, hN⟩)
  · have h1 : (decide (2 ≤ (μ.1 50 44))) = false := decide_eq_false (cn_ge.mp h1)
    exact absurd (Eq.trans (Eq.symm (hp)) h1) (by decide)
theorem gm_pass3 (d : Nat) (hd : 702 ≤ d) (μ : zM) (t n k2 : Nat) (ht4 : t < 4) (hp : decide (2 ≤ μ.1 50 44) = true) (hp3 : decide (μ.1 50 44 = 3) = true) (an : Bool) (han : ∀ d, 2 ≤ d → z_C d mi_X7_anySays [.ref 50] (z_ui μ 50 0 0) (zR (z_ui μ 50 0 0) (.int (nB an)))) (ha : an = false) (O : zM) (hov : ∀ d, 701 ≤ d → z_C d mi_X7_over [.ref 50] (z_ui μ 50 0 0) (fun r W => r = none ∧ SMj O W ∧ a_H W)) (o45 : O.1 50 45 = nI t) (hk2 : k2 < 34) (hn2 : n < 14) (o48 : O.1 50 48 = nI n) (o59 : O.1 59 (122 + n) = nI k2) : z_C d mi_X7_pass [.ref 50] μ (fun r μ' => r = some (.int 1) ∧ SMj (dM1 (toM (z_ui O 50 47 ((O.1 50 47) + 1)) ) t n k2) μ') := by
  refine z_C_in (by decide) (by omega) (fun d' Z ed hc hr => ?_)
  have hH : zH mi_X7_pass zt_X7_pass 79 7 2 := hh_X7_pass
  refine z_rcs hc hH 2 (pc' := 2) (lv' := [(0, .ref 50)]) (st' := [.int 0, .ref 50]) (μ' := μ) (by rfl) ?_
  refine zq_pfi hc hH (by rfl) (ci := 6) (f := 0) (by rfl) (by decide +kernel) (by rfl) ?_
  show Z 0 5 [(0, .ref 50)] [] (z_ui μ 50 0 0)
  refine z_rcs hc hH 1 (pc' := 6) (lv' := [(0, .ref 50)]) (st' := [.ref 50]) (μ' := z_ui μ 50 0 0) (by rfl) ?_
  refine zq_gfi hc hH (by rfl) (ci := 6) (f := 44) (by rfl) (by decide +kernel) (by rfl) ?_
  refine zV1 (Z := Z) (ui_k (by first | decide | omega)) ?_
  refine z_rcs hc hH 1 (pc' := 10) (lv' := [(0, .ref 50)]) (st' := [.int 2, .int (μ.1 50 44)]) (μ' := z_ui μ 50 0 0) (by rfl) ?_
  refine zq_ic hc hH (by rfl) (tg := 15) (by rfl) (fun h1 => ?_) (fun h1 => ?_)
  · have h1 : (decide (2 ≤ (μ.1 50 44))) = true := decide_eq_true (cm_ge.mp h1)
    refine z_rcs hc hH 1 (pc' := 16) (lv' := [(0, .ref 50)]) (st' := [.ref 50]) (μ' := z_ui μ 50 0 0) (by rfl) ?_
    refine zq_call hc (z_cx_ok hH (by rfl)) (han d' (by omega)) (by decide +kernel) (fun r9 μ9 hq => ?_)
    obtain ⟨hμ9, rfl⟩ := hq
    rw [hμ9]
    clear hμ9 μ9
    show Z 0 19 [(0, .ref 50)] [.int (nB an)] (z_ui μ 50 0 0)
    refine zq_if hc hH (by rfl) (tg := 28) (by rfl) (fun h2 => ?_) (fun h2 => ?_)
    · have h2 : (an) = false := nB_z.mp (cm_eq9.mp h2)
      refine z_rcs hc hH 1 (pc' := 29) (lv' := [(0, .ref 50)]) (st' := [.ref 50]) (μ' := z_ui μ 50 0 0) (by rfl) ?_
      refine zq_gfi hc hH (by rfl) (ci := 6) (f := 44) (by rfl) (by decide +kernel) (by rfl) ?_
      refine zV1 (Z := Z) (ui_k (by first | decide | omega)) ?_
      refine z_rcs hc hH 1 (pc' := 33) (lv' := [(0, .ref 50)]) (st' := [.int 3, .int (μ.1 50 44)]) (μ' := z_ui μ 50 0 0) (by rfl) ?_
      refine zq_ic hc hH (by rfl) (tg := 40) (by rfl) (fun h3 => ?_) (fun h3 => ?_)
      · have h3 : (decide ((μ.1 50 44) = 3)) = false := decide_eq_false (cm_ne.mp h3)
        exact absurd (Eq.trans (Eq.symm (hp3)) h3) (by decide)
      · have h3 : (decide ((μ.1 50 44) = 3)) = true := decide_eq_true (cn_ne.mp h3)
        refine z_rcs hc hH 4 (pc' := 43) (lv' := [(1, .int 1), (0, .ref 50)]) (st' := [.ref 50]) (μ' := z_ui μ 50 0 0) (by rfl) ?_
        refine zq_call hc (z_cx_ok hH (by rfl)) (hov d' (by omega)) (by decide +kernel) (fun r9 W hq => ?_)
        obtain ⟨rfl, hO, hAW⟩ := hq
        show Z 0 46 [(1, .int 1), (0, .ref 50)] [] W
        refine z_rcs hc hH 4 (pc' := 52) (lv' := [(1, .int 1), (0, .ref 50)]) (st' := [.ref 50, .ref 50]) (μ' := W) (by rfl) ?_
        refine zq_gfi hc hH (by rfl) (ci := 6) (f := 47) (by rfl) (by decide +kernel) (by rfl) ?_
        rw [(hO 50 47 (by omega)).1]
        refine z_rcs hc hH 2 (pc' := 57) (lv' := [(1, .int 1), (0, .ref 50)]) (st' := [.int ((O.1 50 47) + 1), .ref 50]) (μ' := W) (by rfl) ?_
        refine zq_pfi hc hH (by rfl) (ci := 6) (f := 47) (by rfl) (by decide +kernel) (by rfl) ?_
        show Z 0 60 [(1, .int 1), (0, .ref 50)] [] (z_ui W 50 47 ((O.1 50 47) + 1))
        refine z_rcs0 hc hH 1 (pc' := 61) (lv' := [(1, .int 1), (0, .ref 50)]) (st' := [.ref 50]) (by rfl) ?_
        refine zq_call hc (z_cx_ok hH (by rfl)) (gm_touched d' (by omega) (z_ui W 50 47 ((O.1 50 47) + 1))) (by decide +kernel) (fun r9 μ9 hq => ?_)
        obtain ⟨rfl, rfl⟩ := hq
        show Z 0 64 [(1, .int 1), (0, .ref 50)] [] (toM (z_ui W 50 47 ((O.1 50 47) + 1)) )
        refine z_rcs0 hc hH 2 (pc' := 66) (lv' := [(1, .int 1), (0, .ref 50)]) (st' := [.ref 50, .ref 50]) (by rfl) ?_
        refine zq_gfi hc hH (by rfl) (ci := 6) (f := 45) (by rfl) (by decide +kernel) (by rfl) ?_
        refine zV1 (Z := Z) (Eq.trans (toM_o (by first | decide | omega)) (Eq.trans (ui_k (by first | decide | omega)) (hO 50 45 (by omega)).1)) ?_
        rw [o45]
        refine z_rcs0 hc hH 1 (pc' := 70) (lv' := [(1, .int 1), (0, .ref 50)]) (st' := [.int 1, .int (nI t), .ref 50]) (by rfl) ?_
        refine zq_call hc (z_cx_ok hH (by rfl)) (gm_draws1 d' (by omega) (toM (z_ui W 50 47 ((O.1 50 47) + 1)) ) t n k2 ht4 hn2 (by rw [toM_o (by first | decide | omega), ui_k (by first | decide | omega), (hO 50 48 (by omega)).1]; exact o48) hk2 (by rw [toM_o (by first | decide | omega), ui_o (by first | decide | omega), (hO 59 (122 + n) (by omega)).1]; exact o59)) (by decide +kernel) (fun r9 μ9 hq => ?_)
        obtain ⟨rfl, rfl⟩ := hq
        show Z 0 73 [(1, .int 1), (0, .ref 50)] [] (dM1 (toM (z_ui W 50 47 ((O.1 50 47) + 1)) ) t n k2)
        refine z_rcs0 hc hH 2 (pc' := 104) (lv' := [(1, .int 1), (0, .ref 50)]) (st' := [.int 1]) (by rfl) ?_
        exact hr 0 104 _ _ _ (some (.int 1)) (by decide +kernel) (z_rx_ok hH (by rfl)) (⟨rfl, SM_dM1 (SM_to (SM_ui (hO)))⟩)
    · have h2 : (an) = true := nB_n.mp (cn_eq.mp h2)
      exact absurd (Eq.trans (Eq.symm (ha)) h2) (by decide)
  · have h1 : (decide (2 ≤ (μ.1 50 44))) = false := decide_eq_false (cn_ge.mp h1)
    exact absurd (Eq.trans (Eq.symm (hp)) h1) (by decide)
theorem gm_pass2d (d : Nat) (hd : 702 ≤ d) (μ : zM) (t u1 n k2 : Nat) (ht4 : t < 4) (hu1 : (t + 1) % 4 = u1) (hu14 : u1 < 4) (hp : decide (2 ≤ μ.1 50 44) = true) (hp3 : decide (μ.1 50 44 = 3) = false) (an : Bool) (han : ∀ d, 2 ≤ d → z_C d mi_X7_anySays [.ref 50] (z_ui μ 50 0 0) (zR (z_ui μ 50 0 0) (.int (nB an)))) (ha : an = false) (O : zM) (hov : ∀ d, 701 ≤ d → z_C d mi_X7_over [.ref 50] (z_ui μ 50 0 0) (fun r W => r = none ∧ SMj O W ∧ a_H W)) (o45 : O.1 50 45 = nI t) (hk2 : k2 < 34) (hn2 : n < 136) (o46 : O.1 50 46 = nI n) (o59 : O.1 59 n = nI k2) (hl : decide ((122 - (O.1 50 47)) - (nI n) = 0) = false) : z_C d mi_X7_pass [.ref 50] μ (fun r μ' => r = some (.int 1) ∧ SMj (dM0 O u1 n k2) μ') := by
  refine z_C_in (by decide) (by omega) (fun d' Z ed hc hr => ?_)
  have hH : zH mi_X7_pass zt_X7_pass 79 7 2 := hh_X7_pass
  refine z_rcs hc hH 2 (pc' := 2) (lv' := [(0, .ref 50)]) (st' := [.int 0, .ref 50]) (μ' := μ) (by rfl) ?_
  refine zq_pfi hc hH (by rfl) (ci := 6) (f := 0) (by rfl) (by decide +kernel) (by rfl) ?_
  show Z 0 5 [(0, .ref 50)] [] (z_ui μ 50 0 0)
  refine z_rcs hc hH 1 (pc' := 6) (lv' := [(0, .ref 50)]) (st' := [.ref 50]) (μ' := z_ui μ 50 0 0) (by rfl) ?_
  refine zq_gfi hc hH (by rfl) (ci := 6) (f := 44) (by rfl) (by decide +kernel) (by rfl) ?_
  refine zV1 (Z := Z) (ui_k (by first | decide | omega)) ?_
  refine z_rcs hc hH 1 (pc' := 10) (lv' := [(0, .ref 50)]) (st' := [.int 2, .int (μ.1 50 44)]) (μ' := z_ui μ 50 0 0) (by rfl) ?_
  refine zq_ic hc hH (by rfl) (tg := 15) (by rfl) (fun h1 => ?_) (fun h1 => ?_)
  · have h1 : (decide (2 ≤ (μ.1 50 44))) = true := decide_eq_true (cm_ge.mp h1)
    refine z_rcs hc hH 1 (pc' := 16) (lv' := [(0, .ref 50)]) (st' := [.ref 50]) (μ' := z_ui μ 50 0 0) (by rfl) ?_
    refine zq_call hc (z_cx_ok hH (by rfl)) (han d' (by omega)) (by decide +kernel) (fun r9 μ9 hq => ?_)
    obtain ⟨hμ9, rfl⟩ := hq
    rw [hμ9]
    clear hμ9 μ9
    show Z 0 19 [(0, .ref 50)] [.int (nB an)] (z_ui μ 50 0 0)
    refine zq_if hc hH (by rfl) (tg := 28) (by rfl) (fun h2 => ?_) (fun h2 => ?_)
    · have h2 : (an) = false := nB_z.mp (cm_eq9.mp h2)
      refine z_rcs hc hH 1 (pc' := 29) (lv' := [(0, .ref 50)]) (st' := [.ref 50]) (μ' := z_ui μ 50 0 0) (by rfl) ?_
      refine zq_gfi hc hH (by rfl) (ci := 6) (f := 44) (by rfl) (by decide +kernel) (by rfl) ?_
      refine zV1 (Z := Z) (ui_k (by first | decide | omega)) ?_
      refine z_rcs hc hH 1 (pc' := 33) (lv' := [(0, .ref 50)]) (st' := [.int 3, .int (μ.1 50 44)]) (μ' := z_ui μ 50 0 0) (by rfl) ?_
      refine zq_ic hc hH (by rfl) (tg := 40) (by rfl) (fun h3 => ?_) (fun h3 => ?_)
      · have h3 : (decide ((μ.1 50 44) = 3)) = false := decide_eq_false (cm_ne.mp h3)
        refine z_rcs hc hH 3 (pc' := 43) (lv' := [(1, .int 0), (0, .ref 50)]) (st' := [.ref 50]) (μ' := z_ui μ 50 0 0) (by rfl) ?_
        refine zq_call hc (z_cx_ok hH (by rfl)) (hov d' (by omega)) (by decide +kernel) (fun r9 W hq => ?_)
        obtain ⟨rfl, hO, hAW⟩ := hq
        show Z 0 46 [(1, .int 0), (0, .ref 50)] [] W
        refine z_rcs hc hH 3 (pc' := 77) (lv' := [(1, .int 0), (0, .ref 50)]) (st' := [.ref 50]) (μ' := W) (by rfl) ?_
        refine zq_call hc (z_cx_ok hH (by rfl)) (fx_left d' (by omega) W (O.1 50 47) (nI n) (by rw [(hO 50 47 (by omega)).1]) (by rw [(hO 50 46 (by omega)).1]; exact o46)) (by decide +kernel) (fun r9 μ9 hq => ?_)
        obtain ⟨hμ9, rfl⟩ := hq
        rw [hμ9]
        clear hμ9 μ9
        show Z 0 80 [(1, .int 0), (0, .ref 50)] [.int ((122 - (O.1 50 47)) - (nI n))] W
        refine zq_if hc hH (by rfl) (tg := 90) (by rfl) (fun h4 => ?_) (fun h4 => ?_)
        · have h4 : (decide (((122 - (O.1 50 47)) - (nI n)) = 0)) = false := decide_eq_false (cm_ne.mp h4)
          refine z_rcs hc hH 2 (pc' := 92) (lv' := [(1, .int 0), (0, .ref 50)]) (st' := [.ref 50, .ref 50]) (μ' := W) (by rfl) ?_
          refine zq_gfi hc hH (by rfl) (ci := 6) (f := 45) (by rfl) (by decide +kernel) (by rfl) ?_
          rw [(hO 50 45 (by omega)).1]
          rw [o45]
          refine z_rcs hc hH 2 (pc' := 97) (lv' := [(1, .int 0), (0, .ref 50)]) (st' := [.int ((nI t) + 1), .ref 50]) (μ' := W) (by rfl) ?_
          rw [nI_s1]
          refine z_rcs hc hH 2 (pc' := 99) (lv' := [(1, .int 0), (0, .ref 50)]) (st' := [.int ((nI (t + 1)) - (nI (t + 1)) / 4 * 4), .ref 50]) (μ' := W) (by rfl) ?_
          rw [show nI (t + 1) - nI (t + 1) / 4 * 4 = nI u1 from by rw [rm4 _ (by omega), hu1]]
          refine z_rcs hc hH 1 (pc' := 100) (lv' := [(1, .int 0), (0, .ref 50)]) (st' := [.int 0, .int (nI u1), .ref 50]) (μ' := W) (by rfl) ?_
          refine zq_call hc (z_cx_ok hH (by rfl)) (gm_draws0 d' (by omega) W u1 n k2 hu14 hn2 (by rw [(hO 50 46 (by omega)).1]; exact o46) hk2 (by rw [(hO 59 n (by omega)).1]; exact o59)) (by decide +kernel) (fun r9 μ9 hq => ?_)
          obtain ⟨rfl, rfl⟩ := hq
          show Z 0 103 [(1, .int 0), (0, .ref 50)] [] (dM0 W u1 n k2)
          refine z_rcs hc hH 1 (pc' := 104) (lv' := [(1, .int 0), (0, .ref 50)]) (st' := [.int 1]) (μ' := dM0 W u1 n k2) (by rfl) ?_
          exact hr 0 104 _ _ _ (some (.int 1)) (by decide +kernel) (z_rx_ok hH (by rfl)) (⟨rfl, SM_dM0 (hO)⟩)
        · have h4 : (decide (((122 - (O.1 50 47)) - (nI n)) = 0)) = true := decide_eq_true (cn_ne.mp h4)
          exact absurd (Eq.trans (Eq.symm (hl)) h4) (by decide)
      · have h3 : (decide ((μ.1 50 44) = 3)) = true := decide_eq_true (cn_ne.mp h3)
        exact absurd (Eq.trans (Eq.symm (hp3)) h3) (by decide)
    · have h2 : (an) = true := nB_n.mp (cn_eq.mp h2)
      exact absurd (Eq.trans (Eq.symm (ha)) h2) (by decide)
  · have h1 : (decide (2 ≤ (μ.1 50 44))) = false := decide_eq_false (cn_ge.mp h1)
    exact absurd (Eq.trans (Eq.symm (hp)) h1) (by decide)
theorem gm_pass2u (d : Nat) (hd : 702 ≤ d) (μ : zM) (hp : decide (2 ≤ μ.1 50 44) = true) (hp3 : decide (μ.1 50 44 = 3) = false) (an : Bool) (han : ∀ d, 2 ≤ d → z_C d mi_X7_anySays [.ref 50] (z_ui μ 50 0 0) (zR (z_ui μ 50 0 0) (.int (nB an)))) (ha : an = false) (O : zM) (hov : ∀ d, 701 ≤ d → z_C d mi_X7_over [.ref 50] (z_ui μ 50 0 0) (fun r W => r = none ∧ SMj O W ∧ a_H W)) (hl : decide ((122 - (O.1 50 47)) - (O.1 50 46) = 0) = true) (NW : zM → Prop) (hnw : ∀ W, SMj O W → a_H W → ∀ d, 701 ≤ d → z_C d mi_X7_nobodyWins [.ref 50] W (fun r μ' => r = none ∧ NW μ')) : z_C d mi_X7_pass [.ref 50] μ (fun r μ' => r = some (.int 1) ∧ NW μ') := by
  refine z_C_in (by decide) (by omega) (fun d' Z ed hc hr => ?_)
  have hH : zH mi_X7_pass zt_X7_pass 79 7 2 := hh_X7_pass
  refine z_rcs hc hH 2 (pc' := 2) (lv' := [(0, .ref 50)]) (st' := [.int 0, .ref 50]) (μ' := μ) (by rfl) ?_
  refine zq_pfi hc hH (by rfl) (ci := 6) (f := 0) (by rfl) (by decide +kernel) (by rfl) ?_
  show Z 0 5 [(0, .ref 50)] [] (z_ui μ 50 0 0)
  refine z_rcs hc hH 1 (pc' := 6) (lv' := [(0, .ref 50)]) (st' := [.ref 50]) (μ' := z_ui μ 50 0 0) (by rfl) ?_
  refine zq_gfi hc hH (by rfl) (ci := 6) (f := 44) (by rfl) (by decide +kernel) (by rfl) ?_
  refine zV1 (Z := Z) (ui_k (by first | decide | omega)) ?_
  refine z_rcs hc hH 1 (pc' := 10) (lv' := [(0, .ref 50)]) (st' := [.int 2, .int (μ.1 50 44)]) (μ' := z_ui μ 50 0 0) (by rfl) ?_
  refine zq_ic hc hH (by rfl) (tg := 15) (by rfl) (fun h1 => ?_) (fun h1 => ?_)
  · have h1 : (decide (2 ≤ (μ.1 50 44))) = true := decide_eq_true (cm_ge.mp h1)
    refine z_rcs hc hH 1 (pc' := 16) (lv' := [(0, .ref 50)]) (st' := [.ref 50]) (μ' := z_ui μ 50 0 0) (by rfl) ?_
    refine zq_call hc (z_cx_ok hH (by rfl)) (han d' (by omega)) (by decide +kernel) (fun r9 μ9 hq => ?_)
    obtain ⟨hμ9, rfl⟩ := hq
    rw [hμ9]
    clear hμ9 μ9
    show Z 0 19 [(0, .ref 50)] [.int (nB an)] (z_ui μ 50 0 0)
    refine zq_if hc hH (by rfl) (tg := 28) (by rfl) (fun h2 => ?_) (fun h2 => ?_)
    · have h2 : (an) = false := nB_z.mp (cm_eq9.mp h2)
      refine z_rcs hc hH 1 (pc' := 29) (lv' := [(0, .ref 50)]) (st' := [.ref 50]) (μ' := z_ui μ 50 0 0) (by rfl) ?_
      refine zq_gfi hc hH (by rfl) (ci := 6) (f := 44) (by rfl) (by decide +kernel) (by rfl) ?_
      refine zV1 (Z := Z) (ui_k (by first | decide | omega)) ?_
      refine z_rcs hc hH 1 (pc' := 33) (lv' := [(0, .ref 50)]) (st' := [.int 3, .int (μ.1 50 44)]) (μ' := z_ui μ 50 0 0) (by rfl) ?_
      refine zq_ic hc hH (by rfl) (tg := 40) (by rfl) (fun h3 => ?_) (fun h3 => ?_)
      · have h3 : (decide ((μ.1 50 44) = 3)) = false := decide_eq_false (cm_ne.mp h3)
        refine z_rcs hc hH 3 (pc' := 43) (lv' := [(1, .int 0), (0, .ref 50)]) (st' := [.ref 50]) (μ' := z_ui μ 50 0 0) (by rfl) ?_
        refine zq_call hc (z_cx_ok hH (by rfl)) (hov d' (by omega)) (by decide +kernel) (fun r9 W hq => ?_)
        obtain ⟨rfl, hO, hAW⟩ := hq
        show Z 0 46 [(1, .int 0), (0, .ref 50)] [] W
        refine z_rcs hc hH 3 (pc' := 77) (lv' := [(1, .int 0), (0, .ref 50)]) (st' := [.ref 50]) (μ' := W) (by rfl) ?_
        refine zq_call hc (z_cx_ok hH (by rfl)) (fx_left d' (by omega) W (O.1 50 47) (O.1 50 46) (by rw [(hO 50 47 (by omega)).1]) (by rw [(hO 50 46 (by omega)).1])) (by decide +kernel) (fun r9 μ9 hq => ?_)
        obtain ⟨hμ9, rfl⟩ := hq
        rw [hμ9]
        clear hμ9 μ9
        show Z 0 80 [(1, .int 0), (0, .ref 50)] [.int ((122 - (O.1 50 47)) - (O.1 50 46))] W
        refine zq_if hc hH (by rfl) (tg := 90) (by rfl) (fun h4 => ?_) (fun h4 => ?_)
        · have h4 : (decide (((122 - (O.1 50 47)) - (O.1 50 46)) = 0)) = false := decide_eq_false (cm_ne.mp h4)
          exact absurd (Eq.trans (Eq.symm (hl)) h4) (by decide)
        · have h4 : (decide (((122 - (O.1 50 47)) - (O.1 50 46)) = 0)) = true := decide_eq_true (cn_ne.mp h4)
          refine z_rcs hc hH 1 (pc' := 84) (lv' := [(1, .int 0), (0, .ref 50)]) (st' := [.ref 50]) (μ' := W) (by rfl) ?_
          refine zq_call hc (z_cx_ok hH (by rfl)) (hnw _ hO hAW d' (by omega)) (by decide +kernel) (fun r9 W2 hq => ?_)
          obtain ⟨rfl, hN⟩ := hq
          show Z 1 87 [(1, .int 0), (0, .ref 50)] [] W2
          refine z_rcs hc hH 2 (pc' := 104) (lv' := [(1, .int 0), (0, .ref 50)]) (st' := [.int 1]) (μ' := W2) (by rfl) ?_
          exact hr 1 104 _ _ _ (some (.int 1)) (by decide +kernel) (z_rx_ok hH (by rfl)) (⟨rfl, hN⟩)
      · have h3 : (decide ((μ.1 50 44) = 3)) = true := decide_eq_true (cn_ne.mp h3)
        exact absurd (Eq.trans (Eq.symm (hp3)) h3) (by decide)
    · have h2 : (an) = true := nB_n.mp (cn_eq.mp h2)
      exact absurd (Eq.trans (Eq.symm (ha)) h2) (by decide)
  · have h1 : (decide (2 ≤ (μ.1 50 44))) = false := decide_eq_false (cn_ge.mp h1)
    exact absurd (Eq.trans (Eq.symm (hp)) h1) (by decide)
noncomputable abbrev dsC (μ : zM) (t k : Nat) (op : Bool) (wt : Int64) : Bool := !(decide ((μ.1 60 (34 * t + k)) = 0)) && (bif decide ((μ.1 50 57) = 0) then (decide ((μ.1 67 t) ≤ 0)) && (!op && (!(decide ((μ.1 61 t) < 1000)) && ((decide (4 ≤ ((122 - (μ.1 50 47)) - (μ.1 50 46)))) && (!(decide ((lg_cmp wt 0) = 0)))))) else !(decide ((nI k) = (μ.1 50 50))) && (!(decide ((nI k) = (μ.1 50 51))) && ((decide ((μ.1 67 t) ≤ 0)) && (!op && (!(decide ((μ.1 61 t) < 1000)) && ((decide (4 ≤ ((122 - (μ.1 50 47)) - (μ.1 50 46)))) && (!(decide ((lg_cmp wt 0) = 0)))))))))
noncomputable def dsM (μ : zM) (t k q : Nat) : zM := z_ui (z_ui (z_ui (z_ui (z_ui (z_ui (z_ui (z_giv (z_ui (z_giv (z_giv (z_ui μ 50 0 0) t k (-1)) t k 1) 67 t (bif decide ((nI q) = 0) then bif decide ((μ.1 50 56) = 0) then (1 : Int32) else 2 else 1)) t k (-1)) 65 (136 * t + q) (nI k)) 66 t (nI (q + 1))) 69 t 1) 50 59 1) 50 44 2) 50 49 (nI k)) 50 57 0
theorem gm_discard1 (d : Nat) (hd : 700 ≤ d) (μ : zM) (t : Nat) (ht4 : t < 4) (ht : μ.1 50 45 = nI t) (k q : Nat) (hk : k < 34) (hq : q < 136) (e66 : μ.1 66 t = nI q) (hp : decide (μ.1 50 44 = 1) = true) (op : Bool) (hop : ∀ d, 2 ≤ d → z_C d mi_X7_isOpen_ [.ref 50, .int (nI t)] (z_ui μ 50 0 0) (zR (z_ui μ 50 0 0) (.int (nB op)))) (wt : Int64) (hwt : ∀ d, 699 ≤ d → z_C d mi_X7_waitsAt [.ref 50, .int (nI t)] (z_giv (z_ui μ 50 0 0) t k (-1)) (fun r W => r = some (.long wt) ∧ SMj (z_giv (z_ui μ 50 0 0) t k (-1)) W ∧ a_H W)) : z_C d mi_X7_discard [.ref 50, .int (nI k), .int 1] μ (fun r μ' => (dsC μ t k op wt = true ∧ r = some (.int 1) ∧ SMj (dsM μ t k q) μ') ∨ (dsC μ t k op wt = false ∧ r = some (.int 0) ∧ (SMj (z_ui μ 50 0 0) μ' ∨ SMj (z_giv (z_giv (z_ui μ 50 0 0) t k (-1)) t k 1) μ'))) := by
  refine z_C_in (by decide) (by omega) (fun d' Z ed hc hr => ?_)
  have hH : zH mi_X7_discard zt_X7_discard 79 7 5 := hh_X7_discard
  refine z_rcs hc hH 2 (pc' := 2) (lv' := [(0, .ref 50), (1, .int (nI k)), (2, .int 1)]) (st' := [.int 0, .ref 50]) (μ' := μ) (by rfl) ?_
  refine zq_pfi hc hH (by rfl) (ci := 6) (f := 0) (by rfl) (by decide +kernel) (by rfl) ?_
  show Z 0 5 [(0, .ref 50), (1, .int (nI k)), (2, .int 1)] [] (z_ui μ 50 0 0)
  refine z_rcs hc hH 1 (pc' := 6) (lv' := [(0, .ref 50), (1, .int (nI k)), (2, .int 1)]) (st' := [.ref 50]) (μ' := z_ui μ 50 0 0) (by rfl) ?_
  refine zq_gfi hc hH (by rfl) (ci := 6) (f := 44) (by rfl) (by decide +kernel) (by rfl) ?_
  refine zV1 (Z := Z) (ui_k (by first | decide | omega)) ?_
  refine z_rcs hc hH 1 (pc' := 10) (lv' := [(0, .ref 50), (1, .int (nI k)), (2, .int 1)]) (st' := [.int 1, .int (μ.1 50 44)]) (μ' := z_ui μ 50 0 0) (by rfl) ?_
  refine zq_ic hc hH (by rfl) (tg := 32) (by rfl) (fun h1 => ?_) (fun h1 => ?_)
  · have h1 : (decide ((μ.1 50 44) = 1)) = false := decide_eq_false (cm_ne.mp h1)
    exact absurd (Eq.trans (Eq.symm (hp)) h1) (by decide)
  · have h1 : (decide ((μ.1 50 44) = 1)) = true := decide_eq_true (cn_ne.mp h1)
    refine z_rcs hc hH 1 (pc' := 14) (lv' := [(0, .ref 50), (1, .int (nI k)), (2, .int 1)]) (st' := [.int (nI k)]) (μ' := z_ui μ 50 0 0) (by rfl) ?_
    refine zq_call hc (z_cx_ok hH (by rfl)) (gm_isKindN d' (by omega) (z_ui μ 50 0 0) k hk) (by decide +kernel) (fun r9 μ9 hq => ?_)
    obtain ⟨hμ9, rfl⟩ := hq
    rw [hμ9]
    clear hμ9 μ9
    show Z 0 17 [(0, .ref 50), (1, .int (nI k)), (2, .int 1)] [.int 1] (z_ui μ 50 0 0)
    refine z_rcs hc hH 3 (pc' := 22) (lv' := [(0, .ref 50), (1, .int (nI k)), (2, .int 1)]) (st' := [.ref 50, .ref 50]) (μ' := z_ui μ 50 0 0) (by rfl) ?_
    refine zq_gfi hc hH (by rfl) (ci := 6) (f := 45) (by rfl) (by decide +kernel) (by rfl) ?_
    refine zV1 (Z := Z) (ui_k (by first | decide | omega)) ?_
    rw [ht]
    refine z_rcs hc hH 1 (pc' := 26) (lv' := [(0, .ref 50), (1, .int (nI k)), (2, .int 1)]) (st' := [.int (nI k), .int (nI t), .ref 50]) (μ' := z_ui μ 50 0 0) (by rfl) ?_
    refine zq_call hc (z_cx_ok hH (by rfl)) (fc_X7_has_ d' (by omega) (z_ui μ 50 0 0) t k ht4 hk) (by decide +kernel) (fun r9 μ9 hq => ?_)
    obtain ⟨hμ9, rfl⟩ := hq
    rw [hμ9]
    clear hμ9 μ9
    rw [ui_o (by first | decide | omega)]
    show Z 0 29 [(0, .ref 50), (1, .int (nI k)), (2, .int 1)] [.int (μ.1 60 (34 * t + k))] (z_ui μ 50 0 0)
    refine zq_if hc hH (by rfl) (tg := 34) (by rfl) (fun h2 => ?_) (fun h2 => ?_)
    · have h2 : (decide ((μ.1 60 (34 * t + k)) = 0)) = false := decide_eq_false (cm_ne.mp h2)
      refine z_rcs hc hH 1 (pc' := 35) (lv' := [(0, .ref 50), (1, .int (nI k)), (2, .int 1)]) (st' := [.ref 50]) (μ' := z_ui μ 50 0 0) (by rfl) ?_
      refine zq_gfi hc hH (by rfl) (ci := 6) (f := 57) (by rfl) (by decide +kernel) (by rfl) ?_
      refine zV1 (Z := Z) (ui_k (by first | decide | omega)) ?_
      refine zq_if hc hH (by rfl) (tg := 57) (by rfl) (fun h3 => ?_) (fun h3 => ?_)
      · have h3 : (decide ((μ.1 50 57) = 0)) = true := decide_eq_true (cm_eq9.mp h3)
        refine z_rcs hc hH 1 (pc' := 58) (lv' := [(0, .ref 50), (1, .int (nI k)), (2, .int 1)]) (st' := [.ref 50]) (μ' := z_ui μ 50 0 0) (by rfl) ?_
        refine zq_gfr hc hH (by rfl) (ci := 6) (f := 35) (q := 67) (by rfl) (by decide +kernel) (by rfl) (by decide +kernel) ?_
        refine z_rcs hc hH 1 (pc' := 62) (lv' := [(0, .ref 50), (1, .int (nI k)), (2, .int 1)]) (st' := [.ref 50, .ref 67]) (μ' := z_ui μ 50 0 0) (by rfl) ?_
        refine zq_gfi hc hH (by rfl) (ci := 6) (f := 45) (by rfl) (by decide +kernel) (by rfl) ?_
        refine zV1 (Z := Z) (ui_k (by first | decide | omega)) ?_
        rw [ht]
        refine zq_iald hc hH (by rfl) 4 (oka_i (by decide +kernel)) (vp_in_nI (by omega) (by decide)) ?_
        rw [nI_clamp (by omega)]
        refine zV1 (Z := Z) (ui_o (by first | decide | omega)) ?_
        refine zq_if hc hH (by rfl) (tg := 83) (by rfl) (fun h4 => ?_) (fun h4 => ?_)
        · have h4 : (decide ((μ.1 67 t) ≤ 0)) = true := decide_eq_true (cm_le.mp h4)
          refine z_rcs hc hH 4 (pc' := 89) (lv' := [(0, .ref 50), (1, .int (nI k)), (2, .int 1)]) (st' := [.ref 50, .ref 50]) (μ' := z_ui μ 50 0 0) (by rfl) ?_
          refine zq_gfi hc hH (by rfl) (ci := 6) (f := 45) (by rfl) (by decide +kernel) (by rfl) ?_
          refine zV1 (Z := Z) (ui_k (by first | decide | omega)) ?_
          rw [ht]
          refine zq_call hc (z_cx_ok hH (by rfl)) (hop d' (by omega)) (by decide +kernel) (fun r9 μ9 hq => ?_)
          obtain ⟨hμ9, rfl⟩ := hq
          rw [hμ9]
          clear hμ9 μ9
          show Z 0 95 [(0, .ref 50), (1, .int (nI k)), (2, .int 1)] [.int (nB op)] (z_ui μ 50 0 0)
          refine zq_if hc hH (by rfl) (tg := 121) (by rfl) (fun h5 => ?_) (fun h5 => ?_)
          · have h5 : (op) = true := nB_n.mp (cm_ne.mp h5)
            refine z_rcs hc hH 1 (pc' := 122) (lv' := [(0, .ref 50), (1, .int (nI k)), (2, .int 1)]) (st' := [.int 0]) (μ' := z_ui μ 50 0 0) (by rfl) ?_
            exact hr 0 122 _ _ _ (some (.int 0)) (by decide +kernel) (z_rx_ok hH (by rfl)) (Or.inr ⟨by simp only [dsC, h2, h3, h4, h5, Bool.true_or, Bool.true_and, Bool.and_true, Bool.false_and, Bool.and_false, Bool.not_true, Bool.not_false, Bool.or_true, Bool.or_false, Bool.false_or, cond_true, cond_false], rfl, Or.inl (SM_rf _)⟩)
          · have h5 : (op) = false := nB_z.mp (cn_ne.mp h5)
            refine z_rcs hc hH 1 (pc' := 99) (lv' := [(0, .ref 50), (1, .int (nI k)), (2, .int 1)]) (st' := [.ref 50]) (μ' := z_ui μ 50 0 0) (by rfl) ?_
            refine zq_gfr hc hH (by rfl) (ci := 6) (f := 29) (q := 61) (by rfl) (by decide +kernel) (by rfl) (by decide +kernel) ?_
            refine z_rcs hc hH 1 (pc' := 103) (lv' := [(0, .ref 50), (1, .int (nI k)), (2, .int 1)]) (st' := [.ref 50, .ref 61]) (μ' := z_ui μ 50 0 0) (by rfl) ?_
            refine zq_gfi hc hH (by rfl) (ci := 6) (f := 45) (by rfl) (by decide +kernel) (by rfl) ?_
            refine zV1 (Z := Z) (ui_k (by first | decide | omega)) ?_
            rw [ht]
            refine zq_iald hc hH (by rfl) 4 (oka_i (by decide +kernel)) (vp_in_nI (by omega) (by decide)) ?_
            rw [nI_clamp (by omega)]
            refine zV1 (Z := Z) (ui_o (by first | decide | omega)) ?_
            refine z_rcs hc hH 1 (pc' := 110) (lv' := [(0, .ref 50), (1, .int (nI k)), (2, .int 1)]) (st' := [.int 1000, .int (μ.1 61 t)]) (μ' := z_ui μ 50 0 0) (by rfl) ?_
            refine zq_ic hc hH (by rfl) (tg := 121) (by rfl) (fun h6 => ?_) (fun h6 => ?_)
            · have h6 : (decide ((μ.1 61 t) < 1000)) = true := decide_eq_true (cm_lt.mp h6)
              refine z_rcs hc hH 1 (pc' := 122) (lv' := [(0, .ref 50), (1, .int (nI k)), (2, .int 1)]) (st' := [.int 0]) (μ' := z_ui μ 50 0 0) (by rfl) ?_
              exact hr 0 122 _ _ _ (some (.int 0)) (by decide +kernel) (z_rx_ok hH (by rfl)) (Or.inr ⟨by simp only [dsC, h2, h3, h4, h5, h6, Bool.true_or, Bool.true_and, Bool.and_true, Bool.false_and, Bool.and_false, Bool.not_true, Bool.not_false, Bool.or_true, Bool.or_false, Bool.false_or, cond_true, cond_false], rfl, Or.inl (SM_rf _)⟩)
            · have h6 : (decide ((μ.1 61 t) < 1000)) = false := decide_eq_false (cn_lt.mp h6)
              refine z_rcs hc hH 1 (pc' := 114) (lv' := [(0, .ref 50), (1, .int (nI k)), (2, .int 1)]) (st' := [.ref 50]) (μ' := z_ui μ 50 0 0) (by rfl) ?_
              refine zq_call hc (z_cx_ok hH (by rfl)) (fx_left d' (by omega) (z_ui μ 50 0 0) (μ.1 50 47) (μ.1 50 46) (by rw [ui_k (by first | decide | omega)]) (by rw [ui_k (by first | decide | omega)])) (by decide +kernel) (fun r9 μ9 hq => ?_)
              obtain ⟨hμ9, rfl⟩ := hq
              rw [hμ9]
              clear hμ9 μ9
              show Z 0 117 [(0, .ref 50), (1, .int (nI k)), (2, .int 1)] [.int ((122 - (μ.1 50 47)) - (μ.1 50 46))] (z_ui μ 50 0 0)
              refine z_rcs hc hH 1 (pc' := 118) (lv' := [(0, .ref 50), (1, .int (nI k)), (2, .int 1)]) (st' := [.int 4, .int ((122 - (μ.1 50 47)) - (μ.1 50 46))]) (μ' := z_ui μ 50 0 0) (by rfl) ?_
              refine zq_ic hc hH (by rfl) (tg := 123) (by rfl) (fun h7 => ?_) (fun h7 => ?_)
              · have h7 : (decide (4 ≤ ((122 - (μ.1 50 47)) - (μ.1 50 46)))) = true := decide_eq_true (cm_ge.mp h7)
                refine z_rcs hc hH 2 (pc' := 125) (lv' := [(0, .ref 50), (1, .int (nI k)), (2, .int 1)]) (st' := [.ref 50, .ref 50]) (μ' := z_ui μ 50 0 0) (by rfl) ?_
                refine zq_gfi hc hH (by rfl) (ci := 6) (f := 45) (by rfl) (by decide +kernel) (by rfl) ?_
                refine zV1 (Z := Z) (ui_k (by first | decide | omega)) ?_
                rw [ht]
                refine z_rcs hc hH 2 (pc' := 130) (lv' := [(0, .ref 50), (1, .int (nI k)), (2, .int 1)]) (st' := [.int (-1), .int (nI k), .int (nI t), .ref 50]) (μ' := z_ui μ 50 0 0) (by rfl) ?_
                refine zq_call hc (z_cx_ok hH (by rfl)) (fc_X7_gives d' (by omega) (z_ui μ 50 0 0) t k (-1) ht4 hk) (by decide +kernel) (fun r9 μ9 hq => ?_)
                obtain ⟨rfl, rfl⟩ := hq
                show Z 0 133 [(0, .ref 50), (1, .int (nI k)), (2, .int 1)] [] (z_giv (z_ui μ 50 0 0) t k (-1))
                refine z_rcs0 hc hH 2 (pc' := 135) (lv' := [(0, .ref 50), (1, .int (nI k)), (2, .int 1)]) (st' := [.ref 50, .ref 50]) (by rfl) ?_
                refine zq_gfi hc hH (by rfl) (ci := 6) (f := 45) (by rfl) (by decide +kernel) (by rfl) ?_
                refine zV1 (Z := Z) (Eq.trans (giv_o (by first | decide | omega)) (ui_k (by first | decide | omega))) ?_
                rw [ht]
                refine zq_call hc (z_cx_ok hH (by rfl)) (hwt d' (by omega)) (by decide +kernel) (fun r9 W hq9 => ?_)
                obtain ⟨rfl, hO, hAW⟩ := hq9
                show Z 0 141 [(0, .ref 50), (1, .int (nI k)), (2, .int 1)] [.long wt] W
                refine z_rcs hc hH 3 (pc' := 144) (lv' := [(3, .long wt), (0, .ref 50), (1, .int (nI k)), (2, .int 1)]) (st' := [.ref 50, .ref 50]) (μ' := W) (by rfl) ?_
                refine zq_gfi hc hH (by rfl) (ci := 6) (f := 45) (by rfl) (by decide +kernel) (by rfl) ?_
                refine zV1 (Z := Z) (Eq.trans (hO 50 45 (by omega)).1 (Eq.trans (giv_o (by first | decide | omega)) (ui_k (by first | decide | omega)))) ?_
                rw [ht]
                refine z_rcs hc hH 2 (pc' := 149) (lv' := [(3, .long wt), (0, .ref 50), (1, .int (nI k)), (2, .int 1)]) (st' := [.int 1, .int (nI k), .int (nI t), .ref 50]) (μ' := W) (by rfl) ?_
                refine zq_call hc (z_cx_ok hH (by rfl)) (fc_X7_gives d' (by omega) W t k 1 ht4 hk) (by decide +kernel) (fun r9 μ9 hq => ?_)
                obtain ⟨rfl, rfl⟩ := hq
                show Z 0 152 [(3, .long wt), (0, .ref 50), (1, .int (nI k)), (2, .int 1)] [] (z_giv W t k 1)
                refine z_rcs hc hH 3 (pc' := 155) (lv' := [(3, .long wt), (0, .ref 50), (1, .int (nI k)), (2, .int 1)]) (st' := [.int (lg_cmp wt 0)]) (μ' := z_giv W t k 1) (by rfl) ?_
                refine zq_if hc hH (by rfl) (tg := 160) (by rfl) (fun h8 => ?_) (fun h8 => ?_)
                · have h8 : (decide ((lg_cmp wt 0) = 0)) = false := decide_eq_false (cm_ne.mp h8)
                  refine z_rcs hc hH 1 (pc' := 161) (lv' := [(3, .long wt), (0, .ref 50), (1, .int (nI k)), (2, .int 1)]) (st' := [.ref 50]) (μ' := z_giv W t k 1) (by rfl) ?_
                  refine zq_gfr hc hH (by rfl) (ci := 6) (f := 35) (q := 67) (by rfl) (by decide +kernel) (by rfl) (by decide +kernel) ?_
                  refine z_rcs hc hH 1 (pc' := 165) (lv' := [(3, .long wt), (0, .ref 50), (1, .int (nI k)), (2, .int 1)]) (st' := [.ref 50, .ref 67]) (μ' := z_giv W t k 1) (by rfl) ?_
                  refine zq_gfi hc hH (by rfl) (ci := 6) (f := 45) (by rfl) (by decide +kernel) (by rfl) ?_
                  refine zV1 (Z := Z) (Eq.trans (giv_o (by first | decide | omega)) (Eq.trans (hO 50 45 (by omega)).1 (Eq.trans (giv_o (by first | decide | omega)) (ui_k (by first | decide | omega))))) ?_
                  rw [ht]
                  refine z_rcs hc hH 1 (pc' := 169) (lv' := [(3, .long wt), (0, .ref 50), (1, .int (nI k)), (2, .int 1)]) (st' := [.ref 50, .int (nI t), .ref 67]) (μ' := z_giv W t k 1) (by rfl) ?_
                  refine zq_gfr hc hH (by rfl) (ci := 6) (f := 34) (q := 66) (by rfl) (by decide +kernel) (by rfl) (by decide +kernel) ?_
                  refine z_rcs hc hH 1 (pc' := 173) (lv' := [(3, .long wt), (0, .ref 50), (1, .int (nI k)), (2, .int 1)]) (st' := [.ref 50, .ref 66, .int (nI t), .ref 67]) (μ' := z_giv W t k 1) (by rfl) ?_
                  refine zq_gfi hc hH (by rfl) (ci := 6) (f := 45) (by rfl) (by decide +kernel) (by rfl) ?_
                  refine zV1 (Z := Z) (Eq.trans (giv_o (by first | decide | omega)) (Eq.trans (hO 50 45 (by omega)).1 (Eq.trans (giv_o (by first | decide | omega)) (ui_k (by first | decide | omega))))) ?_
                  rw [ht]
                  refine zq_iald hc hH (by rfl) 4 (oka_i (by decide +kernel)) (vp_in_nI (by omega) (by decide)) ?_
                  rw [nI_clamp (by omega)]
                  refine zV1 (Z := Z) (Eq.trans (giv_o (by first | decide | omega)) (Eq.trans (hO 66 t (by omega)).1 (Eq.trans (giv_o (by first | decide | omega)) (ui_o (by first | decide | omega))))) ?_
                  rw [e66]
                  have hJ9 : Z 0 192 [(3, .long wt), (0, .ref 50), (1, .int (nI k)), (2, .int 1)] [.int (bif decide ((nI q) = 0) then bif decide ((μ.1 50 56) = 0) then (1 : Int32) else 2 else 1), .int (nI t), .ref 67] (z_giv W t k 1) := by
                    refine zq_iast hc hH (by rfl) 4 (oka_i (by decide +kernel)).2 (vp_in_nI (by omega) (by decide)) ?_
                    rw [nI_clamp (by omega)]
                    show Z 0 193 [(3, .long wt), (0, .ref 50), (1, .int (nI k)), (2, .int 1)] [] (z_ui (z_giv W t k 1) 67 t (bif decide ((nI q) = 0) then bif decide ((μ.1 50 56) = 0) then (1 : Int32) else 2 else 1))
                    refine z_rcs0 hc hH 2 (pc' := 195) (lv' := [(3, .long wt), (0, .ref 50), (1, .int (nI k)), (2, .int 1)]) (st' := [.ref 50, .ref 50]) (by rfl) ?_
                    refine zq_gfi hc hH (by rfl) (ci := 6) (f := 45) (by rfl) (by decide +kernel) (by rfl) ?_
                    refine zV1 (Z := Z) (Eq.trans (ui_o (by first | decide | omega)) (Eq.trans (giv_o (by first | decide | omega)) (Eq.trans (hO 50 45 (by omega)).1 (Eq.trans (giv_o (by first | decide | omega)) (ui_k (by first | decide | omega)))))) ?_
                    rw [ht]
                    refine z_rcs0 hc hH 2 (pc' := 200) (lv' := [(3, .long wt), (0, .ref 50), (1, .int (nI k)), (2, .int 1)]) (st' := [.int (-1), .int (nI k), .int (nI t), .ref 50]) (by rfl) ?_
                    refine zq_call hc (z_cx_ok hH (by rfl)) (fc_X7_gives d' (by omega) (z_ui (z_giv W t k 1) 67 t (bif decide ((nI q) = 0) then bif decide ((μ.1 50 56) = 0) then (1 : Int32) else 2 else 1)) t k (-1) ht4 hk) (by decide +kernel) (fun r9 μ9 hq => ?_)
                    obtain ⟨rfl, rfl⟩ := hq
                    show Z 0 203 [(3, .long wt), (0, .ref 50), (1, .int (nI k)), (2, .int 1)] [] (z_giv (z_ui (z_giv W t k 1) 67 t (bif decide ((nI q) = 0) then bif decide ((μ.1 50 56) = 0) then (1 : Int32) else 2 else 1)) t k (-1))
                    refine z_rcs0 hc hH 1 (pc' := 204) (lv' := [(3, .long wt), (0, .ref 50), (1, .int (nI k)), (2, .int 1)]) (st' := [.ref 50]) (by rfl) ?_
                    refine zq_gfr hc hH (by rfl) (ci := 6) (f := 33) (q := 65) (by rfl) (by decide +kernel) (by rfl) (by decide +kernel) ?_
                    refine z_rcs0 hc hH 2 (pc' := 211) (lv' := [(3, .long wt), (0, .ref 50), (1, .int (nI k)), (2, .int 1)]) (st' := [.ref 50, .int 136, .ref 65]) (by rfl) ?_
                    refine zq_gfi hc hH (by rfl) (ci := 6) (f := 45) (by rfl) (by decide +kernel) (by rfl) ?_
                    refine zV1 (Z := Z) (Eq.trans (giv_o (by first | decide | omega)) (Eq.trans (ui_o (by first | decide | omega)) (Eq.trans (giv_o (by first | decide | omega)) (Eq.trans (hO 50 45 (by omega)).1 (Eq.trans (giv_o (by first | decide | omega)) (ui_k (by first | decide | omega))))))) ?_
                    rw [ht]
                    refine z_rcs0 hc hH 2 (pc' := 216) (lv' := [(3, .long wt), (0, .ref 50), (1, .int (nI k)), (2, .int 1)]) (st' := [.ref 50, .int (136 * (nI t)), .ref 65]) (by rfl) ?_
                    refine zq_gfr hc hH (by rfl) (ci := 6) (f := 34) (q := 66) (by rfl) (by decide +kernel) (by rfl) (by decide +kernel) ?_
                    refine z_rcs0 hc hH 1 (pc' := 220) (lv' := [(3, .long wt), (0, .ref 50), (1, .int (nI k)), (2, .int 1)]) (st' := [.ref 50, .ref 66, .int (136 * (nI t)), .ref 65]) (by rfl) ?_
                    refine zq_gfi hc hH (by rfl) (ci := 6) (f := 45) (by rfl) (by decide +kernel) (by rfl) ?_
                    refine zV1 (Z := Z) (Eq.trans (giv_o (by first | decide | omega)) (Eq.trans (ui_o (by first | decide | omega)) (Eq.trans (giv_o (by first | decide | omega)) (Eq.trans (hO 50 45 (by omega)).1 (Eq.trans (giv_o (by first | decide | omega)) (ui_k (by first | decide | omega))))))) ?_
                    rw [ht]
                    refine zq_iald hc hH (by rfl) 4 (oka_i (by decide +kernel)) (vp_in_nI (by omega) (by decide)) ?_
                    rw [nI_clamp (by omega)]
                    refine zV1 (Z := Z) (Eq.trans (giv_o (by first | decide | omega)) (Eq.trans (ui_o (by first | decide | omega)) (Eq.trans (giv_o (by first | decide | omega)) (Eq.trans (hO 66 t (by omega)).1 (Eq.trans (giv_o (by first | decide | omega)) (ui_o (by first | decide | omega))))))) ?_
                    rw [e66]
                    refine z_rcs0 hc hH 1 (pc' := 225) (lv' := [(3, .long wt), (0, .ref 50), (1, .int (nI k)), (2, .int 1)]) (st' := [.int ((136 * (nI t)) + (nI q)), .ref 65]) (by rfl) ?_
                    rw [nI_136]
                    refine z_rcs0 hc hH 1 (pc' := 226) (lv' := [(3, .long wt), (0, .ref 50), (1, .int (nI k)), (2, .int 1)]) (st' := [.int (nI k), .int (nI (136 * t + q)), .ref 65]) (by rfl) ?_
                    refine zq_iast hc hH (by rfl) 544 (oka_i (by decide +kernel)).2 (vp_in_nI (by omega) (by decide)) ?_
                    rw [nI_clamp (by omega)]
                    show Z 0 227 [(3, .long wt), (0, .ref 50), (1, .int (nI k)), (2, .int 1)] [] (z_ui (z_giv (z_ui (z_giv W t k 1) 67 t (bif decide ((nI q) = 0) then bif decide ((μ.1 50 56) = 0) then (1 : Int32) else 2 else 1)) t k (-1)) 65 (136 * t + q) (nI k))
                    refine z_rcs0 hc hH 1 (pc' := 228) (lv' := [(3, .long wt), (0, .ref 50), (1, .int (nI k)), (2, .int 1)]) (st' := [.ref 50]) (by rfl) ?_
                    refine zq_gfr hc hH (by rfl) (ci := 6) (f := 34) (q := 66) (by rfl) (by decide +kernel) (by rfl) (by decide +kernel) ?_
                    refine z_rcs0 hc hH 1 (pc' := 232) (lv' := [(3, .long wt), (0, .ref 50), (1, .int (nI k)), (2, .int 1)]) (st' := [.ref 50, .ref 66]) (by rfl) ?_
                    refine zq_gfi hc hH (by rfl) (ci := 6) (f := 45) (by rfl) (by decide +kernel) (by rfl) ?_
                    refine zV1 (Z := Z) (Eq.trans (ui_o (by first | decide | omega)) (Eq.trans (giv_o (by first | decide | omega)) (Eq.trans (ui_o (by first | decide | omega)) (Eq.trans (giv_o (by first | decide | omega)) (Eq.trans (hO 50 45 (by omega)).1 (Eq.trans (giv_o (by first | decide | omega)) (ui_k (by first | decide | omega)))))))) ?_
                    rw [ht]
                    refine z_rcs0 hc hH 1 (pc' := 236) (lv' := [(3, .long wt), (0, .ref 50), (1, .int (nI k)), (2, .int 1)]) (st' := [.int (nI t), .ref 66, .int (nI t), .ref 66]) (by rfl) ?_
                    refine zq_iald hc hH (by rfl) 4 (oka_i (by decide +kernel)) (vp_in_nI (by omega) (by decide)) ?_
                    rw [nI_clamp (by omega)]
                    refine zV1 (Z := Z) (Eq.trans (ui_o (by first | decide | omega)) (Eq.trans (giv_o (by first | decide | omega)) (Eq.trans (ui_o (by first | decide | omega)) (Eq.trans (giv_o (by first | decide | omega)) (Eq.trans (hO 66 t (by omega)).1 (Eq.trans (giv_o (by first | decide | omega)) (ui_o (by first | decide | omega)))))))) ?_
                    rw [e66]
                    refine z_rcs0 hc hH 2 (pc' := 239) (lv' := [(3, .long wt), (0, .ref 50), (1, .int (nI k)), (2, .int 1)]) (st' := [.int ((nI q) + 1), .int (nI t), .ref 66]) (by rfl) ?_
                    rw [nI_s1]
                    refine zq_iast hc hH (by rfl) 4 (oka_i (by decide +kernel)).2 (vp_in_nI (by omega) (by decide)) ?_
                    rw [nI_clamp (by omega)]
                    show Z 0 240 [(3, .long wt), (0, .ref 50), (1, .int (nI k)), (2, .int 1)] [] (z_ui (z_ui (z_giv (z_ui (z_giv W t k 1) 67 t (bif decide ((nI q) = 0) then bif decide ((μ.1 50 56) = 0) then (1 : Int32) else 2 else 1)) t k (-1)) 65 (136 * t + q) (nI k)) 66 t (nI (q + 1)))
                    refine z_rcs0 hc hH 1 (pc' := 241) (lv' := [(3, .long wt), (0, .ref 50), (1, .int (nI k)), (2, .int 1)]) (st' := [.ref 50]) (by rfl) ?_
                    refine zq_gfr hc hH (by rfl) (ci := 6) (f := 37) (q := 69) (by rfl) (by decide +kernel) (by rfl) (by decide +kernel) ?_
                    refine z_rcs0 hc hH 1 (pc' := 245) (lv' := [(3, .long wt), (0, .ref 50), (1, .int (nI k)), (2, .int 1)]) (st' := [.ref 50, .ref 69]) (by rfl) ?_
                    refine zq_gfi hc hH (by rfl) (ci := 6) (f := 45) (by rfl) (by decide +kernel) (by rfl) ?_
                    refine zV1 (Z := Z) (Eq.trans (ui_o (by first | decide | omega)) (Eq.trans (ui_o (by first | decide | omega)) (Eq.trans (giv_o (by first | decide | omega)) (Eq.trans (ui_o (by first | decide | omega)) (Eq.trans (giv_o (by first | decide | omega)) (Eq.trans (hO 50 45 (by omega)).1 (Eq.trans (giv_o (by first | decide | omega)) (ui_k (by first | decide | omega))))))))) ?_
                    rw [ht]
                    refine z_rcs0 hc hH 1 (pc' := 249) (lv' := [(3, .long wt), (0, .ref 50), (1, .int (nI k)), (2, .int 1)]) (st' := [.int 1, .int (nI t), .ref 69]) (by rfl) ?_
                    refine zq_bast hc hH (by rfl) 4 (by decide +kernel) (vp_in_nI (by omega) (by decide)) (by decide) ?_
                    rw [nI_clamp (by omega)]
                    show Z 0 250 [(3, .long wt), (0, .ref 50), (1, .int (nI k)), (2, .int 1)] [] (z_ui (z_ui (z_ui (z_giv (z_ui (z_giv W t k 1) 67 t (bif decide ((nI q) = 0) then bif decide ((μ.1 50 56) = 0) then (1 : Int32) else 2 else 1)) t k (-1)) 65 (136 * t + q) (nI k)) 66 t (nI (q + 1))) 69 t 1)
                    refine z_rcs0 hc hH 2 (pc' := 252) (lv' := [(3, .long wt), (0, .ref 50), (1, .int (nI k)), (2, .int 1)]) (st' := [.int 1, .ref 50]) (by rfl) ?_
                    refine zq_pfb hc hH (by rfl) (ci := 6) (f := 59) (by rfl) (by decide +kernel) (by rfl) (by decide) ?_
                    show Z 0 255 [(3, .long wt), (0, .ref 50), (1, .int (nI k)), (2, .int 1)] [] (z_ui (z_ui (z_ui (z_ui (z_giv (z_ui (z_giv W t k 1) 67 t (bif decide ((nI q) = 0) then bif decide ((μ.1 50 56) = 0) then (1 : Int32) else 2 else 1)) t k (-1)) 65 (136 * t + q) (nI k)) 66 t (nI (q + 1))) 69 t 1) 50 59 1)
                    refine z_rcs0 hc hH 2 (pc' := 257) (lv' := [(3, .long wt), (0, .ref 50), (1, .int (nI k)), (2, .int 1)]) (st' := [.int 2, .ref 50]) (by rfl) ?_
                    refine zq_pfi hc hH (by rfl) (ci := 6) (f := 44) (by rfl) (by decide +kernel) (by rfl) ?_
                    show Z 0 260 [(3, .long wt), (0, .ref 50), (1, .int (nI k)), (2, .int 1)] [] (z_ui (z_ui (z_ui (z_ui (z_ui (z_giv (z_ui (z_giv W t k 1) 67 t (bif decide ((nI q) = 0) then bif decide ((μ.1 50 56) = 0) then (1 : Int32) else 2 else 1)) t k (-1)) 65 (136 * t + q) (nI k)) 66 t (nI (q + 1))) 69 t 1) 50 59 1) 50 44 2)
                    refine z_rcs0 hc hH 2 (pc' := 262) (lv' := [(3, .long wt), (0, .ref 50), (1, .int (nI k)), (2, .int 1)]) (st' := [.int (nI k), .ref 50]) (by rfl) ?_
                    refine zq_pfi hc hH (by rfl) (ci := 6) (f := 49) (by rfl) (by decide +kernel) (by rfl) ?_
                    show Z 0 265 [(3, .long wt), (0, .ref 50), (1, .int (nI k)), (2, .int 1)] [] (z_ui (z_ui (z_ui (z_ui (z_ui (z_ui (z_giv (z_ui (z_giv W t k 1) 67 t (bif decide ((nI q) = 0) then bif decide ((μ.1 50 56) = 0) then (1 : Int32) else 2 else 1)) t k (-1)) 65 (136 * t + q) (nI k)) 66 t (nI (q + 1))) 69 t 1) 50 59 1) 50 44 2) 50 49 (nI k))
                    refine z_rcs0 hc hH 2 (pc' := 267) (lv' := [(3, .long wt), (0, .ref 50), (1, .int (nI k)), (2, .int 1)]) (st' := [.int 0, .ref 50]) (by rfl) ?_
                    refine zq_pfb hc hH (by rfl) (ci := 6) (f := 57) (by rfl) (by decide +kernel) (by rfl) (by decide) ?_
                    show Z 0 270 [(3, .long wt), (0, .ref 50), (1, .int (nI k)), (2, .int 1)] [] (z_ui (z_ui (z_ui (z_ui (z_ui (z_ui (z_ui (z_giv (z_ui (z_giv W t k 1) 67 t (bif decide ((nI q) = 0) then bif decide ((μ.1 50 56) = 0) then (1 : Int32) else 2 else 1)) t k (-1)) 65 (136 * t + q) (nI k)) 66 t (nI (q + 1))) 69 t 1) 50 59 1) 50 44 2) 50 49 (nI k)) 50 57 0)
                    refine z_rcs0 hc hH 1 (pc' := 271) (lv' := [(3, .long wt), (0, .ref 50), (1, .int (nI k)), (2, .int 1)]) (st' := [.int 1]) (by rfl) ?_
                    exact hr 0 271 _ _ _ (some (.int 1)) (by decide +kernel) (z_rx_ok hH (by rfl)) (Or.inl ⟨by simp only [dsC, h2, h3, h4, h5, h6, h7, h8, Bool.true_or, Bool.true_and, Bool.and_true, Bool.false_and, Bool.and_false, Bool.not_true, Bool.not_false, Bool.or_true, Bool.or_false, Bool.false_or, cond_true, cond_false], rfl, by unfold dsM; exact SM_ui (SM_ui (SM_ui (SM_ui (SM_ui (SM_ui (SM_ui (SM_giv (SM_ui (SM_giv (hO))))))))))⟩)
                  refine zq_if hc hH (by rfl) (tg := 191) (by rfl) (fun h10 => ?_) (fun h10 => ?_)
                  · have h10 : (decide ((nI q) = 0)) = false := decide_eq_false (cm_ne.mp h10)
                    refine z_rcs hc hH 1 (pc' := 192) (lv' := [(3, .long wt), (0, .ref 50), (1, .int (nI k)), (2, .int 1)]) (st' := [.int 1, .int (nI t), .ref 67]) (μ' := z_giv W t k 1) (by rfl) ?_
                    exact zJ hJ9 rfl (by first | with_reducible rfl | (simp only [h10, lb_f, Int64.or_zero, Int32.add_zero, nB_t, nB_f, Bool.not_true, Bool.not_false, Bool.and_true, Bool.true_and, Bool.false_and, Bool.and_false, Bool.or_true, Bool.true_or, Bool.false_or, Bool.or_false, cond_true, cond_false]; done) | rfl) rfl
                  · have h10 : (decide ((nI q) = 0)) = true := decide_eq_true (cn_ne.mp h10)
                    refine z_rcs hc hH 1 (pc' := 181) (lv' := [(3, .long wt), (0, .ref 50), (1, .int (nI k)), (2, .int 1)]) (st' := [.ref 50, .int (nI t), .ref 67]) (μ' := z_giv W t k 1) (by rfl) ?_
                    refine zq_gfi hc hH (by rfl) (ci := 6) (f := 56) (by rfl) (by decide +kernel) (by rfl) ?_
                    refine zV1 (Z := Z) (Eq.trans (giv_o (by first | decide | omega)) (Eq.trans (hO 50 56 (by omega)).1 (Eq.trans (giv_o (by first | decide | omega)) (ui_k (by first | decide | omega))))) ?_
                    refine zq_if hc hH (by rfl) (tg := 191) (by rfl) (fun h11 => ?_) (fun h11 => ?_)
                    · have h11 : (decide ((μ.1 50 56) = 0)) = true := decide_eq_true (cm_eq9.mp h11)
                      refine z_rcs hc hH 1 (pc' := 192) (lv' := [(3, .long wt), (0, .ref 50), (1, .int (nI k)), (2, .int 1)]) (st' := [.int 1, .int (nI t), .ref 67]) (μ' := z_giv W t k 1) (by rfl) ?_
                      exact zJ hJ9 rfl (by first | with_reducible rfl | (simp only [h10, h11, lb_f, Int64.or_zero, Int32.add_zero, nB_t, nB_f, Bool.not_true, Bool.not_false, Bool.and_true, Bool.true_and, Bool.false_and, Bool.and_false, Bool.or_true, Bool.true_or, Bool.false_or, Bool.or_false, cond_true, cond_false]; done) | rfl) rfl
                    · have h11 : (decide ((μ.1 50 56) = 0)) = false := decide_eq_false (cn_eq.mp h11)
                      refine z_rcs hc hH 2 (pc' := 192) (lv' := [(3, .long wt), (0, .ref 50), (1, .int (nI k)), (2, .int 1)]) (st' := [.int 2, .int (nI t), .ref 67]) (μ' := z_giv W t k 1) (by rfl) ?_
                      exact zJ hJ9 rfl (by first | with_reducible rfl | (simp only [h10, h11, lb_f, Int64.or_zero, Int32.add_zero, nB_t, nB_f, Bool.not_true, Bool.not_false, Bool.and_true, Bool.true_and, Bool.false_and, Bool.and_false, Bool.or_true, Bool.true_or, Bool.false_or, Bool.or_false, cond_true, cond_false]; done) | rfl) rfl
                · have h8 : (decide ((lg_cmp wt 0) = 0)) = true := decide_eq_true (cn_ne.mp h8)
                  refine z_rcs hc hH 1 (pc' := 159) (lv' := [(3, .long wt), (0, .ref 50), (1, .int (nI k)), (2, .int 1)]) (st' := [.int 0]) (μ' := z_giv W t k 1) (by rfl) ?_
                  exact hr 0 159 _ _ _ (some (.int 0)) (by decide +kernel) (z_rx_ok hH (by rfl)) (Or.inr ⟨by simp only [dsC, h2, h3, h4, h5, h6, h7, h8, Bool.true_or, Bool.true_and, Bool.and_true, Bool.false_and, Bool.and_false, Bool.not_true, Bool.not_false, Bool.or_true, Bool.or_false, Bool.false_or, cond_true, cond_false], rfl, Or.inr (SM_giv (hO))⟩)
              · have h7 : (decide (4 ≤ ((122 - (μ.1 50 47)) - (μ.1 50 46)))) = false := decide_eq_false (cn_ge.mp h7)
                refine z_rcs hc hH 1 (pc' := 122) (lv' := [(0, .ref 50), (1, .int (nI k)), (2, .int 1)]) (st' := [.int 0]) (μ' := z_ui μ 50 0 0) (by rfl) ?_
                exact hr 0 122 _ _ _ (some (.int 0)) (by decide +kernel) (z_rx_ok hH (by rfl)) (Or.inr ⟨by simp only [dsC, h2, h3, h4, h5, h6, h7, Bool.true_or, Bool.true_and, Bool.and_true, Bool.false_and, Bool.and_false, Bool.not_true, Bool.not_false, Bool.or_true, Bool.or_false, Bool.false_or, cond_true, cond_false], rfl, Or.inl (SM_rf _)⟩)
        · have h4 : (decide ((μ.1 67 t) ≤ 0)) = false := decide_eq_false (cn_le.mp h4)
          refine z_rcs hc hH 3 (pc' := 82) (lv' := [(0, .ref 50), (1, .int (nI k)), (2, .int 1)]) (st' := [.int 0]) (μ' := z_ui μ 50 0 0) (by rfl) ?_
          exact hr 0 82 _ _ _ (some (.int 0)) (by decide +kernel) (z_rx_ok hH (by rfl)) (Or.inr ⟨by simp only [dsC, h2, h3, h4, Bool.true_or, Bool.true_and, Bool.and_true, Bool.false_and, Bool.and_false, Bool.not_true, Bool.not_false, Bool.or_true, Bool.or_false, Bool.false_or, cond_true, cond_false], rfl, Or.inl (SM_rf _)⟩)
      · have h3 : (decide ((μ.1 50 57) = 0)) = false := decide_eq_false (cn_eq.mp h3)
        refine z_rcs hc hH 2 (pc' := 43) (lv' := [(0, .ref 50), (1, .int (nI k)), (2, .int 1)]) (st' := [.ref 50, .int (nI k)]) (μ' := z_ui μ 50 0 0) (by rfl) ?_
        refine zq_gfi hc hH (by rfl) (ci := 6) (f := 50) (by rfl) (by decide +kernel) (by rfl) ?_
        refine zV1 (Z := Z) (ui_k (by first | decide | omega)) ?_
        refine zq_ic hc hH (by rfl) (tg := 81) (by rfl) (fun h12 => ?_) (fun h12 => ?_)
        · have h12 : (decide ((nI k) = (μ.1 50 50))) = true := decide_eq_true (cm_eq9.mp h12)
          refine z_rcs hc hH 1 (pc' := 82) (lv' := [(0, .ref 50), (1, .int (nI k)), (2, .int 1)]) (st' := [.int 0]) (μ' := z_ui μ 50 0 0) (by rfl) ?_
          exact hr 0 82 _ _ _ (some (.int 0)) (by decide +kernel) (z_rx_ok hH (by rfl)) (Or.inr ⟨by simp only [dsC, h2, h3, h12, Bool.true_or, Bool.true_and, Bool.and_true, Bool.false_and, Bool.and_false, Bool.not_true, Bool.not_false, Bool.or_true, Bool.or_false, Bool.false_or, cond_true, cond_false], rfl, Or.inl (SM_rf _)⟩)
        · have h12 : (decide ((nI k) = (μ.1 50 50))) = false := decide_eq_false (cn_eq.mp h12)
          refine z_rcs hc hH 2 (pc' := 51) (lv' := [(0, .ref 50), (1, .int (nI k)), (2, .int 1)]) (st' := [.ref 50, .int (nI k)]) (μ' := z_ui μ 50 0 0) (by rfl) ?_
          refine zq_gfi hc hH (by rfl) (ci := 6) (f := 51) (by rfl) (by decide +kernel) (by rfl) ?_
          refine zV1 (Z := Z) (ui_k (by first | decide | omega)) ?_
          refine zq_ic hc hH (by rfl) (tg := 81) (by rfl) (fun h13 => ?_) (fun h13 => ?_)
          · have h13 : (decide ((nI k) = (μ.1 50 51))) = true := decide_eq_true (cm_eq9.mp h13)
            refine z_rcs hc hH 1 (pc' := 82) (lv' := [(0, .ref 50), (1, .int (nI k)), (2, .int 1)]) (st' := [.int 0]) (μ' := z_ui μ 50 0 0) (by rfl) ?_
            exact hr 0 82 _ _ _ (some (.int 0)) (by decide +kernel) (z_rx_ok hH (by rfl)) (Or.inr ⟨by simp only [dsC, h2, h3, h12, h13, Bool.true_or, Bool.true_and, Bool.and_true, Bool.false_and, Bool.and_false, Bool.not_true, Bool.not_false, Bool.or_true, Bool.or_false, Bool.false_or, cond_true, cond_false], rfl, Or.inl (SM_rf _)⟩)
          · have h13 : (decide ((nI k) = (μ.1 50 51))) = false := decide_eq_false (cn_eq.mp h13)
            refine z_rcs hc hH 1 (pc' := 58) (lv' := [(0, .ref 50), (1, .int (nI k)), (2, .int 1)]) (st' := [.ref 50]) (μ' := z_ui μ 50 0 0) (by rfl) ?_
            refine zq_gfr hc hH (by rfl) (ci := 6) (f := 35) (q := 67) (by rfl) (by decide +kernel) (by rfl) (by decide +kernel) ?_
            refine z_rcs hc hH 1 (pc' := 62) (lv' := [(0, .ref 50), (1, .int (nI k)), (2, .int 1)]) (st' := [.ref 50, .ref 67]) (μ' := z_ui μ 50 0 0) (by rfl) ?_
            refine zq_gfi hc hH (by rfl) (ci := 6) (f := 45) (by rfl) (by decide +kernel) (by rfl) ?_
            refine zV1 (Z := Z) (ui_k (by first | decide | omega)) ?_
            rw [ht]
            refine zq_iald hc hH (by rfl) 4 (oka_i (by decide +kernel)) (vp_in_nI (by omega) (by decide)) ?_
            rw [nI_clamp (by omega)]
            refine zV1 (Z := Z) (ui_o (by first | decide | omega)) ?_
            refine zq_if hc hH (by rfl) (tg := 83) (by rfl) (fun h14 => ?_) (fun h14 => ?_)
            · have h14 : (decide ((μ.1 67 t) ≤ 0)) = true := decide_eq_true (cm_le.mp h14)
              refine z_rcs hc hH 4 (pc' := 89) (lv' := [(0, .ref 50), (1, .int (nI k)), (2, .int 1)]) (st' := [.ref 50, .ref 50]) (μ' := z_ui μ 50 0 0) (by rfl) ?_
              refine zq_gfi hc hH (by rfl) (ci := 6) (f := 45) (by rfl) (by decide +kernel) (by rfl) ?_
              refine zV1 (Z := Z) (ui_k (by first | decide | omega)) ?_
              rw [ht]
              refine zq_call hc (z_cx_ok hH (by rfl)) (hop d' (by omega)) (by decide +kernel) (fun r9 μ9 hq => ?_)
              obtain ⟨hμ9, rfl⟩ := hq
              rw [hμ9]
              clear hμ9 μ9
              show Z 0 95 [(0, .ref 50), (1, .int (nI k)), (2, .int 1)] [.int (nB op)] (z_ui μ 50 0 0)
              refine zq_if hc hH (by rfl) (tg := 121) (by rfl) (fun h15 => ?_) (fun h15 => ?_)
              · have h15 : (op) = true := nB_n.mp (cm_ne.mp h15)
                refine z_rcs hc hH 1 (pc' := 122) (lv' := [(0, .ref 50), (1, .int (nI k)), (2, .int 1)]) (st' := [.int 0]) (μ' := z_ui μ 50 0 0) (by rfl) ?_
                exact hr 0 122 _ _ _ (some (.int 0)) (by decide +kernel) (z_rx_ok hH (by rfl)) (Or.inr ⟨by simp only [dsC, h2, h3, h12, h13, h14, h15, Bool.true_or, Bool.true_and, Bool.and_true, Bool.false_and, Bool.and_false, Bool.not_true, Bool.not_false, Bool.or_true, Bool.or_false, Bool.false_or, cond_true, cond_false], rfl, Or.inl (SM_rf _)⟩)
              · have h15 : (op) = false := nB_z.mp (cn_ne.mp h15)
                refine z_rcs hc hH 1 (pc' := 99) (lv' := [(0, .ref 50), (1, .int (nI k)), (2, .int 1)]) (st' := [.ref 50]) (μ' := z_ui μ 50 0 0) (by rfl) ?_
                refine zq_gfr hc hH (by rfl) (ci := 6) (f := 29) (q := 61) (by rfl) (by decide +kernel) (by rfl) (by decide +kernel) ?_
                refine z_rcs hc hH 1 (pc' := 103) (lv' := [(0, .ref 50), (1, .int (nI k)), (2, .int 1)]) (st' := [.ref 50, .ref 61]) (μ' := z_ui μ 50 0 0) (by rfl) ?_
                refine zq_gfi hc hH (by rfl) (ci := 6) (f := 45) (by rfl) (by decide +kernel) (by rfl) ?_
                refine zV1 (Z := Z) (ui_k (by first | decide | omega)) ?_
                rw [ht]
                refine zq_iald hc hH (by rfl) 4 (oka_i (by decide +kernel)) (vp_in_nI (by omega) (by decide)) ?_
                rw [nI_clamp (by omega)]
                refine zV1 (Z := Z) (ui_o (by first | decide | omega)) ?_
                refine z_rcs hc hH 1 (pc' := 110) (lv' := [(0, .ref 50), (1, .int (nI k)), (2, .int 1)]) (st' := [.int 1000, .int (μ.1 61 t)]) (μ' := z_ui μ 50 0 0) (by rfl) ?_
                refine zq_ic hc hH (by rfl) (tg := 121) (by rfl) (fun h16 => ?_) (fun h16 => ?_)
                · have h16 : (decide ((μ.1 61 t) < 1000)) = true := decide_eq_true (cm_lt.mp h16)
                  refine z_rcs hc hH 1 (pc' := 122) (lv' := [(0, .ref 50), (1, .int (nI k)), (2, .int 1)]) (st' := [.int 0]) (μ' := z_ui μ 50 0 0) (by rfl) ?_
                  exact hr 0 122 _ _ _ (some (.int 0)) (by decide +kernel) (z_rx_ok hH (by rfl)) (Or.inr ⟨by simp only [dsC, h2, h3, h12, h13, h14, h15, h16, Bool.true_or, Bool.true_and, Bool.and_true, Bool.false_and, Bool.and_false, Bool.not_true, Bool.not_false, Bool.or_true, Bool.or_false, Bool.false_or, cond_true, cond_false], rfl, Or.inl (SM_rf _)⟩)
                · have h16 : (decide ((μ.1 61 t) < 1000)) = false := decide_eq_false (cn_lt.mp h16)
                  refine z_rcs hc hH 1 (pc' := 114) (lv' := [(0, .ref 50), (1, .int (nI k)), (2, .int 1)]) (st' := [.ref 50]) (μ' := z_ui μ 50 0 0) (by rfl) ?_
                  refine zq_call hc (z_cx_ok hH (by rfl)) (fx_left d' (by omega) (z_ui μ 50 0 0) (μ.1 50 47) (μ.1 50 46) (by rw [ui_k (by first | decide | omega)]) (by rw [ui_k (by first | decide | omega)])) (by decide +kernel) (fun r9 μ9 hq => ?_)
                  obtain ⟨hμ9, rfl⟩ := hq
                  rw [hμ9]
                  clear hμ9 μ9
                  show Z 0 117 [(0, .ref 50), (1, .int (nI k)), (2, .int 1)] [.int ((122 - (μ.1 50 47)) - (μ.1 50 46))] (z_ui μ 50 0 0)
                  refine z_rcs hc hH 1 (pc' := 118) (lv' := [(0, .ref 50), (1, .int (nI k)), (2, .int 1)]) (st' := [.int 4, .int ((122 - (μ.1 50 47)) - (μ.1 50 46))]) (μ' := z_ui μ 50 0 0) (by rfl) ?_
                  refine zq_ic hc hH (by rfl) (tg := 123) (by rfl) (fun h17 => ?_) (fun h17 => ?_)
                  · have h17 : (decide (4 ≤ ((122 - (μ.1 50 47)) - (μ.1 50 46)))) = true := decide_eq_true (cm_ge.mp h17)
                    refine z_rcs hc hH 2 (pc' := 125) (lv' := [(0, .ref 50), (1, .int (nI k)), (2, .int 1)]) (st' := [.ref 50, .ref 50]) (μ' := z_ui μ 50 0 0) (by rfl) ?_
                    refine zq_gfi hc hH (by rfl) (ci := 6) (f := 45) (by rfl) (by decide +kernel) (by rfl) ?_
                    refine zV1 (Z := Z) (ui_k (by first | decide | omega)) ?_
                    rw [ht]
                    refine z_rcs hc hH 2 (pc' := 130) (lv' := [(0, .ref 50), (1, .int (nI k)), (2, .int 1)]) (st' := [.int (-1), .int (nI k), .int (nI t), .ref 50]) (μ' := z_ui μ 50 0 0) (by rfl) ?_
                    refine zq_call hc (z_cx_ok hH (by rfl)) (fc_X7_gives d' (by omega) (z_ui μ 50 0 0) t k (-1) ht4 hk) (by decide +kernel) (fun r9 μ9 hq => ?_)
                    obtain ⟨rfl, rfl⟩ := hq
                    show Z 0 133 [(0, .ref 50), (1, .int (nI k)), (2, .int 1)] [] (z_giv (z_ui μ 50 0 0) t k (-1))
                    refine z_rcs0 hc hH 2 (pc' := 135) (lv' := [(0, .ref 50), (1, .int (nI k)), (2, .int 1)]) (st' := [.ref 50, .ref 50]) (by rfl) ?_
                    refine zq_gfi hc hH (by rfl) (ci := 6) (f := 45) (by rfl) (by decide +kernel) (by rfl) ?_
                    refine zV1 (Z := Z) (Eq.trans (giv_o (by first | decide | omega)) (ui_k (by first | decide | omega))) ?_
                    rw [ht]
                    refine zq_call hc (z_cx_ok hH (by rfl)) (hwt d' (by omega)) (by decide +kernel) (fun r9 W hq9 => ?_)
                    obtain ⟨rfl, hO, hAW⟩ := hq9
                    show Z 0 141 [(0, .ref 50), (1, .int (nI k)), (2, .int 1)] [.long wt] W
                    refine z_rcs hc hH 3 (pc' := 144) (lv' := [(3, .long wt), (0, .ref 50), (1, .int (nI k)), (2, .int 1)]) (st' := [.ref 50, .ref 50]) (μ' := W) (by rfl) ?_
                    refine zq_gfi hc hH (by rfl) (ci := 6) (f := 45) (by rfl) (by decide +kernel) (by rfl) ?_
                    refine zV1 (Z := Z) (Eq.trans (hO 50 45 (by omega)).1 (Eq.trans (giv_o (by first | decide | omega)) (ui_k (by first | decide | omega)))) ?_
                    rw [ht]
                    refine z_rcs hc hH 2 (pc' := 149) (lv' := [(3, .long wt), (0, .ref 50), (1, .int (nI k)), (2, .int 1)]) (st' := [.int 1, .int (nI k), .int (nI t), .ref 50]) (μ' := W) (by rfl) ?_
                    refine zq_call hc (z_cx_ok hH (by rfl)) (fc_X7_gives d' (by omega) W t k 1 ht4 hk) (by decide +kernel) (fun r9 μ9 hq => ?_)
                    obtain ⟨rfl, rfl⟩ := hq
                    show Z 0 152 [(3, .long wt), (0, .ref 50), (1, .int (nI k)), (2, .int 1)] [] (z_giv W t k 1)
                    refine z_rcs hc hH 3 (pc' := 155) (lv' := [(3, .long wt), (0, .ref 50), (1, .int (nI k)), (2, .int 1)]) (st' := [.int (lg_cmp wt 0)]) (μ' := z_giv W t k 1) (by rfl) ?_
                    refine zq_if hc hH (by rfl) (tg := 160) (by rfl) (fun h18 => ?_) (fun h18 => ?_)
                    · have h18 : (decide ((lg_cmp wt 0) = 0)) = false := decide_eq_false (cm_ne.mp h18)
                      refine z_rcs hc hH 1 (pc' := 161) (lv' := [(3, .long wt), (0, .ref 50), (1, .int (nI k)), (2, .int 1)]) (st' := [.ref 50]) (μ' := z_giv W t k 1) (by rfl) ?_
                      refine zq_gfr hc hH (by rfl) (ci := 6) (f := 35) (q := 67) (by rfl) (by decide +kernel) (by rfl) (by decide +kernel) ?_
                      refine z_rcs hc hH 1 (pc' := 165) (lv' := [(3, .long wt), (0, .ref 50), (1, .int (nI k)), (2, .int 1)]) (st' := [.ref 50, .ref 67]) (μ' := z_giv W t k 1) (by rfl) ?_
                      refine zq_gfi hc hH (by rfl) (ci := 6) (f := 45) (by rfl) (by decide +kernel) (by rfl) ?_
                      refine zV1 (Z := Z) (Eq.trans (giv_o (by first | decide | omega)) (Eq.trans (hO 50 45 (by omega)).1 (Eq.trans (giv_o (by first | decide | omega)) (ui_k (by first | decide | omega))))) ?_
                      rw [ht]
                      refine z_rcs hc hH 1 (pc' := 169) (lv' := [(3, .long wt), (0, .ref 50), (1, .int (nI k)), (2, .int 1)]) (st' := [.ref 50, .int (nI t), .ref 67]) (μ' := z_giv W t k 1) (by rfl) ?_
                      refine zq_gfr hc hH (by rfl) (ci := 6) (f := 34) (q := 66) (by rfl) (by decide +kernel) (by rfl) (by decide +kernel) ?_
                      refine z_rcs hc hH 1 (pc' := 173) (lv' := [(3, .long wt), (0, .ref 50), (1, .int (nI k)), (2, .int 1)]) (st' := [.ref 50, .ref 66, .int (nI t), .ref 67]) (μ' := z_giv W t k 1) (by rfl) ?_
                      refine zq_gfi hc hH (by rfl) (ci := 6) (f := 45) (by rfl) (by decide +kernel) (by rfl) ?_
                      refine zV1 (Z := Z) (Eq.trans (giv_o (by first | decide | omega)) (Eq.trans (hO 50 45 (by omega)).1 (Eq.trans (giv_o (by first | decide | omega)) (ui_k (by first | decide | omega))))) ?_
                      rw [ht]
                      refine zq_iald hc hH (by rfl) 4 (oka_i (by decide +kernel)) (vp_in_nI (by omega) (by decide)) ?_
                      rw [nI_clamp (by omega)]
                      refine zV1 (Z := Z) (Eq.trans (giv_o (by first | decide | omega)) (Eq.trans (hO 66 t (by omega)).1 (Eq.trans (giv_o (by first | decide | omega)) (ui_o (by first | decide | omega))))) ?_
                      rw [e66]
                      have hJ19 : Z 0 192 [(3, .long wt), (0, .ref 50), (1, .int (nI k)), (2, .int 1)] [.int (bif decide ((nI q) = 0) then bif decide ((μ.1 50 56) = 0) then (1 : Int32) else 2 else 1), .int (nI t), .ref 67] (z_giv W t k 1) := by
                        refine zq_iast hc hH (by rfl) 4 (oka_i (by decide +kernel)).2 (vp_in_nI (by omega) (by decide)) ?_
                        rw [nI_clamp (by omega)]
                        show Z 0 193 [(3, .long wt), (0, .ref 50), (1, .int (nI k)), (2, .int 1)] [] (z_ui (z_giv W t k 1) 67 t (bif decide ((nI q) = 0) then bif decide ((μ.1 50 56) = 0) then (1 : Int32) else 2 else 1))
                        refine z_rcs0 hc hH 2 (pc' := 195) (lv' := [(3, .long wt), (0, .ref 50), (1, .int (nI k)), (2, .int 1)]) (st' := [.ref 50, .ref 50]) (by rfl) ?_
                        refine zq_gfi hc hH (by rfl) (ci := 6) (f := 45) (by rfl) (by decide +kernel) (by rfl) ?_
                        refine zV1 (Z := Z) (Eq.trans (ui_o (by first | decide | omega)) (Eq.trans (giv_o (by first | decide | omega)) (Eq.trans (hO 50 45 (by omega)).1 (Eq.trans (giv_o (by first | decide | omega)) (ui_k (by first | decide | omega)))))) ?_
                        rw [ht]
                        refine z_rcs0 hc hH 2 (pc' := 200) (lv' := [(3, .long wt), (0, .ref 50), (1, .int (nI k)), (2, .int 1)]) (st' := [.int (-1), .int (nI k), .int (nI t), .ref 50]) (by rfl) ?_
                        refine zq_call hc (z_cx_ok hH (by rfl)) (fc_X7_gives d' (by omega) (z_ui (z_giv W t k 1) 67 t (bif decide ((nI q) = 0) then bif decide ((μ.1 50 56) = 0) then (1 : Int32) else 2 else 1)) t k (-1) ht4 hk) (by decide +kernel) (fun r9 μ9 hq => ?_)
                        obtain ⟨rfl, rfl⟩ := hq
                        show Z 0 203 [(3, .long wt), (0, .ref 50), (1, .int (nI k)), (2, .int 1)] [] (z_giv (z_ui (z_giv W t k 1) 67 t (bif decide ((nI q) = 0) then bif decide ((μ.1 50 56) = 0) then (1 : Int32) else 2 else 1)) t k (-1))
                        refine z_rcs0 hc hH 1 (pc' := 204) (lv' := [(3, .long wt), (0, .ref 50), (1, .int (nI k)), (2, .int 1)]) (st' := [.ref 50]) (by rfl) ?_
                        refine zq_gfr hc hH (by rfl) (ci := 6) (f := 33) (q := 65) (by rfl) (by decide +kernel) (by rfl) (by decide +kernel) ?_
                        refine z_rcs0 hc hH 2 (pc' := 211) (lv' := [(3, .long wt), (0, .ref 50), (1, .int (nI k)), (2, .int 1)]) (st' := [.ref 50, .int 136, .ref 65]) (by rfl) ?_
                        refine zq_gfi hc hH (by rfl) (ci := 6) (f := 45) (by rfl) (by decide +kernel) (by rfl) ?_
                        refine zV1 (Z := Z) (Eq.trans (giv_o (by first | decide | omega)) (Eq.trans (ui_o (by first | decide | omega)) (Eq.trans (giv_o (by first | decide | omega)) (Eq.trans (hO 50 45 (by omega)).1 (Eq.trans (giv_o (by first | decide | omega)) (ui_k (by first | decide | omega))))))) ?_
                        rw [ht]
                        refine z_rcs0 hc hH 2 (pc' := 216) (lv' := [(3, .long wt), (0, .ref 50), (1, .int (nI k)), (2, .int 1)]) (st' := [.ref 50, .int (136 * (nI t)), .ref 65]) (by rfl) ?_
                        refine zq_gfr hc hH (by rfl) (ci := 6) (f := 34) (q := 66) (by rfl) (by decide +kernel) (by rfl) (by decide +kernel) ?_
                        refine z_rcs0 hc hH 1 (pc' := 220) (lv' := [(3, .long wt), (0, .ref 50), (1, .int (nI k)), (2, .int 1)]) (st' := [.ref 50, .ref 66, .int (136 * (nI t)), .ref 65]) (by rfl) ?_
                        refine zq_gfi hc hH (by rfl) (ci := 6) (f := 45) (by rfl) (by decide +kernel) (by rfl) ?_
                        refine zV1 (Z := Z) (Eq.trans (giv_o (by first | decide | omega)) (Eq.trans (ui_o (by first | decide | omega)) (Eq.trans (giv_o (by first | decide | omega)) (Eq.trans (hO 50 45 (by omega)).1 (Eq.trans (giv_o (by first | decide | omega)) (ui_k (by first | decide | omega))))))) ?_
                        rw [ht]
                        refine zq_iald hc hH (by rfl) 4 (oka_i (by decide +kernel)) (vp_in_nI (by omega) (by decide)) ?_
                        rw [nI_clamp (by omega)]
                        refine zV1 (Z := Z) (Eq.trans (giv_o (by first | decide | omega)) (Eq.trans (ui_o (by first | decide | omega)) (Eq.trans (giv_o (by first | decide | omega)) (Eq.trans (hO 66 t (by omega)).1 (Eq.trans (giv_o (by first | decide | omega)) (ui_o (by first | decide | omega))))))) ?_
                        rw [e66]
                        refine z_rcs0 hc hH 1 (pc' := 225) (lv' := [(3, .long wt), (0, .ref 50), (1, .int (nI k)), (2, .int 1)]) (st' := [.int ((136 * (nI t)) + (nI q)), .ref 65]) (by rfl) ?_
                        rw [nI_136]
                        refine z_rcs0 hc hH 1 (pc' := 226) (lv' := [(3, .long wt), (0, .ref 50), (1, .int (nI k)), (2, .int 1)]) (st' := [.int (nI k), .int (nI (136 * t + q)), .ref 65]) (by rfl) ?_
                        refine zq_iast hc hH (by rfl) 544 (oka_i (by decide +kernel)).2 (vp_in_nI (by omega) (by decide)) ?_
                        rw [nI_clamp (by omega)]
                        show Z 0 227 [(3, .long wt), (0, .ref 50), (1, .int (nI k)), (2, .int 1)] [] (z_ui (z_giv (z_ui (z_giv W t k 1) 67 t (bif decide ((nI q) = 0) then bif decide ((μ.1 50 56) = 0) then (1 : Int32) else 2 else 1)) t k (-1)) 65 (136 * t + q) (nI k))
                        refine z_rcs0 hc hH 1 (pc' := 228) (lv' := [(3, .long wt), (0, .ref 50), (1, .int (nI k)), (2, .int 1)]) (st' := [.ref 50]) (by rfl) ?_
                        refine zq_gfr hc hH (by rfl) (ci := 6) (f := 34) (q := 66) (by rfl) (by decide +kernel) (by rfl) (by decide +kernel) ?_
                        refine z_rcs0 hc hH 1 (pc' := 232) (lv' := [(3, .long wt), (0, .ref 50), (1, .int (nI k)), (2, .int 1)]) (st' := [.ref 50, .ref 66]) (by rfl) ?_
                        refine zq_gfi hc hH (by rfl) (ci := 6) (f := 45) (by rfl) (by decide +kernel) (by rfl) ?_
                        refine zV1 (Z := Z) (Eq.trans (ui_o (by first | decide | omega)) (Eq.trans (giv_o (by first | decide | omega)) (Eq.trans (ui_o (by first | decide | omega)) (Eq.trans (giv_o (by first | decide | omega)) (Eq.trans (hO 50 45 (by omega)).1 (Eq.trans (giv_o (by first | decide | omega)) (ui_k (by first | decide | omega)))))))) ?_
                        rw [ht]
                        refine z_rcs0 hc hH 1 (pc' := 236) (lv' := [(3, .long wt), (0, .ref 50), (1, .int (nI k)), (2, .int 1)]) (st' := [.int (nI t), .ref 66, .int (nI t), .ref 66]) (by rfl) ?_
                        refine zq_iald hc hH (by rfl) 4 (oka_i (by decide +kernel)) (vp_in_nI (by omega) (by decide)) ?_
                        rw [nI_clamp (by omega)]
                        refine zV1 (Z := Z) (Eq.trans (ui_o (by first | decide | omega)) (Eq.trans (giv_o (by first | decide | omega)) (Eq.trans (ui_o (by first | decide | omega)) (Eq.trans (giv_o (by first | decide | omega)) (Eq.trans (hO 66 t (by omega)).1 (Eq.trans (giv_o (by first | decide | omega)) (ui_o (by first | decide | omega)))))))) ?_
                        rw [e66]
                        refine z_rcs0 hc hH 2 (pc' := 239) (lv' := [(3, .long wt), (0, .ref 50), (1, .int (nI k)), (2, .int 1)]) (st' := [.int ((nI q) + 1), .int (nI t), .ref 66]) (by rfl) ?_
                        rw [nI_s1]
                        refine zq_iast hc hH (by rfl) 4 (oka_i (by decide +kernel)).2 (vp_in_nI (by omega) (by decide)) ?_
                        rw [nI_clamp (by omega)]
                        show Z 0 240 [(3, .long wt), (0, .ref 50), (1, .int (nI k)), (2, .int 1)] [] (z_ui (z_ui (z_giv (z_ui (z_giv W t k 1) 67 t (bif decide ((nI q) = 0) then bif decide ((μ.1 50 56) = 0) then (1 : Int32) else 2 else 1)) t k (-1)) 65 (136 * t + q) (nI k)) 66 t (nI (q + 1)))
                        refine z_rcs0 hc hH 1 (pc' := 241) (lv' := [(3, .long wt), (0, .ref 50), (1, .int (nI k)), (2, .int 1)]) (st' := [.ref 50]) (by rfl) ?_
                        refine zq_gfr hc hH (by rfl) (ci := 6) (f := 37) (q := 69) (by rfl) (by decide +kernel) (by rfl) (by decide +kernel) ?_
                        refine z_rcs0 hc hH 1 (pc' := 245) (lv' := [(3, .long wt), (0, .ref 50), (1, .int (nI k)), (2, .int 1)]) (st' := [.ref 50, .ref 69]) (by rfl) ?_
                        refine zq_gfi hc hH (by rfl) (ci := 6) (f := 45) (by rfl) (by decide +kernel) (by rfl) ?_
                        refine zV1 (Z := Z) (Eq.trans (ui_o (by first | decide | omega)) (Eq.trans (ui_o (by first | decide | omega)) (Eq.trans (giv_o (by first | decide | omega)) (Eq.trans (ui_o (by first | decide | omega)) (Eq.trans (giv_o (by first | decide | omega)) (Eq.trans (hO 50 45 (by omega)).1 (Eq.trans (giv_o (by first | decide | omega)) (ui_k (by first | decide | omega))))))))) ?_
                        rw [ht]
                        refine z_rcs0 hc hH 1 (pc' := 249) (lv' := [(3, .long wt), (0, .ref 50), (1, .int (nI k)), (2, .int 1)]) (st' := [.int 1, .int (nI t), .ref 69]) (by rfl) ?_
                        refine zq_bast hc hH (by rfl) 4 (by decide +kernel) (vp_in_nI (by omega) (by decide)) (by decide) ?_
                        rw [nI_clamp (by omega)]
                        show Z 0 250 [(3, .long wt), (0, .ref 50), (1, .int (nI k)), (2, .int 1)] [] (z_ui (z_ui (z_ui (z_giv (z_ui (z_giv W t k 1) 67 t (bif decide ((nI q) = 0) then bif decide ((μ.1 50 56) = 0) then (1 : Int32) else 2 else 1)) t k (-1)) 65 (136 * t + q) (nI k)) 66 t (nI (q + 1))) 69 t 1)
                        refine z_rcs0 hc hH 2 (pc' := 252) (lv' := [(3, .long wt), (0, .ref 50), (1, .int (nI k)), (2, .int 1)]) (st' := [.int 1, .ref 50]) (by rfl) ?_
                        refine zq_pfb hc hH (by rfl) (ci := 6) (f := 59) (by rfl) (by decide +kernel) (by rfl) (by decide) ?_
                        show Z 0 255 [(3, .long wt), (0, .ref 50), (1, .int (nI k)), (2, .int 1)] [] (z_ui (z_ui (z_ui (z_ui (z_giv (z_ui (z_giv W t k 1) 67 t (bif decide ((nI q) = 0) then bif decide ((μ.1 50 56) = 0) then (1 : Int32) else 2 else 1)) t k (-1)) 65 (136 * t + q) (nI k)) 66 t (nI (q + 1))) 69 t 1) 50 59 1)
                        refine z_rcs0 hc hH 2 (pc' := 257) (lv' := [(3, .long wt), (0, .ref 50), (1, .int (nI k)), (2, .int 1)]) (st' := [.int 2, .ref 50]) (by rfl) ?_
                        refine zq_pfi hc hH (by rfl) (ci := 6) (f := 44) (by rfl) (by decide +kernel) (by rfl) ?_
                        show Z 0 260 [(3, .long wt), (0, .ref 50), (1, .int (nI k)), (2, .int 1)] [] (z_ui (z_ui (z_ui (z_ui (z_ui (z_giv (z_ui (z_giv W t k 1) 67 t (bif decide ((nI q) = 0) then bif decide ((μ.1 50 56) = 0) then (1 : Int32) else 2 else 1)) t k (-1)) 65 (136 * t + q) (nI k)) 66 t (nI (q + 1))) 69 t 1) 50 59 1) 50 44 2)
                        refine z_rcs0 hc hH 2 (pc' := 262) (lv' := [(3, .long wt), (0, .ref 50), (1, .int (nI k)), (2, .int 1)]) (st' := [.int (nI k), .ref 50]) (by rfl) ?_
                        refine zq_pfi hc hH (by rfl) (ci := 6) (f := 49) (by rfl) (by decide +kernel) (by rfl) ?_
                        show Z 0 265 [(3, .long wt), (0, .ref 50), (1, .int (nI k)), (2, .int 1)] [] (z_ui (z_ui (z_ui (z_ui (z_ui (z_ui (z_giv (z_ui (z_giv W t k 1) 67 t (bif decide ((nI q) = 0) then bif decide ((μ.1 50 56) = 0) then (1 : Int32) else 2 else 1)) t k (-1)) 65 (136 * t + q) (nI k)) 66 t (nI (q + 1))) 69 t 1) 50 59 1) 50 44 2) 50 49 (nI k))
                        refine z_rcs0 hc hH 2 (pc' := 267) (lv' := [(3, .long wt), (0, .ref 50), (1, .int (nI k)), (2, .int 1)]) (st' := [.int 0, .ref 50]) (by rfl) ?_
                        refine zq_pfb hc hH (by rfl) (ci := 6) (f := 57) (by rfl) (by decide +kernel) (by rfl) (by decide) ?_
                        show Z 0 270 [(3, .long wt), (0, .ref 50), (1, .int (nI k)), (2, .int 1)] [] (z_ui (z_ui (z_ui (z_ui (z_ui (z_ui (z_ui (z_giv (z_ui (z_giv W t k 1) 67 t (bif decide ((nI q) = 0) then bif decide ((μ.1 50 56) = 0) then (1 : Int32) else 2 else 1)) t k (-1)) 65 (136 * t + q) (nI k)) 66 t (nI (q + 1))) 69 t 1) 50 59 1) 50 44 2) 50 49 (nI k)) 50 57 0)
                        refine z_rcs0 hc hH 1 (pc' := 271) (lv' := [(3, .long wt), (0, .ref 50), (1, .int (nI k)), (2, .int 1)]) (st' := [.int 1]) (by rfl) ?_
                        exact hr 0 271 _ _ _ (some (.int 1)) (by decide +kernel) (z_rx_ok hH (by rfl)) (Or.inl ⟨by simp only [dsC, h2, h3, h12, h13, h14, h15, h16, h17, h18, Bool.true_or, Bool.true_and, Bool.and_true, Bool.false_and, Bool.and_false, Bool.not_true, Bool.not_false, Bool.or_true, Bool.or_false, Bool.false_or, cond_true, cond_false], rfl, by unfold dsM; exact SM_ui (SM_ui (SM_ui (SM_ui (SM_ui (SM_ui (SM_ui (SM_giv (SM_ui (SM_giv (hO))))))))))⟩)
                      refine zq_if hc hH (by rfl) (tg := 191) (by rfl) (fun h20 => ?_) (fun h20 => ?_)
                      · have h20 : (decide ((nI q) = 0)) = false := decide_eq_false (cm_ne.mp h20)
                        refine z_rcs hc hH 1 (pc' := 192) (lv' := [(3, .long wt), (0, .ref 50), (1, .int (nI k)), (2, .int 1)]) (st' := [.int 1, .int (nI t), .ref 67]) (μ' := z_giv W t k 1) (by rfl) ?_
                        exact zJ hJ19 rfl (by first | with_reducible rfl | (simp only [h20, lb_f, Int64.or_zero, Int32.add_zero, nB_t, nB_f, Bool.not_true, Bool.not_false, Bool.and_true, Bool.true_and, Bool.false_and, Bool.and_false, Bool.or_true, Bool.true_or, Bool.false_or, Bool.or_false, cond_true, cond_false]; done) | rfl) rfl
                      · have h20 : (decide ((nI q) = 0)) = true := decide_eq_true (cn_ne.mp h20)
                        refine z_rcs hc hH 1 (pc' := 181) (lv' := [(3, .long wt), (0, .ref 50), (1, .int (nI k)), (2, .int 1)]) (st' := [.ref 50, .int (nI t), .ref 67]) (μ' := z_giv W t k 1) (by rfl) ?_
                        refine zq_gfi hc hH (by rfl) (ci := 6) (f := 56) (by rfl) (by decide +kernel) (by rfl) ?_
                        refine zV1 (Z := Z) (Eq.trans (giv_o (by first | decide | omega)) (Eq.trans (hO 50 56 (by omega)).1 (Eq.trans (giv_o (by first | decide | omega)) (ui_k (by first | decide | omega))))) ?_
                        refine zq_if hc hH (by rfl) (tg := 191) (by rfl) (fun h21 => ?_) (fun h21 => ?_)
                        · have h21 : (decide ((μ.1 50 56) = 0)) = true := decide_eq_true (cm_eq9.mp h21)
                          refine z_rcs hc hH 1 (pc' := 192) (lv' := [(3, .long wt), (0, .ref 50), (1, .int (nI k)), (2, .int 1)]) (st' := [.int 1, .int (nI t), .ref 67]) (μ' := z_giv W t k 1) (by rfl) ?_
                          exact zJ hJ19 rfl (by first | with_reducible rfl | (simp only [h20, h21, lb_f, Int64.or_zero, Int32.add_zero, nB_t, nB_f, Bool.not_true, Bool.not_false, Bool.and_true, Bool.true_and, Bool.false_and, Bool.and_false, Bool.or_true, Bool.true_or, Bool.false_or, Bool.or_false, cond_true, cond_false]; done) | rfl) rfl
                        · have h21 : (decide ((μ.1 50 56) = 0)) = false := decide_eq_false (cn_eq.mp h21)
                          refine z_rcs hc hH 2 (pc' := 192) (lv' := [(3, .long wt), (0, .ref 50), (1, .int (nI k)), (2, .int 1)]) (st' := [.int 2, .int (nI t), .ref 67]) (μ' := z_giv W t k 1) (by rfl) ?_
                          exact zJ hJ19 rfl (by first | with_reducible rfl | (simp only [h20, h21, lb_f, Int64.or_zero, Int32.add_zero, nB_t, nB_f, Bool.not_true, Bool.not_false, Bool.and_true, Bool.true_and, Bool.false_and, Bool.and_false, Bool.or_true, Bool.true_or, Bool.false_or, Bool.or_false, cond_true, cond_false]; done) | rfl) rfl
                    · have h18 : (decide ((lg_cmp wt 0) = 0)) = true := decide_eq_true (cn_ne.mp h18)
                      refine z_rcs hc hH 1 (pc' := 159) (lv' := [(3, .long wt), (0, .ref 50), (1, .int (nI k)), (2, .int 1)]) (st' := [.int 0]) (μ' := z_giv W t k 1) (by rfl) ?_
                      exact hr 0 159 _ _ _ (some (.int 0)) (by decide +kernel) (z_rx_ok hH (by rfl)) (Or.inr ⟨by simp only [dsC, h2, h3, h12, h13, h14, h15, h16, h17, h18, Bool.true_or, Bool.true_and, Bool.and_true, Bool.false_and, Bool.and_false, Bool.not_true, Bool.not_false, Bool.or_true, Bool.or_false, Bool.false_or, cond_true, cond_false], rfl, Or.inr (SM_giv (hO))⟩)
                  · have h17 : (decide (4 ≤ ((122 - (μ.1 50 47)) - (μ.1 50 46)))) = false := decide_eq_false (cn_ge.mp h17)
                    refine z_rcs hc hH 1 (pc' := 122) (lv' := [(0, .ref 50), (1, .int (nI k)), (2, .int 1)]) (st' := [.int 0]) (μ' := z_ui μ 50 0 0) (by rfl) ?_
                    exact hr 0 122 _ _ _ (some (.int 0)) (by decide +kernel) (z_rx_ok hH (by rfl)) (Or.inr ⟨by simp only [dsC, h2, h3, h12, h13, h14, h15, h16, h17, Bool.true_or, Bool.true_and, Bool.and_true, Bool.false_and, Bool.and_false, Bool.not_true, Bool.not_false, Bool.or_true, Bool.or_false, Bool.false_or, cond_true, cond_false], rfl, Or.inl (SM_rf _)⟩)
            · have h14 : (decide ((μ.1 67 t) ≤ 0)) = false := decide_eq_false (cn_le.mp h14)
              refine z_rcs hc hH 3 (pc' := 82) (lv' := [(0, .ref 50), (1, .int (nI k)), (2, .int 1)]) (st' := [.int 0]) (μ' := z_ui μ 50 0 0) (by rfl) ?_
              exact hr 0 82 _ _ _ (some (.int 0)) (by decide +kernel) (z_rx_ok hH (by rfl)) (Or.inr ⟨by simp only [dsC, h2, h3, h12, h13, h14, Bool.true_or, Bool.true_and, Bool.and_true, Bool.false_and, Bool.and_false, Bool.not_true, Bool.not_false, Bool.or_true, Bool.or_false, Bool.false_or, cond_true, cond_false], rfl, Or.inl (SM_rf _)⟩)
    · have h2 : (decide ((μ.1 60 (34 * t + k)) = 0)) = true := decide_eq_true (cn_ne.mp h2)
      refine z_rcs hc hH 1 (pc' := 33) (lv' := [(0, .ref 50), (1, .int (nI k)), (2, .int 1)]) (st' := [.int 0]) (μ' := z_ui μ 50 0 0) (by rfl) ?_
      exact hr 0 33 _ _ _ (some (.int 0)) (by decide +kernel) (z_rx_ok hH (by rfl)) (Or.inr ⟨by simp only [dsC, h2, Bool.true_or, Bool.true_and, Bool.and_true, Bool.false_and, Bool.and_false, Bool.not_true, Bool.not_false, Bool.or_true, Bool.or_false, Bool.false_or, cond_true, cond_false], rfl, Or.inl (SM_rf _)⟩)
/-! the game: nine, isOpen, add of the reference -/
set_option maxRecDepth 8000
noncomputable def ioF (μ : zM) (s i : Nat) : Bool := !decide (μ.1 62 (4 * s + i) = 3)
theorem gm_isOpenS (d : Nat) (hd : 1 ≤ d) (μ : zM) (s q : Nat) (hs4 : s < 4) (hq : q ≤ 4) (e64 : μ.1 64 s = nI q) : z_C d mi_X7_isOpen_ [.ref 50, .int (nI s)] μ (zR μ (.int (nB (kA (ioF μ s) q)))) := by
  refine z_C_in (by decide) (by omega) (fun d' Z ed hc hr => ?_)
  have hH : zH mi_X7_isOpen_ zt_X7_isOpen_ 79 7 4 := hh_X7_isOpen_
  have hL : ∀ n i, i + n = q → Z 0 4 [(3, .int (nI i)), (2, .int (nB (kA (ioF μ s) i))), (0, .ref 50), (1, .int (nI s))] [] μ := by
    intro n
    induction n with
    | zero =>
      intro i hi
      have hi : i = q := by omega
      obtain ⟨bb, hbb⟩ : ∃ b, kA (ioF μ s) i = b := ⟨_, rfl⟩
      rw [hbb]
      refine z_rcs hc hH 2 (pc' := 6) (lv' := [(3, .int (nI i)), (2, .int (nB bb)), (0, .ref 50), (1, .int (nI s))]) (st' := [.ref 50, .int (nI i)]) (μ' := μ) (by rfl) ?_
      refine zq_gfr hc hH (by rfl) (ci := 6) (f := 32) (q := 64) (by rfl) (by decide +kernel) (by rfl) (by decide +kernel) ?_
      refine z_rcs hc hH 1 (pc' := 10) (lv' := [(3, .int (nI i)), (2, .int (nB bb)), (0, .ref 50), (1, .int (nI s))]) (st' := [.int (nI s), .ref 64, .int (nI i)]) (μ' := μ) (by rfl) ?_
      refine zq_iald hc hH (by rfl) 4 (oka_i (by decide +kernel)) (vp_in_nI (by omega) (by decide)) ?_
      rw [nI_clamp (by omega)]
      rw [e64]
      refine zq_ic hc hH (by rfl) (tg := 44) (by rfl) (fun h1 => ?_) (fun h1 => ?_)
      · have h1 : (decide ((nI q) ≤ (nI i))) = true := decide_eq_true (cm_ge.mp h1)
        refine z_rcs hc hH 1 (pc' := 45) (lv' := [(3, .int (nI i)), (2, .int (nB bb)), (0, .ref 50), (1, .int (nI s))]) (st' := [.int (nB bb)]) (μ' := μ) (by rfl) ?_
        exact hr 0 45 _ _ _ (some (.int (nB bb))) (by decide +kernel) ((fun b : Bool => (by cases b <;> rfl : z_rn mi_X7_isOpen_ 45 [.int (nB b)] = some (some (.int (nB b))))) bb) (⟨rfl, by rw [← hbb, hi]⟩)
      · have h1 : (decide ((nI q) ≤ (nI i))) = false := decide_eq_false (cn_ge.mp h1)
        exact absurd (Eq.trans (Eq.symm (kn_nle (by omega) (by omega) (by omega))) h1) (by decide)
    | succ n ih =>
      intro i hi
      obtain ⟨bb, hbb⟩ : ∃ b, kA (ioF μ s) i = b := ⟨_, rfl⟩
      rw [hbb]
      refine z_rcs hc hH 2 (pc' := 6) (lv' := [(3, .int (nI i)), (2, .int (nB bb)), (0, .ref 50), (1, .int (nI s))]) (st' := [.ref 50, .int (nI i)]) (μ' := μ) (by rfl) ?_
      refine zq_gfr hc hH (by rfl) (ci := 6) (f := 32) (q := 64) (by rfl) (by decide +kernel) (by rfl) (by decide +kernel) ?_
      refine z_rcs hc hH 1 (pc' := 10) (lv' := [(3, .int (nI i)), (2, .int (nB bb)), (0, .ref 50), (1, .int (nI s))]) (st' := [.int (nI s), .ref 64, .int (nI i)]) (μ' := μ) (by rfl) ?_
      refine zq_iald hc hH (by rfl) 4 (oka_i (by decide +kernel)) (vp_in_nI (by omega) (by decide)) ?_
      rw [nI_clamp (by omega)]
      rw [e64]
      refine zq_ic hc hH (by rfl) (tg := 44) (by rfl) (fun h1 => ?_) (fun h1 => ?_)
      · have h1 : (decide ((nI q) ≤ (nI i))) = true := decide_eq_true (cm_ge.mp h1)
        exact absurd (Eq.trans (Eq.symm (kn_nlf (by omega) (by omega) (by omega))) h1) (by decide)
      · have h1 : (decide ((nI q) ≤ (nI i))) = false := decide_eq_false (cn_ge.mp h1)
        refine z_rcs hc hH 1 (pc' := 15) (lv' := [(3, .int (nI i)), (2, .int (nB bb)), (0, .ref 50), (1, .int (nI s))]) (st' := [.int (nB bb)]) (μ' := μ) (by rfl) ?_
        have hJ2 : Z 0 37 [(3, .int (nI i)), (2, .int (nB bb)), (0, .ref 50), (1, .int (nI s))] [.int (nB (bb || (!(decide ((μ.1 62 (4 * s + i)) = 3)))))] μ := by
          refine z_rcs hc hH 3 (pc' := 4) (lv' := [(3, .int ((nI i) + 1)), (2, .int (nB (bb || (!(decide ((μ.1 62 (4 * s + i)) = 3)))))), (0, .ref 50), (1, .int (nI s))]) (st' := []) (μ' := μ) (by rfl) ?_
          have e9 := ih (i + 1) (by omega)
          rw [nI_s1]
          refine zJ e9 ?_ rfl rfl
          have e8 : kA (ioF μ s) (i + 1) = (bb || (!(decide ((μ.1 62 (4 * s + i)) = 3)))) := by
            show (kA _ i || ioF μ s i) = _
            rw [hbb]; unfold ioF; cases bb <;> first | rfl | (simp only [Bool.false_or, Bool.true_or])
          rw [e8]
        refine zq_if hc hH (by rfl) (tg := 32) (by rfl) (fun h3 => ?_) (fun h3 => ?_)
        · have h3 : (bb) = true := nB_n.mp (cm_ne.mp h3)
          refine z_rcs hc hH 2 (pc' := 37) (lv' := [(3, .int (nI i)), (2, .int (nB bb)), (0, .ref 50), (1, .int (nI s))]) (st' := [.int 1]) (μ' := μ) (by rfl) ?_
          exact zJ hJ2 rfl (by first | with_reducible rfl | (simp only [h3, lb_f, Int64.or_zero, Int32.add_zero, nB_t, nB_f, Bool.not_true, Bool.not_false, Bool.and_true, Bool.true_and, Bool.false_and, Bool.and_false, Bool.or_true, Bool.true_or, Bool.false_or, Bool.or_false, cond_true, cond_false]; done) | rfl) rfl
        · have h3 : (bb) = false := nB_z.mp (cn_ne.mp h3)
          refine z_rcs hc hH 1 (pc' := 19) (lv' := [(3, .int (nI i)), (2, .int (nB bb)), (0, .ref 50), (1, .int (nI s))]) (st' := [.ref 50]) (μ' := μ) (by rfl) ?_
          refine zq_gfr hc hH (by rfl) (ci := 6) (f := 30) (q := 62) (by rfl) (by decide +kernel) (by rfl) (by decide +kernel) ?_
          refine z_rcs hc hH 5 (pc' := 27) (lv' := [(3, .int (nI i)), (2, .int (nB bb)), (0, .ref 50), (1, .int (nI s))]) (st' := [.int ((4 * (nI s)) + (nI i)), .ref 62]) (μ' := μ) (by rfl) ?_
          rw [nI_k4]
          refine zq_iald hc hH (by rfl) 16 (oka_i (by decide +kernel)) (vp_in_nI (by omega) (by decide)) ?_
          rw [nI_clamp (by omega)]
          refine z_rcs hc hH 1 (pc' := 29) (lv' := [(3, .int (nI i)), (2, .int (nB bb)), (0, .ref 50), (1, .int (nI s))]) (st' := [.int 3, .int (μ.1 62 (4 * s + i))]) (μ' := μ) (by rfl) ?_
          refine zq_ic hc hH (by rfl) (tg := 36) (by rfl) (fun h4 => ?_) (fun h4 => ?_)
          · have h4 : (decide ((μ.1 62 (4 * s + i)) = 3)) = true := decide_eq_true (cm_eq9.mp h4)
            refine z_rcs hc hH 1 (pc' := 37) (lv' := [(3, .int (nI i)), (2, .int (nB bb)), (0, .ref 50), (1, .int (nI s))]) (st' := [.int 0]) (μ' := μ) (by rfl) ?_
            exact zJ hJ2 rfl (by first | with_reducible rfl | (simp only [h3, h4, lb_f, Int64.or_zero, Int32.add_zero, nB_t, nB_f, Bool.not_true, Bool.not_false, Bool.and_true, Bool.true_and, Bool.false_and, Bool.and_false, Bool.or_true, Bool.true_or, Bool.false_or, Bool.or_false, cond_true, cond_false]; done) | rfl) rfl
          · have h4 : (decide ((μ.1 62 (4 * s + i)) = 3)) = false := decide_eq_false (cn_eq.mp h4)
            refine z_rcs hc hH 2 (pc' := 37) (lv' := [(3, .int (nI i)), (2, .int (nB bb)), (0, .ref 50), (1, .int (nI s))]) (st' := [.int 1]) (μ' := μ) (by rfl) ?_
            exact zJ hJ2 rfl (by first | with_reducible rfl | (simp only [h3, h4, lb_f, Int64.or_zero, Int32.add_zero, nB_t, nB_f, Bool.not_true, Bool.not_false, Bool.and_true, Bool.true_and, Bool.false_and, Bool.and_false, Bool.or_true, Bool.true_or, Bool.false_or, Bool.or_false, cond_true, cond_false]; done) | rfl) rfl
  exact z_rcs hc hH 4 (pc' := 4) (lv' := [(3, .int (nI 0)), (2, .int (nB (kA (ioF μ s) 0))), (0, .ref 50), (1, .int (nI s))]) (st' := []) (μ' := μ) (by rfl) (hL q 0 (by omega))
noncomputable def niF (μ : zM) (t k : Nat) : Bool := eN k && !decide (μ.1 60 (34 * t + k) ≤ 0)
theorem cn_le9 {f : Nat → Bool} : ∀ n, cn f n ≤ n
  | 0 => Nat.le_refl _
  | n + 1 => by
    have := cn_le9 (f := f) n
    show cn f n + (if f n then 1 else 0) ≤ n + 1
    split <;> omega
theorem ni_isEnd (d : Nat) (hd : 2 ≤ d) (μ : zM) (k : Nat) (hk : k < 34) : z_C d mi_X7_isEnd [.int (nI k)] μ (zR μ (.int (nB (eN k)))) := by
  refine z_C_mono (fc_X7_isEnd d hd μ k hk) (fun r μ' z => ⟨z.1, ?_⟩)
  rcases z.2 with ⟨h, h2⟩ | ⟨h2, h⟩
  · rw [h2]; exact h
  · cases e : eN k
    · exact h2
    · exact absurd e h
theorem cn_s9 {f : Nat → Bool} {n : Nat} : nI (cn f (n + 1)) = nI (cn f n) + nB (f n) := by
  show nI (cn f n + (if f n then 1 else 0)) = _
  cases f n
  · exact (Int32.add_zero _).symm
  · exact (nI_s1 _).symm
theorem ni_c9 {n : Nat} {b : Bool} (hn : n ≤ 34) (h : decide (9 ≤ nI n) = b) : decide (9 ≤ n) = b := by
  rw [← h]
  have : (9 : Int32) ≤ nI n ↔ 9 ≤ n := by rw [Int32.le_iff_toInt_le, nI_toInt (by omega), show (9 : Int32).toInt = 9 from rfl]; omega
  simp only [this]
noncomputable abbrev niC (μ : zM) (t : Nat) : Bool := bif decide (μ.1 50 44 = 1) then (bif decide (μ.1 50 57 = 0) then (bif decide (μ.1 50 56 = 0) then false else (bif decide (μ.1 66 t ≤ 0) then decide (9 ≤ cn (niF μ t) 34) else false)) else false) else false
theorem gm_nine (d : Nat) (hd : 3 ≤ d) (μ : zM) (t : Nat) (ht4 : t < 4) (ht : μ.1 50 45 = nI t) (dl e : Nat) (hdl : μ.1 50 40 = nI dl) (hdl4 : dl < 4) (he : (dl + 1) % 4 = e) : z_C d mi_X7_nine [.ref 50] μ (fun r μ' => (niC μ t = true ∧ r = some (.int 1) ∧ μ' = eMB (z_ui μ 50 0 0) true true dl e) ∨ (niC μ t = false ∧ r = some (.int 0) ∧ μ' = z_ui μ 50 0 0)) := by
  refine z_C_in (by decide) (by omega) (fun d' Z ed hc hr => ?_)
  have hH : zH mi_X7_nine zt_X7_nine 79 7 3 := hh_X7_nine
  refine z_rcs hc hH 2 (pc' := 2) (lv' := [(0, .ref 50)]) (st' := [.int 0, .ref 50]) (μ' := μ) (by rfl) ?_
  refine zq_pfi hc hH (by rfl) (ci := 6) (f := 0) (by rfl) (by decide +kernel) (by rfl) ?_
  show Z 0 5 [(0, .ref 50)] [] (z_ui μ 50 0 0)
  refine z_rcs hc hH 1 (pc' := 6) (lv' := [(0, .ref 50)]) (st' := [.ref 50]) (μ' := z_ui μ 50 0 0) (by rfl) ?_
  refine zq_gfi hc hH (by rfl) (ci := 6) (f := 44) (by rfl) (by decide +kernel) (by rfl) ?_
  refine zV1 (Z := Z) (ui_k (by first | decide | omega)) ?_
  refine z_rcs hc hH 1 (pc' := 10) (lv' := [(0, .ref 50)]) (st' := [.int 1, .int (μ.1 50 44)]) (μ' := z_ui μ 50 0 0) (by rfl) ?_
  refine zq_ic hc hH (by rfl) (tg := 39) (by rfl) (fun h1 => ?_) (fun h1 => ?_)
  · have h1 : (decide ((μ.1 50 44) = 1)) = false := decide_eq_false (cm_ne.mp h1)
    refine z_rcs hc hH 1 (pc' := 40) (lv' := [(0, .ref 50)]) (st' := [.int 0]) (μ' := z_ui μ 50 0 0) (by rfl) ?_
    exact hr 0 40 _ _ _ (some (.int 0)) (by decide +kernel) (z_rx_ok hH (by rfl)) (Or.inr ⟨by simp only [niC, h1, Bool.true_or, Bool.true_and, Bool.and_true, Bool.false_and, Bool.and_false, Bool.not_true, Bool.not_false, Bool.or_true, Bool.or_false, Bool.false_or, cond_true, cond_false], rfl, rfl⟩)
  · have h1 : (decide ((μ.1 50 44) = 1)) = true := decide_eq_true (cn_ne.mp h1)
    refine z_rcs hc hH 1 (pc' := 14) (lv' := [(0, .ref 50)]) (st' := [.ref 50]) (μ' := z_ui μ 50 0 0) (by rfl) ?_
    refine zq_gfi hc hH (by rfl) (ci := 6) (f := 57) (by rfl) (by decide +kernel) (by rfl) ?_
    refine zV1 (Z := Z) (ui_k (by first | decide | omega)) ?_
    refine zq_if hc hH (by rfl) (tg := 39) (by rfl) (fun h2 => ?_) (fun h2 => ?_)
    · have h2 : (decide ((μ.1 50 57) = 0)) = false := decide_eq_false (cm_ne.mp h2)
      refine z_rcs hc hH 1 (pc' := 40) (lv' := [(0, .ref 50)]) (st' := [.int 0]) (μ' := z_ui μ 50 0 0) (by rfl) ?_
      exact hr 0 40 _ _ _ (some (.int 0)) (by decide +kernel) (z_rx_ok hH (by rfl)) (Or.inr ⟨by simp only [niC, h1, h2, Bool.true_or, Bool.true_and, Bool.and_true, Bool.false_and, Bool.and_false, Bool.not_true, Bool.not_false, Bool.or_true, Bool.or_false, Bool.false_or, cond_true, cond_false], rfl, rfl⟩)
    · have h2 : (decide ((μ.1 50 57) = 0)) = true := decide_eq_true (cn_ne.mp h2)
      refine z_rcs hc hH 1 (pc' := 21) (lv' := [(0, .ref 50)]) (st' := [.ref 50]) (μ' := z_ui μ 50 0 0) (by rfl) ?_
      refine zq_gfi hc hH (by rfl) (ci := 6) (f := 56) (by rfl) (by decide +kernel) (by rfl) ?_
      refine zV1 (Z := Z) (ui_k (by first | decide | omega)) ?_
      refine zq_if hc hH (by rfl) (tg := 39) (by rfl) (fun h3 => ?_) (fun h3 => ?_)
      · have h3 : (decide ((μ.1 50 56) = 0)) = true := decide_eq_true (cm_eq9.mp h3)
        refine z_rcs hc hH 1 (pc' := 40) (lv' := [(0, .ref 50)]) (st' := [.int 0]) (μ' := z_ui μ 50 0 0) (by rfl) ?_
        exact hr 0 40 _ _ _ (some (.int 0)) (by decide +kernel) (z_rx_ok hH (by rfl)) (Or.inr ⟨by simp only [niC, h1, h2, h3, Bool.true_or, Bool.true_and, Bool.and_true, Bool.false_and, Bool.and_false, Bool.not_true, Bool.not_false, Bool.or_true, Bool.or_false, Bool.false_or, cond_true, cond_false], rfl, rfl⟩)
      · have h3 : (decide ((μ.1 50 56) = 0)) = false := decide_eq_false (cn_eq.mp h3)
        refine z_rcs hc hH 1 (pc' := 28) (lv' := [(0, .ref 50)]) (st' := [.ref 50]) (μ' := z_ui μ 50 0 0) (by rfl) ?_
        refine zq_gfr hc hH (by rfl) (ci := 6) (f := 34) (q := 66) (by rfl) (by decide +kernel) (by rfl) (by decide +kernel) ?_
        refine z_rcs hc hH 1 (pc' := 32) (lv' := [(0, .ref 50)]) (st' := [.ref 50, .ref 66]) (μ' := z_ui μ 50 0 0) (by rfl) ?_
        refine zq_gfi hc hH (by rfl) (ci := 6) (f := 45) (by rfl) (by decide +kernel) (by rfl) ?_
        refine zV1 (Z := Z) (ui_k (by first | decide | omega)) ?_
        rw [ht]
        refine zq_iald hc hH (by rfl) 4 (oka_i (by decide +kernel)) (vp_in_nI (by omega) (by decide)) ?_
        rw [nI_clamp (by omega)]
        refine zV1 (Z := Z) (ui_o (by first | decide | omega)) ?_
        refine zq_if hc hH (by rfl) (tg := 41) (by rfl) (fun h4 => ?_) (fun h4 => ?_)
        · have h4 : (decide ((μ.1 66 t) ≤ 0)) = true := decide_eq_true (cm_le.mp h4)
          refine z_rcs hc hH 4 (pc' := 45) (lv' := [(2, .int 0), (1, .int 0), (0, .ref 50)]) (st' := []) (μ' := z_ui μ 50 0 0) (by rfl) ?_
          have hL : ∀ n k, k + n = 34 → Z 0 45 [(2, .int (nI k)), (1, .int (nI (cn (niF μ t) k))), (0, .ref 50)] [] (z_ui μ 50 0 0) := by
            intro n
            induction n with
            | zero =>
              intro k hk
              have hk : k = 34 := by omega
              subst hk
              refine z_rcs hc hH 2 (pc' := 48) (lv' := [(2, .int (nI 34)), (1, .int (nI (cn (niF μ t) 34))), (0, .ref 50)]) (st' := [.int 34, .int (nI 34)]) (μ' := z_ui μ 50 0 0) (by rfl) ?_
              refine zq_ic hc hH (by rfl) (tg := 84) (by rfl) (fun h5 => ?_) (fun h5 => ?_)
              · have h5 : (decide (34 ≤ (nI 34))) = true := decide_eq_true (cm_ge.mp h5)
                refine z_rcs hc hH 2 (pc' := 87) (lv' := [(2, .int (nI 34)), (1, .int (nI (cn (niF μ t) 34))), (0, .ref 50)]) (st' := [.int 9, .int (nI (cn (niF μ t) 34))]) (μ' := z_ui μ 50 0 0) (by rfl) ?_
                refine zq_ic hc hH (by rfl) (tg := 92) (by rfl) (fun h6 => ?_) (fun h6 => ?_)
                · have h6 : (decide (9 ≤ (nI (cn (niF μ t) 34)))) = true := decide_eq_true (cm_ge.mp h6)
                  refine z_rcs hc hH 3 (pc' := 95) (lv' := [(2, .int (nI 34)), (1, .int (nI (cn (niF μ t) 34))), (0, .ref 50)]) (st' := [.int 1, .int 1, .ref 50]) (μ' := z_ui μ 50 0 0) (by rfl) ?_
                  refine zq_call hc (z_cx_ok hH (by rfl)) (gm_endsB d' (by omega) (z_ui μ 50 0 0) true true dl e (by rw [ui_k (by first | decide | omega)]; exact hdl) hdl4 he) (by decide +kernel) (fun r9 μ9 hq => ?_)
                  obtain ⟨rfl, rfl⟩ := hq
                  show Z 0 98 [(2, .int (nI 34)), (1, .int (nI (cn (niF μ t) 34))), (0, .ref 50)] [] (eMB (z_ui μ 50 0 0) true true dl e)
                  refine z_rcs0 hc hH 1 (pc' := 99) (lv' := [(2, .int (nI 34)), (1, .int (nI (cn (niF μ t) 34))), (0, .ref 50)]) (st' := [.int 1]) (by rfl) ?_
                  exact hr 0 99 _ _ _ (some (.int 1)) (by decide +kernel) (z_rx_ok hH (by rfl)) (Or.inl ⟨by simp only [niC, h1, h2, h3, h4, (show decide (9 ≤ cn (niF μ t) 34) = true from ni_c9 (cn_le9 34) h6), Bool.true_or, Bool.true_and, Bool.and_true, Bool.false_and, Bool.and_false, Bool.not_true, Bool.not_false, Bool.or_true, Bool.or_false, Bool.false_or, cond_true, cond_false], rfl, rfl⟩)
                · have h6 : (decide (9 ≤ (nI (cn (niF μ t) 34)))) = false := decide_eq_false (cn_ge.mp h6)
                  refine z_rcs hc hH 1 (pc' := 91) (lv' := [(2, .int (nI 34)), (1, .int (nI (cn (niF μ t) 34))), (0, .ref 50)]) (st' := [.int 0]) (μ' := z_ui μ 50 0 0) (by rfl) ?_
                  exact hr 0 91 _ _ _ (some (.int 0)) (by decide +kernel) (z_rx_ok hH (by rfl)) (Or.inr ⟨by simp only [niC, h1, h2, h3, h4, (show decide (9 ≤ cn (niF μ t) 34) = false from ni_c9 (cn_le9 34) h6), Bool.true_or, Bool.true_and, Bool.and_true, Bool.false_and, Bool.and_false, Bool.not_true, Bool.not_false, Bool.or_true, Bool.or_false, Bool.false_or, cond_true, cond_false], rfl, rfl⟩)
              · have h5 : (decide (34 ≤ (nI 34))) = false := decide_eq_false (cn_ge.mp h5)
                exact absurd (Eq.trans (Eq.symm (kn_le2 (m := 34) rfl (by omega) (by omega))) h5) (by decide)
            | succ n ih =>
              intro k hk
              have hc9 := cn_le9 (f := niF μ t) k
              refine z_rcs hc hH 2 (pc' := 48) (lv' := [(2, .int (nI k)), (1, .int (nI (cn (niF μ t) k))), (0, .ref 50)]) (st' := [.int 34, .int (nI k)]) (μ' := z_ui μ 50 0 0) (by rfl) ?_
              refine zq_ic hc hH (by rfl) (tg := 84) (by rfl) (fun h7 => ?_) (fun h7 => ?_)
              · have h7 : (decide (34 ≤ (nI k))) = true := decide_eq_true (cm_ge.mp h7)
                exact absurd (Eq.trans (Eq.symm (kn_le (m := 34) rfl (by omega) (by omega))) h7) (by decide)
              · have h7 : (decide (34 ≤ (nI k))) = false := decide_eq_false (cn_ge.mp h7)
                refine z_rcs hc hH 2 (pc' := 53) (lv' := [(2, .int (nI k)), (1, .int (nI (cn (niF μ t) k))), (0, .ref 50)]) (st' := [.int (nI k), .int (nI (cn (niF μ t) k))]) (μ' := z_ui μ 50 0 0) (by rfl) ?_
                refine zq_call hc (z_cx_ok hH (by rfl)) (ni_isEnd d' (by omega) (z_ui μ 50 0 0) k (by omega)) (by decide +kernel) (fun r9 μ9 hq => ?_)
                obtain ⟨hμ9, rfl⟩ := hq
                rw [hμ9]
                clear hμ9 μ9
                show Z 0 56 [(2, .int (nI k)), (1, .int (nI (cn (niF μ t) k))), (0, .ref 50)] [.int (nB (eN k)), .int (nI (cn (niF μ t) k))] (z_ui μ 50 0 0)
                have hJ8 : Z 0 76 [(2, .int (nI k)), (1, .int (nI (cn (niF μ t) k))), (0, .ref 50)] [.int (nB ((eN k) && (!(decide ((μ.1 60 (34 * t + k)) ≤ 0))))), .int (nI (cn (niF μ t) k))] (z_ui μ 50 0 0) := by
                  refine z_rcs hc hH 4 (pc' := 45) (lv' := [(2, .int ((nI k) + 1)), (1, .int ((nI (cn (niF μ t) k)) + (nB ((eN k) && (!(decide ((μ.1 60 (34 * t + k)) ≤ 0))))))), (0, .ref 50)]) (st' := []) (μ' := z_ui μ 50 0 0) (by rfl) ?_
                  have e9 := ih (k + 1) (by omega)
                  rw [nI_s1]
                  refine zJ e9 ?_ rfl rfl
                  have e8 : nI (cn (niF μ t) (k + 1)) = (nI (cn (niF μ t) k)) + (nB ((eN k) && (!(decide ((μ.1 60 (34 * t + k)) ≤ 0))))) := by
                    rw [cn_s9]; unfold niF
                    cases eN k <;> cases decide (μ.1 60 (34 * t + k) ≤ 0) <;> rfl
                  rw [e8]
                refine zq_if hc hH (by rfl) (tg := 75) (by rfl) (fun h9 => ?_) (fun h9 => ?_)
                · have h9 : (eN k) = false := nB_z.mp (cm_eq9.mp h9)
                  refine z_rcs hc hH 1 (pc' := 76) (lv' := [(2, .int (nI k)), (1, .int (nI (cn (niF μ t) k))), (0, .ref 50)]) (st' := [.int 0, .int (nI (cn (niF μ t) k))]) (μ' := z_ui μ 50 0 0) (by rfl) ?_
                  exact zJ hJ8 rfl (by first | with_reducible rfl | (simp only [h9, lb_f, Int64.or_zero, Int32.add_zero, nB_t, nB_f, Bool.not_true, Bool.not_false, Bool.and_true, Bool.true_and, Bool.false_and, Bool.and_false, Bool.or_true, Bool.true_or, Bool.false_or, Bool.or_false, cond_true, cond_false]; done) | rfl) rfl
                · have h9 : (eN k) = true := nB_n.mp (cn_eq.mp h9)
                  refine z_rcs hc hH 2 (pc' := 61) (lv' := [(2, .int (nI k)), (1, .int (nI (cn (niF μ t) k))), (0, .ref 50)]) (st' := [.ref 50, .ref 50, .int (nI (cn (niF μ t) k))]) (μ' := z_ui μ 50 0 0) (by rfl) ?_
                  refine zq_gfi hc hH (by rfl) (ci := 6) (f := 45) (by rfl) (by decide +kernel) (by rfl) ?_
                  refine zV1 (Z := Z) (ui_k (by first | decide | omega)) ?_
                  rw [ht]
                  refine z_rcs hc hH 1 (pc' := 65) (lv' := [(2, .int (nI k)), (1, .int (nI (cn (niF μ t) k))), (0, .ref 50)]) (st' := [.int (nI k), .int (nI t), .ref 50, .int (nI (cn (niF μ t) k))]) (μ' := z_ui μ 50 0 0) (by rfl) ?_
                  refine zq_call hc (z_cx_ok hH (by rfl)) (fc_X7_has_ d' (by omega) (z_ui μ 50 0 0) t k ht4 (by omega)) (by decide +kernel) (fun r9 μ9 hq => ?_)
                  obtain ⟨hμ9, rfl⟩ := hq
                  rw [hμ9]
                  clear hμ9 μ9
                  rw [ui_o (by first | decide | omega)]
                  show Z 0 68 [(2, .int (nI k)), (1, .int (nI (cn (niF μ t) k))), (0, .ref 50)] [.int (μ.1 60 (34 * t + k)), .int (nI (cn (niF μ t) k))] (z_ui μ 50 0 0)
                  refine zq_if hc hH (by rfl) (tg := 75) (by rfl) (fun h10 => ?_) (fun h10 => ?_)
                  · have h10 : (decide ((μ.1 60 (34 * t + k)) ≤ 0)) = true := decide_eq_true (cm_le.mp h10)
                    refine z_rcs hc hH 1 (pc' := 76) (lv' := [(2, .int (nI k)), (1, .int (nI (cn (niF μ t) k))), (0, .ref 50)]) (st' := [.int 0, .int (nI (cn (niF μ t) k))]) (μ' := z_ui μ 50 0 0) (by rfl) ?_
                    exact zJ hJ8 rfl (by first | with_reducible rfl | (simp only [h9, h10, lb_f, Int64.or_zero, Int32.add_zero, nB_t, nB_f, Bool.not_true, Bool.not_false, Bool.and_true, Bool.true_and, Bool.false_and, Bool.and_false, Bool.or_true, Bool.true_or, Bool.false_or, Bool.or_false, cond_true, cond_false]; done) | rfl) rfl
                  · have h10 : (decide ((μ.1 60 (34 * t + k)) ≤ 0)) = false := decide_eq_false (cn_le.mp h10)
                    refine z_rcs hc hH 2 (pc' := 76) (lv' := [(2, .int (nI k)), (1, .int (nI (cn (niF μ t) k))), (0, .ref 50)]) (st' := [.int 1, .int (nI (cn (niF μ t) k))]) (μ' := z_ui μ 50 0 0) (by rfl) ?_
                    exact zJ hJ8 rfl (by first | with_reducible rfl | (simp only [h9, h10, lb_f, Int64.or_zero, Int32.add_zero, nB_t, nB_f, Bool.not_true, Bool.not_false, Bool.and_true, Bool.true_and, Bool.false_and, Bool.and_false, Bool.or_true, Bool.true_or, Bool.false_or, Bool.or_false, cond_true, cond_false]; done) | rfl) rfl
          exact hL 34 0 (by omega)
        · have h4 : (decide ((μ.1 66 t) ≤ 0)) = false := decide_eq_false (cn_le.mp h4)
          refine z_rcs hc hH 1 (pc' := 40) (lv' := [(0, .ref 50)]) (st' := [.int 0]) (μ' := z_ui μ 50 0 0) (by rfl) ?_
          exact hr 0 40 _ _ _ (some (.int 0)) (by decide +kernel) (z_rx_ok hH (by rfl)) (Or.inr ⟨by simp only [niC, h1, h2, h3, h4, Bool.true_or, Bool.true_and, Bool.and_true, Bool.false_and, Bool.and_false, Bool.not_true, Bool.not_false, Bool.or_true, Bool.or_false, Bool.false_or, cond_true, cond_false], rfl, rfl⟩)
/-! the game: nobody wins, of the reference -/
set_option maxRecDepth 8000
theorem z_zero_o {μ : zM} {r k : Nat} (h : r ≠ 79) : (z_zero μ).1 r k = μ.1 r k := by
  unfold z_zero
  show (bif Nat.beq r 79 then 0 else μ.1 r k) = _
  rw [show Nat.beq r 79 = false from by cases e : Nat.beq r 79 with | false => rfl | true => exact absurd (Nat.eq_of_beq_eq_true e) h]
  rfl
theorem SE_zr (μ : zM) : SE μ (z_zero μ) := fun r k q => z_zero_o (by omega)
noncomputable def nbS (b0 b1 b2 b3 : Bool) : Nat → Bool
  | 0 => b0
  | 1 => b1
  | 2 => b2
  | _ => b3
noncomputable def nM0000 (μ : zM) : zM := z_ui (z_ui (z_ui (z_ui (z_zero μ) 79 0 0) 79 1 0) 79 2 0) 79 3 0
theorem gm_nobody0000 (d : Nat) (hd : 700 ≤ d) (μ : zM) (hH0 : a_H μ) (dl e : Nat) (hdl : μ.1 50 40 = nI dl) (hdl4 : dl < 4) (he : (dl + 1) % 4 = e) (w0 : Int64) (hw0 : ∀ M, SE μ M → a_H M → ∀ d, 699 ≤ d → z_C d mi_X7_waitsAt [.ref 50, .int 0] M (fun r W => r = some (.long w0) ∧ SMj M W ∧ a_H W)) (hb0 : decide (lg_cmp w0 0 = 0) = true) (w1 : Int64) (hw1 : ∀ M, SE μ M → a_H M → ∀ d, 699 ≤ d → z_C d mi_X7_waitsAt [.ref 50, .int 1] M (fun r W => r = some (.long w1) ∧ SMj M W ∧ a_H W)) (hb1 : decide (lg_cmp w1 0 = 0) = true) (w2 : Int64) (hw2 : ∀ M, SE μ M → a_H M → ∀ d, 699 ≤ d → z_C d mi_X7_waitsAt [.ref 50, .int 2] M (fun r W => r = some (.long w2) ∧ SMj M W ∧ a_H W)) (hb2 : decide (lg_cmp w2 0 = 0) = true) (w3 : Int64) (hw3 : ∀ M, SE μ M → a_H M → ∀ d, 699 ≤ d → z_C d mi_X7_waitsAt [.ref 50, .int 3] M (fun r W => r = some (.long w3) ∧ SMj M W ∧ a_H W)) (hb3 : decide (lg_cmp w3 0 = 0) = true) : z_C d mi_X7_nobodyWins [.ref 50] μ (fun r μ' => r = none ∧ SMj (eMB (nM0000 μ) (nbS false false false false dl) true dl e) μ') := by
  obtain ⟨d', rfl⟩ : ∃ d', d = d' + 1 := ⟨d - 1, by omega⟩
  intro Z hc hr
  refine ⟨rfl, ?_⟩
  have hH := zh_X7_nobodyWins
  refine z_rcs hc hH 9 (pc' := 17) (lv' := [(3, .int 0), (2, .ref 79), (1, .int 0), (0, .ref 50)]) (st' := [.int 0, .ref 50, .int 0, .ref 79]) (μ' := z_zero μ) (by rfl) ?_
  refine zq_call hc (z_cx_ok hH (by rfl)) (hw0 _ (SE_zr _) (a_H_zero hH0) d' (by omega)) (by decide +kernel) (fun r9 W0 hq => ?_)
  obtain ⟨rfl, hO0, hA0⟩ := hq
  show Z 1 20 [(3, .int 0), (2, .ref 79), (1, .int 0), (0, .ref 50)] [.long w0, .int 0, .ref 79] W0
  refine z_rcs hc hH 2 (pc' := 22) (lv' := [(3, .int 0), (2, .ref 79), (1, .int 0), (0, .ref 50)]) (st' := [.int (lg_cmp w0 0), .int 0, .ref 79]) (μ' := W0) (by rfl) ?_
  refine zq_if hc hH (by rfl) (tg := 29) (by rfl) (fun h1 => ?_) (fun h1 => ?_)
  · have h1 : (decide ((lg_cmp w0 0) = 0)) = true := decide_eq_true (cm_eq9.mp h1)
    refine z_rcs hc hH 1 (pc' := 30) (lv' := [(3, .int 0), (2, .ref 79), (1, .int 0), (0, .ref 50)]) (st' := [.int 0, .int 0, .ref 79]) (μ' := W0) (by rfl) ?_
    refine zq_bast hc hH (by rfl) 4 (by decide +kernel) (show vp_in (nI 0) 4 from vp_in_nI (by decide) (by decide)) (by decide) ?_
    rw [show (0 : Int32).toNatClampNeg = 0 from rfl]
    show Z 1 31 [(3, .int 0), (2, .ref 79), (1, .int 0), (0, .ref 50)] [] (z_ui W0 79 0 0)
    refine z_rcs hc hH 3 (pc' := 34) (lv' := [(3, .int 0), (2, .ref 79), (1, .int 0), (0, .ref 50)]) (st' := [.int 0, .ref 79, .int 0]) (μ' := z_ui W0 79 0 0) (by rfl) ?_
    refine zq_bald hc hH (by rfl) 4 (by decide +kernel) (show vp_in (nI 0) 4 from vp_in_nI (by decide) (by decide)) ?_
    rw [show (0 : Int32).toNatClampNeg = 0 from rfl]
    rw [ui_s]
    refine z_rcs hc hH 13 (pc' := 17) (lv' := [(3, .int 1), (1, .int 0), (2, .ref 79), (0, .ref 50)]) (st' := [.int 1, .ref 50, .int 1, .ref 79]) (μ' := z_ui W0 79 0 0) (by rfl) ?_
    refine zq_call hc (z_cx_ok hH (by rfl)) (hw1 _ (SE_ui (SE_sm (SE_zr _) hO0) (by omega)) (a_H_ui (r := 79) (k := 0) (hA0) ⟨by decide, by decide⟩) d' (by omega)) (by decide +kernel) (fun r9 W1 hq => ?_)
    obtain ⟨rfl, hO1, hA1⟩ := hq
    show Z 1 20 [(3, .int 1), (1, .int 0), (2, .ref 79), (0, .ref 50)] [.long w1, .int 1, .ref 79] W1
    refine z_rcs hc hH 2 (pc' := 22) (lv' := [(3, .int 1), (1, .int 0), (2, .ref 79), (0, .ref 50)]) (st' := [.int (lg_cmp w1 0), .int 1, .ref 79]) (μ' := W1) (by rfl) ?_
    refine zq_if hc hH (by rfl) (tg := 29) (by rfl) (fun h2 => ?_) (fun h2 => ?_)
    · have h2 : (decide ((lg_cmp w1 0) = 0)) = true := decide_eq_true (cm_eq9.mp h2)
      refine z_rcs hc hH 1 (pc' := 30) (lv' := [(3, .int 1), (1, .int 0), (2, .ref 79), (0, .ref 50)]) (st' := [.int 0, .int 1, .ref 79]) (μ' := W1) (by rfl) ?_
      refine zq_bast hc hH (by rfl) 4 (by decide +kernel) (show vp_in (nI 1) 4 from vp_in_nI (by decide) (by decide)) (by decide) ?_
      rw [show (1 : Int32).toNatClampNeg = 1 from rfl]
      show Z 1 31 [(3, .int 1), (1, .int 0), (2, .ref 79), (0, .ref 50)] [] (z_ui W1 79 1 0)
      refine z_rcs hc hH 3 (pc' := 34) (lv' := [(3, .int 1), (1, .int 0), (2, .ref 79), (0, .ref 50)]) (st' := [.int 1, .ref 79, .int 0]) (μ' := z_ui W1 79 1 0) (by rfl) ?_
      refine zq_bald hc hH (by rfl) 4 (by decide +kernel) (show vp_in (nI 1) 4 from vp_in_nI (by decide) (by decide)) ?_
      rw [show (1 : Int32).toNatClampNeg = 1 from rfl]
      rw [ui_s]
      refine z_rcs hc hH 13 (pc' := 17) (lv' := [(3, .int 2), (1, .int 0), (2, .ref 79), (0, .ref 50)]) (st' := [.int 2, .ref 50, .int 2, .ref 79]) (μ' := z_ui W1 79 1 0) (by rfl) ?_
      refine zq_call hc (z_cx_ok hH (by rfl)) (hw2 _ (SE_ui (SE_sm (SE_ui (SE_sm (SE_zr _) hO0) (by omega)) hO1) (by omega)) (a_H_ui (r := 79) (k := 1) (hA1) ⟨by decide, by decide⟩) d' (by omega)) (by decide +kernel) (fun r9 W2 hq => ?_)
      obtain ⟨rfl, hO2, hA2⟩ := hq
      show Z 1 20 [(3, .int 2), (1, .int 0), (2, .ref 79), (0, .ref 50)] [.long w2, .int 2, .ref 79] W2
      refine z_rcs hc hH 2 (pc' := 22) (lv' := [(3, .int 2), (1, .int 0), (2, .ref 79), (0, .ref 50)]) (st' := [.int (lg_cmp w2 0), .int 2, .ref 79]) (μ' := W2) (by rfl) ?_
      refine zq_if hc hH (by rfl) (tg := 29) (by rfl) (fun h3 => ?_) (fun h3 => ?_)
      · have h3 : (decide ((lg_cmp w2 0) = 0)) = true := decide_eq_true (cm_eq9.mp h3)
        refine z_rcs hc hH 1 (pc' := 30) (lv' := [(3, .int 2), (1, .int 0), (2, .ref 79), (0, .ref 50)]) (st' := [.int 0, .int 2, .ref 79]) (μ' := W2) (by rfl) ?_
        refine zq_bast hc hH (by rfl) 4 (by decide +kernel) (show vp_in (nI 2) 4 from vp_in_nI (by decide) (by decide)) (by decide) ?_
        rw [show (2 : Int32).toNatClampNeg = 2 from rfl]
        show Z 1 31 [(3, .int 2), (1, .int 0), (2, .ref 79), (0, .ref 50)] [] (z_ui W2 79 2 0)
        refine z_rcs hc hH 3 (pc' := 34) (lv' := [(3, .int 2), (1, .int 0), (2, .ref 79), (0, .ref 50)]) (st' := [.int 2, .ref 79, .int 0]) (μ' := z_ui W2 79 2 0) (by rfl) ?_
        refine zq_bald hc hH (by rfl) 4 (by decide +kernel) (show vp_in (nI 2) 4 from vp_in_nI (by decide) (by decide)) ?_
        rw [show (2 : Int32).toNatClampNeg = 2 from rfl]
        rw [ui_s]
        refine z_rcs hc hH 13 (pc' := 17) (lv' := [(3, .int 3), (1, .int 0), (2, .ref 79), (0, .ref 50)]) (st' := [.int 3, .ref 50, .int 3, .ref 79]) (μ' := z_ui W2 79 2 0) (by rfl) ?_
        refine zq_call hc (z_cx_ok hH (by rfl)) (hw3 _ (SE_ui (SE_sm (SE_ui (SE_sm (SE_ui (SE_sm (SE_zr _) hO0) (by omega)) hO1) (by omega)) hO2) (by omega)) (a_H_ui (r := 79) (k := 2) (hA2) ⟨by decide, by decide⟩) d' (by omega)) (by decide +kernel) (fun r9 W3 hq => ?_)
        obtain ⟨rfl, hO3, hA3⟩ := hq
        show Z 1 20 [(3, .int 3), (1, .int 0), (2, .ref 79), (0, .ref 50)] [.long w3, .int 3, .ref 79] W3
        refine z_rcs hc hH 2 (pc' := 22) (lv' := [(3, .int 3), (1, .int 0), (2, .ref 79), (0, .ref 50)]) (st' := [.int (lg_cmp w3 0), .int 3, .ref 79]) (μ' := W3) (by rfl) ?_
        refine zq_if hc hH (by rfl) (tg := 29) (by rfl) (fun h4 => ?_) (fun h4 => ?_)
        · have h4 : (decide ((lg_cmp w3 0) = 0)) = true := decide_eq_true (cm_eq9.mp h4)
          refine z_rcs hc hH 1 (pc' := 30) (lv' := [(3, .int 3), (1, .int 0), (2, .ref 79), (0, .ref 50)]) (st' := [.int 0, .int 3, .ref 79]) (μ' := W3) (by rfl) ?_
          refine zq_bast hc hH (by rfl) 4 (by decide +kernel) (show vp_in (nI 3) 4 from vp_in_nI (by decide) (by decide)) (by decide) ?_
          rw [show (3 : Int32).toNatClampNeg = 3 from rfl]
          show Z 1 31 [(3, .int 3), (1, .int 0), (2, .ref 79), (0, .ref 50)] [] (z_ui W3 79 3 0)
          refine z_rcs hc hH 3 (pc' := 34) (lv' := [(3, .int 3), (1, .int 0), (2, .ref 79), (0, .ref 50)]) (st' := [.int 3, .ref 79, .int 0]) (μ' := z_ui W3 79 3 0) (by rfl) ?_
          refine zq_bald hc hH (by rfl) 4 (by decide +kernel) (show vp_in (nI 3) 4 from vp_in_nI (by decide) (by decide)) ?_
          rw [show (3 : Int32).toNatClampNeg = 3 from rfl]
          rw [ui_s]
          refine z_rcs hc hH 11 (pc' := 103) (lv' := [(3, .int 4), (1, .int 0), (2, .ref 79), (0, .ref 50)]) (st' := []) (μ' := z_ui W3 79 3 0) (by rfl) ?_
          obtain rfl | rfl | rfl | rfl : dl = 0 ∨ dl = 1 ∨ dl = 2 ∨ dl = 3 := by omega
          · skip
            refine z_rcs hc hH 3 (pc' := 106) (lv' := [(3, .int 4), (1, .int 0), (2, .ref 79), (0, .ref 50)]) (st' := [.ref 50, .ref 79, .ref 50]) (μ' := z_ui W3 79 3 0) (by rfl) ?_
            refine zq_gfi hc hH (by rfl) (ci := 6) (f := 40) (by rfl) (by decide +kernel) (by rfl) ?_
            refine zV1 (Z := Z) (Eq.trans (ui_o (by first | decide | omega)) (Eq.trans (hO3 50 40 (by omega)).1 (Eq.trans (ui_o (by first | decide | omega)) (Eq.trans (hO2 50 40 (by omega)).1 (Eq.trans (ui_o (by first | decide | omega)) (Eq.trans (hO1 50 40 (by omega)).1 (Eq.trans (ui_o (by first | decide | omega)) (hO0 50 40 (by omega)).1))))))) ?_
            rw [(z_zero_o (by decide)).trans hdl]
            refine zq_bald hc hH (by rfl) 4 (by decide +kernel) (vp_in_nI (by omega) (by decide)) ?_
            rw [nI_clamp (by omega)]
            refine zV1 (Z := Z) (Eq.trans (ui_k (by first | decide | omega)) (Eq.trans (hO3 79 0 (by omega)).1 (Eq.trans (ui_k (by first | decide | omega)) (Eq.trans (hO2 79 0 (by omega)).1 (Eq.trans (ui_k (by first | decide | omega)) (Eq.trans (hO1 79 0 (by omega)).1 (ui_s))))))) ?_
            refine z_rcs hc hH 1 (pc' := 111) (lv' := [(3, .int 4), (1, .int 0), (2, .ref 79), (0, .ref 50)]) (st' := [.int 1, .int 0, .ref 50]) (μ' := z_ui W3 79 3 0) (by rfl) ?_
            refine zq_call hc (z_cx_ok hH (by rfl)) (gm_endsB d' (by omega) (z_ui W3 79 3 0) false true 0 e (by rw [ui_o (by first | decide | omega), (hO3 50 40 (by omega)).1, ui_o (by first | decide | omega), (hO2 50 40 (by omega)).1, ui_o (by first | decide | omega), (hO1 50 40 (by omega)).1, ui_o (by first | decide | omega), (hO0 50 40 (by omega)).1]; exact (z_zero_o (by decide)).trans hdl) hdl4 he) (by decide +kernel) (fun r9 μ9 hq => ?_)
            obtain ⟨hr9, hm9⟩ := hq
            rw [hr9, hm9]
            clear hr9 hm9
            show Z 1 114 [(3, .int 4), (1, .int 0), (2, .ref 79), (0, .ref 50)] [] (eMB (z_ui W3 79 3 0) false true 0 e)
            exact hr 1 114 _ _ _ none (by decide +kernel) (by rfl) (by refine ⟨rfl, ?_⟩; unfold nM0000; exact SM_eMB (SM_ui (SM_tr (SM_ui (SM_tr (SM_ui (SM_tr (SM_ui (SM_tr (SM_rf _) hO0)) hO1)) hO2)) hO3)))
          · skip
            refine z_rcs hc hH 3 (pc' := 106) (lv' := [(3, .int 4), (1, .int 0), (2, .ref 79), (0, .ref 50)]) (st' := [.ref 50, .ref 79, .ref 50]) (μ' := z_ui W3 79 3 0) (by rfl) ?_
            refine zq_gfi hc hH (by rfl) (ci := 6) (f := 40) (by rfl) (by decide +kernel) (by rfl) ?_
            refine zV1 (Z := Z) (Eq.trans (ui_o (by first | decide | omega)) (Eq.trans (hO3 50 40 (by omega)).1 (Eq.trans (ui_o (by first | decide | omega)) (Eq.trans (hO2 50 40 (by omega)).1 (Eq.trans (ui_o (by first | decide | omega)) (Eq.trans (hO1 50 40 (by omega)).1 (Eq.trans (ui_o (by first | decide | omega)) (hO0 50 40 (by omega)).1))))))) ?_
            rw [(z_zero_o (by decide)).trans hdl]
            refine zq_bald hc hH (by rfl) 4 (by decide +kernel) (vp_in_nI (by omega) (by decide)) ?_
            rw [nI_clamp (by omega)]
            refine zV1 (Z := Z) (Eq.trans (ui_k (by first | decide | omega)) (Eq.trans (hO3 79 1 (by omega)).1 (Eq.trans (ui_k (by first | decide | omega)) (Eq.trans (hO2 79 1 (by omega)).1 (ui_s))))) ?_
            refine z_rcs hc hH 1 (pc' := 111) (lv' := [(3, .int 4), (1, .int 0), (2, .ref 79), (0, .ref 50)]) (st' := [.int 1, .int 0, .ref 50]) (μ' := z_ui W3 79 3 0) (by rfl) ?_
            refine zq_call hc (z_cx_ok hH (by rfl)) (gm_endsB d' (by omega) (z_ui W3 79 3 0) false true 1 e (by rw [ui_o (by first | decide | omega), (hO3 50 40 (by omega)).1, ui_o (by first | decide | omega), (hO2 50 40 (by omega)).1, ui_o (by first | decide | omega), (hO1 50 40 (by omega)).1, ui_o (by first | decide | omega), (hO0 50 40 (by omega)).1]; exact (z_zero_o (by decide)).trans hdl) hdl4 he) (by decide +kernel) (fun r9 μ9 hq => ?_)
            obtain ⟨hr9, hm9⟩ := hq
            rw [hr9, hm9]
            clear hr9 hm9
            show Z 1 114 [(3, .int 4), (1, .int 0), (2, .ref 79), (0, .ref 50)] [] (eMB (z_ui W3 79 3 0) false true 1 e)
            exact hr 1 114 _ _ _ none (by decide +kernel) (by rfl) (by refine ⟨rfl, ?_⟩; unfold nM0000; exact SM_eMB (SM_ui (SM_tr (SM_ui (SM_tr (SM_ui (SM_tr (SM_ui (SM_tr (SM_rf _) hO0)) hO1)) hO2)) hO3)))
          · skip
            refine z_rcs hc hH 3 (pc' := 106) (lv' := [(3, .int 4), (1, .int 0), (2, .ref 79), (0, .ref 50)]) (st' := [.ref 50, .ref 79, .ref 50]) (μ' := z_ui W3 79 3 0) (by rfl) ?_
            refine zq_gfi hc hH (by rfl) (ci := 6) (f := 40) (by rfl) (by decide +kernel) (by rfl) ?_
            refine zV1 (Z := Z) (Eq.trans (ui_o (by first | decide | omega)) (Eq.trans (hO3 50 40 (by omega)).1 (Eq.trans (ui_o (by first | decide | omega)) (Eq.trans (hO2 50 40 (by omega)).1 (Eq.trans (ui_o (by first | decide | omega)) (Eq.trans (hO1 50 40 (by omega)).1 (Eq.trans (ui_o (by first | decide | omega)) (hO0 50 40 (by omega)).1))))))) ?_
            rw [(z_zero_o (by decide)).trans hdl]
            refine zq_bald hc hH (by rfl) 4 (by decide +kernel) (vp_in_nI (by omega) (by decide)) ?_
            rw [nI_clamp (by omega)]
            refine zV1 (Z := Z) (Eq.trans (ui_k (by first | decide | omega)) (Eq.trans (hO3 79 2 (by omega)).1 (ui_s))) ?_
            refine z_rcs hc hH 1 (pc' := 111) (lv' := [(3, .int 4), (1, .int 0), (2, .ref 79), (0, .ref 50)]) (st' := [.int 1, .int 0, .ref 50]) (μ' := z_ui W3 79 3 0) (by rfl) ?_
            refine zq_call hc (z_cx_ok hH (by rfl)) (gm_endsB d' (by omega) (z_ui W3 79 3 0) false true 2 e (by rw [ui_o (by first | decide | omega), (hO3 50 40 (by omega)).1, ui_o (by first | decide | omega), (hO2 50 40 (by omega)).1, ui_o (by first | decide | omega), (hO1 50 40 (by omega)).1, ui_o (by first | decide | omega), (hO0 50 40 (by omega)).1]; exact (z_zero_o (by decide)).trans hdl) hdl4 he) (by decide +kernel) (fun r9 μ9 hq => ?_)
            obtain ⟨hr9, hm9⟩ := hq
            rw [hr9, hm9]
            clear hr9 hm9
            show Z 1 114 [(3, .int 4), (1, .int 0), (2, .ref 79), (0, .ref 50)] [] (eMB (z_ui W3 79 3 0) false true 2 e)
            exact hr 1 114 _ _ _ none (by decide +kernel) (by rfl) (by refine ⟨rfl, ?_⟩; unfold nM0000; exact SM_eMB (SM_ui (SM_tr (SM_ui (SM_tr (SM_ui (SM_tr (SM_ui (SM_tr (SM_rf _) hO0)) hO1)) hO2)) hO3)))
          · skip
            refine z_rcs hc hH 3 (pc' := 106) (lv' := [(3, .int 4), (1, .int 0), (2, .ref 79), (0, .ref 50)]) (st' := [.ref 50, .ref 79, .ref 50]) (μ' := z_ui W3 79 3 0) (by rfl) ?_
            refine zq_gfi hc hH (by rfl) (ci := 6) (f := 40) (by rfl) (by decide +kernel) (by rfl) ?_
            refine zV1 (Z := Z) (Eq.trans (ui_o (by first | decide | omega)) (Eq.trans (hO3 50 40 (by omega)).1 (Eq.trans (ui_o (by first | decide | omega)) (Eq.trans (hO2 50 40 (by omega)).1 (Eq.trans (ui_o (by first | decide | omega)) (Eq.trans (hO1 50 40 (by omega)).1 (Eq.trans (ui_o (by first | decide | omega)) (hO0 50 40 (by omega)).1))))))) ?_
            rw [(z_zero_o (by decide)).trans hdl]
            refine zq_bald hc hH (by rfl) 4 (by decide +kernel) (vp_in_nI (by omega) (by decide)) ?_
            rw [nI_clamp (by omega)]
            rw [ui_s]
            refine z_rcs hc hH 1 (pc' := 111) (lv' := [(3, .int 4), (1, .int 0), (2, .ref 79), (0, .ref 50)]) (st' := [.int 1, .int 0, .ref 50]) (μ' := z_ui W3 79 3 0) (by rfl) ?_
            refine zq_call hc (z_cx_ok hH (by rfl)) (gm_endsB d' (by omega) (z_ui W3 79 3 0) false true 3 e (by rw [ui_o (by first | decide | omega), (hO3 50 40 (by omega)).1, ui_o (by first | decide | omega), (hO2 50 40 (by omega)).1, ui_o (by first | decide | omega), (hO1 50 40 (by omega)).1, ui_o (by first | decide | omega), (hO0 50 40 (by omega)).1]; exact (z_zero_o (by decide)).trans hdl) hdl4 he) (by decide +kernel) (fun r9 μ9 hq => ?_)
            obtain ⟨hr9, hm9⟩ := hq
            rw [hr9, hm9]
            clear hr9 hm9
            show Z 1 114 [(3, .int 4), (1, .int 0), (2, .ref 79), (0, .ref 50)] [] (eMB (z_ui W3 79 3 0) false true 3 e)
            exact hr 1 114 _ _ _ none (by decide +kernel) (by rfl) (by refine ⟨rfl, ?_⟩; unfold nM0000; exact SM_eMB (SM_ui (SM_tr (SM_ui (SM_tr (SM_ui (SM_tr (SM_ui (SM_tr (SM_rf _) hO0)) hO1)) hO2)) hO3)))
        · have h4 : (decide ((lg_cmp w3 0) = 0)) = false := decide_eq_false (cn_eq.mp h4)
          exact absurd (Eq.trans (Eq.symm (hb3)) h4) (by decide)
      · have h3 : (decide ((lg_cmp w2 0) = 0)) = false := decide_eq_false (cn_eq.mp h3)
        exact absurd (Eq.trans (Eq.symm (hb2)) h3) (by decide)
    · have h2 : (decide ((lg_cmp w1 0) = 0)) = false := decide_eq_false (cn_eq.mp h2)
      exact absurd (Eq.trans (Eq.symm (hb1)) h2) (by decide)
  · have h1 : (decide ((lg_cmp w0 0) = 0)) = false := decide_eq_false (cn_eq.mp h1)
    exact absurd (Eq.trans (Eq.symm (hb0)) h1) (by decide)
noncomputable def nM0001 (μ : zM) : zM := z_ui (z_ui (z_ui (z_ui (z_ui (z_ui (z_ui (z_ui (z_zero μ) 79 0 0) 79 1 0) 79 2 0) 79 3 1) 61 0 ((μ.1 61 0) + (-1000))) 61 1 ((μ.1 61 1) + (-1000))) 61 2 ((μ.1 61 2) + (-1000))) 61 3 ((μ.1 61 3) + 3000)
theorem gm_nobody0001 (d : Nat) (hd : 700 ≤ d) (μ : zM) (hH0 : a_H μ) (dl e : Nat) (hdl : μ.1 50 40 = nI dl) (hdl4 : dl < 4) (he : (dl + 1) % 4 = e) (w0 : Int64) (hw0 : ∀ M, SE μ M → a_H M → ∀ d, 699 ≤ d → z_C d mi_X7_waitsAt [.ref 50, .int 0] M (fun r W => r = some (.long w0) ∧ SMj M W ∧ a_H W)) (hb0 : decide (lg_cmp w0 0 = 0) = true) (w1 : Int64) (hw1 : ∀ M, SE μ M → a_H M → ∀ d, 699 ≤ d → z_C d mi_X7_waitsAt [.ref 50, .int 1] M (fun r W => r = some (.long w1) ∧ SMj M W ∧ a_H W)) (hb1 : decide (lg_cmp w1 0 = 0) = true) (w2 : Int64) (hw2 : ∀ M, SE μ M → a_H M → ∀ d, 699 ≤ d → z_C d mi_X7_waitsAt [.ref 50, .int 2] M (fun r W => r = some (.long w2) ∧ SMj M W ∧ a_H W)) (hb2 : decide (lg_cmp w2 0 = 0) = true) (w3 : Int64) (hw3 : ∀ M, SE μ M → a_H M → ∀ d, 699 ≤ d → z_C d mi_X7_waitsAt [.ref 50, .int 3] M (fun r W => r = some (.long w3) ∧ SMj M W ∧ a_H W)) (hb3 : decide (lg_cmp w3 0 = 0) = false) : z_C d mi_X7_nobodyWins [.ref 50] μ (fun r μ' => r = none ∧ SMj (eMB (nM0001 μ) (nbS false false false true dl) true dl e) μ') := by
  obtain ⟨d', rfl⟩ : ∃ d', d = d' + 1 := ⟨d - 1, by omega⟩
  intro Z hc hr
  refine ⟨rfl, ?_⟩
  have hH := zh_X7_nobodyWins
  refine z_rcs hc hH 9 (pc' := 17) (lv' := [(3, .int 0), (2, .ref 79), (1, .int 0), (0, .ref 50)]) (st' := [.int 0, .ref 50, .int 0, .ref 79]) (μ' := z_zero μ) (by rfl) ?_
  refine zq_call hc (z_cx_ok hH (by rfl)) (hw0 _ (SE_zr _) (a_H_zero hH0) d' (by omega)) (by decide +kernel) (fun r9 W0 hq => ?_)
  obtain ⟨rfl, hO0, hA0⟩ := hq
  show Z 1 20 [(3, .int 0), (2, .ref 79), (1, .int 0), (0, .ref 50)] [.long w0, .int 0, .ref 79] W0
  refine z_rcs hc hH 2 (pc' := 22) (lv' := [(3, .int 0), (2, .ref 79), (1, .int 0), (0, .ref 50)]) (st' := [.int (lg_cmp w0 0), .int 0, .ref 79]) (μ' := W0) (by rfl) ?_
  refine zq_if hc hH (by rfl) (tg := 29) (by rfl) (fun h1 => ?_) (fun h1 => ?_)
  · have h1 : (decide ((lg_cmp w0 0) = 0)) = true := decide_eq_true (cm_eq9.mp h1)
    refine z_rcs hc hH 1 (pc' := 30) (lv' := [(3, .int 0), (2, .ref 79), (1, .int 0), (0, .ref 50)]) (st' := [.int 0, .int 0, .ref 79]) (μ' := W0) (by rfl) ?_
    refine zq_bast hc hH (by rfl) 4 (by decide +kernel) (show vp_in (nI 0) 4 from vp_in_nI (by decide) (by decide)) (by decide) ?_
    rw [show (0 : Int32).toNatClampNeg = 0 from rfl]
    show Z 1 31 [(3, .int 0), (2, .ref 79), (1, .int 0), (0, .ref 50)] [] (z_ui W0 79 0 0)
    refine z_rcs hc hH 3 (pc' := 34) (lv' := [(3, .int 0), (2, .ref 79), (1, .int 0), (0, .ref 50)]) (st' := [.int 0, .ref 79, .int 0]) (μ' := z_ui W0 79 0 0) (by rfl) ?_
    refine zq_bald hc hH (by rfl) 4 (by decide +kernel) (show vp_in (nI 0) 4 from vp_in_nI (by decide) (by decide)) ?_
    rw [show (0 : Int32).toNatClampNeg = 0 from rfl]
    rw [ui_s]
    refine z_rcs hc hH 13 (pc' := 17) (lv' := [(3, .int 1), (1, .int 0), (2, .ref 79), (0, .ref 50)]) (st' := [.int 1, .ref 50, .int 1, .ref 79]) (μ' := z_ui W0 79 0 0) (by rfl) ?_
    refine zq_call hc (z_cx_ok hH (by rfl)) (hw1 _ (SE_ui (SE_sm (SE_zr _) hO0) (by omega)) (a_H_ui (r := 79) (k := 0) (hA0) ⟨by decide, by decide⟩) d' (by omega)) (by decide +kernel) (fun r9 W1 hq => ?_)
    obtain ⟨rfl, hO1, hA1⟩ := hq
    show Z 1 20 [(3, .int 1), (1, .int 0), (2, .ref 79), (0, .ref 50)] [.long w1, .int 1, .ref 79] W1
    refine z_rcs hc hH 2 (pc' := 22) (lv' := [(3, .int 1), (1, .int 0), (2, .ref 79), (0, .ref 50)]) (st' := [.int (lg_cmp w1 0), .int 1, .ref 79]) (μ' := W1) (by rfl) ?_
    refine zq_if hc hH (by rfl) (tg := 29) (by rfl) (fun h2 => ?_) (fun h2 => ?_)
    · have h2 : (decide ((lg_cmp w1 0) = 0)) = true := decide_eq_true (cm_eq9.mp h2)
      refine z_rcs hc hH 1 (pc' := 30) (lv' := [(3, .int 1), (1, .int 0), (2, .ref 79), (0, .ref 50)]) (st' := [.int 0, .int 1, .ref 79]) (μ' := W1) (by rfl) ?_
      refine zq_bast hc hH (by rfl) 4 (by decide +kernel) (show vp_in (nI 1) 4 from vp_in_nI (by decide) (by decide)) (by decide) ?_
      rw [show (1 : Int32).toNatClampNeg = 1 from rfl]
      show Z 1 31 [(3, .int 1), (1, .int 0), (2, .ref 79), (0, .ref 50)] [] (z_ui W1 79 1 0)
      refine z_rcs hc hH 3 (pc' := 34) (lv' := [(3, .int 1), (1, .int 0), (2, .ref 79), (0, .ref 50)]) (st' := [.int 1, .ref 79, .int 0]) (μ' := z_ui W1 79 1 0) (by rfl) ?_
      refine zq_bald hc hH (by rfl) 4 (by decide +kernel) (show vp_in (nI 1) 4 from vp_in_nI (by decide) (by decide)) ?_
      rw [show (1 : Int32).toNatClampNeg = 1 from rfl]
      rw [ui_s]
      refine z_rcs hc hH 13 (pc' := 17) (lv' := [(3, .int 2), (1, .int 0), (2, .ref 79), (0, .ref 50)]) (st' := [.int 2, .ref 50, .int 2, .ref 79]) (μ' := z_ui W1 79 1 0) (by rfl) ?_
      refine zq_call hc (z_cx_ok hH (by rfl)) (hw2 _ (SE_ui (SE_sm (SE_ui (SE_sm (SE_zr _) hO0) (by omega)) hO1) (by omega)) (a_H_ui (r := 79) (k := 1) (hA1) ⟨by decide, by decide⟩) d' (by omega)) (by decide +kernel) (fun r9 W2 hq => ?_)
      obtain ⟨rfl, hO2, hA2⟩ := hq
      show Z 1 20 [(3, .int 2), (1, .int 0), (2, .ref 79), (0, .ref 50)] [.long w2, .int 2, .ref 79] W2
      refine z_rcs hc hH 2 (pc' := 22) (lv' := [(3, .int 2), (1, .int 0), (2, .ref 79), (0, .ref 50)]) (st' := [.int (lg_cmp w2 0), .int 2, .ref 79]) (μ' := W2) (by rfl) ?_
      refine zq_if hc hH (by rfl) (tg := 29) (by rfl) (fun h3 => ?_) (fun h3 => ?_)
      · have h3 : (decide ((lg_cmp w2 0) = 0)) = true := decide_eq_true (cm_eq9.mp h3)
        refine z_rcs hc hH 1 (pc' := 30) (lv' := [(3, .int 2), (1, .int 0), (2, .ref 79), (0, .ref 50)]) (st' := [.int 0, .int 2, .ref 79]) (μ' := W2) (by rfl) ?_
        refine zq_bast hc hH (by rfl) 4 (by decide +kernel) (show vp_in (nI 2) 4 from vp_in_nI (by decide) (by decide)) (by decide) ?_
        rw [show (2 : Int32).toNatClampNeg = 2 from rfl]
        show Z 1 31 [(3, .int 2), (1, .int 0), (2, .ref 79), (0, .ref 50)] [] (z_ui W2 79 2 0)
        refine z_rcs hc hH 3 (pc' := 34) (lv' := [(3, .int 2), (1, .int 0), (2, .ref 79), (0, .ref 50)]) (st' := [.int 2, .ref 79, .int 0]) (μ' := z_ui W2 79 2 0) (by rfl) ?_
        refine zq_bald hc hH (by rfl) 4 (by decide +kernel) (show vp_in (nI 2) 4 from vp_in_nI (by decide) (by decide)) ?_
        rw [show (2 : Int32).toNatClampNeg = 2 from rfl]
        rw [ui_s]
        refine z_rcs hc hH 13 (pc' := 17) (lv' := [(3, .int 3), (1, .int 0), (2, .ref 79), (0, .ref 50)]) (st' := [.int 3, .ref 50, .int 3, .ref 79]) (μ' := z_ui W2 79 2 0) (by rfl) ?_
        refine zq_call hc (z_cx_ok hH (by rfl)) (hw3 _ (SE_ui (SE_sm (SE_ui (SE_sm (SE_ui (SE_sm (SE_zr _) hO0) (by omega)) hO1) (by omega)) hO2) (by omega)) (a_H_ui (r := 79) (k := 2) (hA2) ⟨by decide, by decide⟩) d' (by omega)) (by decide +kernel) (fun r9 W3 hq => ?_)
        obtain ⟨rfl, hO3, hA3⟩ := hq
        show Z 1 20 [(3, .int 3), (1, .int 0), (2, .ref 79), (0, .ref 50)] [.long w3, .int 3, .ref 79] W3
        refine z_rcs hc hH 2 (pc' := 22) (lv' := [(3, .int 3), (1, .int 0), (2, .ref 79), (0, .ref 50)]) (st' := [.int (lg_cmp w3 0), .int 3, .ref 79]) (μ' := W3) (by rfl) ?_
        refine zq_if hc hH (by rfl) (tg := 29) (by rfl) (fun h4 => ?_) (fun h4 => ?_)
        · have h4 : (decide ((lg_cmp w3 0) = 0)) = true := decide_eq_true (cm_eq9.mp h4)
          exact absurd (Eq.trans (Eq.symm (hb3)) h4) (by decide)
        · have h4 : (decide ((lg_cmp w3 0) = 0)) = false := decide_eq_false (cn_eq.mp h4)
          refine z_rcs hc hH 2 (pc' := 30) (lv' := [(3, .int 3), (1, .int 0), (2, .ref 79), (0, .ref 50)]) (st' := [.int 1, .int 3, .ref 79]) (μ' := W3) (by rfl) ?_
          refine zq_bast hc hH (by rfl) 4 (by decide +kernel) (show vp_in (nI 3) 4 from vp_in_nI (by decide) (by decide)) (by decide) ?_
          rw [show (3 : Int32).toNatClampNeg = 3 from rfl]
          show Z 1 31 [(3, .int 3), (1, .int 0), (2, .ref 79), (0, .ref 50)] [] (z_ui W3 79 3 1)
          refine z_rcs hc hH 3 (pc' := 34) (lv' := [(3, .int 3), (1, .int 0), (2, .ref 79), (0, .ref 50)]) (st' := [.int 3, .ref 79, .int 0]) (μ' := z_ui W3 79 3 1) (by rfl) ?_
          refine zq_bald hc hH (by rfl) 4 (by decide +kernel) (show vp_in (nI 3) 4 from vp_in_nI (by decide) (by decide)) ?_
          rw [show (3 : Int32).toNatClampNeg = 3 from rfl]
          rw [ui_s]
          refine z_rcs hc hH 21 (pc' := 68) (lv' := [(3, .int 0), (1, .int 1), (2, .ref 79), (0, .ref 50)]) (st' := [.ref 50]) (μ' := z_ui W3 79 3 1) (by rfl) ?_
          refine zq_gfr hc hH (by rfl) (ci := 6) (f := 29) (q := 61) (by rfl) (by decide +kernel) (by rfl) (by decide +kernel) ?_
          refine z_rcs hc hH 2 (pc' := 73) (lv' := [(3, .int 0), (1, .int 1), (2, .ref 79), (0, .ref 50)]) (st' := [.int 0, .ref 61, .int 0, .ref 61]) (μ' := z_ui W3 79 3 1) (by rfl) ?_
          refine zq_iald hc hH (by rfl) 4 (oka_i (by decide +kernel)) (show vp_in (nI 0) 4 from vp_in_nI (by decide) (by decide)) ?_
          rw [show (0 : Int32).toNatClampNeg = 0 from rfl]
          refine zV1 (Z := Z) (Eq.trans (ui_o (by first | decide | omega)) (Eq.trans (hO3 61 0 (by omega)).1 (Eq.trans (ui_o (by first | decide | omega)) (Eq.trans (hO2 61 0 (by omega)).1 (Eq.trans (ui_o (by first | decide | omega)) (Eq.trans (hO1 61 0 (by omega)).1 (Eq.trans (ui_o (by first | decide | omega)) (hO0 61 0 (by omega)).1))))))) ?_
          rw [z_zero_o (by decide)]
          refine z_rcs hc hH 2 (pc' := 76) (lv' := [(3, .int 0), (1, .int 1), (2, .ref 79), (0, .ref 50)]) (st' := [.int 0, .ref 79, .int (μ.1 61 0), .int 0, .ref 61]) (μ' := z_ui W3 79 3 1) (by rfl) ?_
          refine zq_bald hc hH (by rfl) 4 (by decide +kernel) (show vp_in (nI 0) 4 from vp_in_nI (by decide) (by decide)) ?_
          rw [show (0 : Int32).toNatClampNeg = 0 from rfl]
          refine zV1 (Z := Z) (Eq.trans (ui_k (by first | decide | omega)) (Eq.trans (hO3 79 0 (by omega)).1 (Eq.trans (ui_k (by first | decide | omega)) (Eq.trans (hO2 79 0 (by omega)).1 (Eq.trans (ui_k (by first | decide | omega)) (Eq.trans (hO1 79 0 (by omega)).1 (ui_s))))))) ?_
          refine z_rcs hc hH 7 (pc' := 96) (lv' := [(3, .int 0), (1, .int 1), (2, .ref 79), (0, .ref 50)]) (st' := [.int ((μ.1 61 0) + (-1000)), .int 0, .ref 61]) (μ' := z_ui W3 79 3 1) (by rfl) ?_
          refine zq_iast hc hH (by rfl) 4 (oka_i (by decide +kernel)).2 (show vp_in (nI 0) 4 from vp_in_nI (by decide) (by decide)) ?_
          rw [show (0 : Int32).toNatClampNeg = 0 from rfl]
          show Z 1 97 [(3, .int 0), (1, .int 1), (2, .ref 79), (0, .ref 50)] [] (z_ui (z_ui W3 79 3 1) 61 0 ((μ.1 61 0) + (-1000)))
          refine z_rcs0 hc hH 6 (pc' := 68) (lv' := [(3, .int 1), (1, .int 1), (2, .ref 79), (0, .ref 50)]) (st' := [.ref 50]) (by rfl) ?_
          refine zq_gfr hc hH (by rfl) (ci := 6) (f := 29) (q := 61) (by rfl) (by decide +kernel) (by rfl) (by decide +kernel) ?_
          refine z_rcs0 hc hH 2 (pc' := 73) (lv' := [(3, .int 1), (1, .int 1), (2, .ref 79), (0, .ref 50)]) (st' := [.int 1, .ref 61, .int 1, .ref 61]) (by rfl) ?_
          refine zq_iald hc hH (by rfl) 4 (oka_i (by decide +kernel)) (show vp_in (nI 1) 4 from vp_in_nI (by decide) (by decide)) ?_
          rw [show (1 : Int32).toNatClampNeg = 1 from rfl]
          refine zV1 (Z := Z) (Eq.trans (ui_k (by first | decide | omega)) (Eq.trans (ui_o (by first | decide | omega)) (Eq.trans (hO3 61 1 (by omega)).1 (Eq.trans (ui_o (by first | decide | omega)) (Eq.trans (hO2 61 1 (by omega)).1 (Eq.trans (ui_o (by first | decide | omega)) (Eq.trans (hO1 61 1 (by omega)).1 (Eq.trans (ui_o (by first | decide | omega)) (hO0 61 1 (by omega)).1)))))))) ?_
          rw [z_zero_o (by decide)]
          refine z_rcs0 hc hH 2 (pc' := 76) (lv' := [(3, .int 1), (1, .int 1), (2, .ref 79), (0, .ref 50)]) (st' := [.int 1, .ref 79, .int (μ.1 61 1), .int 1, .ref 61]) (by rfl) ?_
          refine zq_bald hc hH (by rfl) 4 (by decide +kernel) (show vp_in (nI 1) 4 from vp_in_nI (by decide) (by decide)) ?_
          rw [show (1 : Int32).toNatClampNeg = 1 from rfl]
          refine zV1 (Z := Z) (Eq.trans (ui_o (by first | decide | omega)) (Eq.trans (ui_k (by first | decide | omega)) (Eq.trans (hO3 79 1 (by omega)).1 (Eq.trans (ui_k (by first | decide | omega)) (Eq.trans (hO2 79 1 (by omega)).1 (ui_s)))))) ?_
          refine z_rcs0 hc hH 7 (pc' := 96) (lv' := [(3, .int 1), (1, .int 1), (2, .ref 79), (0, .ref 50)]) (st' := [.int ((μ.1 61 1) + (-1000)), .int 1, .ref 61]) (by rfl) ?_
          refine zq_iast hc hH (by rfl) 4 (oka_i (by decide +kernel)).2 (show vp_in (nI 1) 4 from vp_in_nI (by decide) (by decide)) ?_
          rw [show (1 : Int32).toNatClampNeg = 1 from rfl]
          show Z 1 97 [(3, .int 1), (1, .int 1), (2, .ref 79), (0, .ref 50)] [] (z_ui (z_ui (z_ui W3 79 3 1) 61 0 ((μ.1 61 0) + (-1000))) 61 1 ((μ.1 61 1) + (-1000)))
          refine z_rcs0 hc hH 6 (pc' := 68) (lv' := [(3, .int 2), (1, .int 1), (2, .ref 79), (0, .ref 50)]) (st' := [.ref 50]) (by rfl) ?_
          refine zq_gfr hc hH (by rfl) (ci := 6) (f := 29) (q := 61) (by rfl) (by decide +kernel) (by rfl) (by decide +kernel) ?_
          refine z_rcs0 hc hH 2 (pc' := 73) (lv' := [(3, .int 2), (1, .int 1), (2, .ref 79), (0, .ref 50)]) (st' := [.int 2, .ref 61, .int 2, .ref 61]) (by rfl) ?_
          refine zq_iald hc hH (by rfl) 4 (oka_i (by decide +kernel)) (show vp_in (nI 2) 4 from vp_in_nI (by decide) (by decide)) ?_
          rw [show (2 : Int32).toNatClampNeg = 2 from rfl]
          refine zV1 (Z := Z) (Eq.trans (ui_k (by first | decide | omega)) (Eq.trans (ui_k (by first | decide | omega)) (Eq.trans (ui_o (by first | decide | omega)) (Eq.trans (hO3 61 2 (by omega)).1 (Eq.trans (ui_o (by first | decide | omega)) (Eq.trans (hO2 61 2 (by omega)).1 (Eq.trans (ui_o (by first | decide | omega)) (Eq.trans (hO1 61 2 (by omega)).1 (Eq.trans (ui_o (by first | decide | omega)) (hO0 61 2 (by omega)).1))))))))) ?_
          rw [z_zero_o (by decide)]
          refine z_rcs0 hc hH 2 (pc' := 76) (lv' := [(3, .int 2), (1, .int 1), (2, .ref 79), (0, .ref 50)]) (st' := [.int 2, .ref 79, .int (μ.1 61 2), .int 2, .ref 61]) (by rfl) ?_
          refine zq_bald hc hH (by rfl) 4 (by decide +kernel) (show vp_in (nI 2) 4 from vp_in_nI (by decide) (by decide)) ?_
          rw [show (2 : Int32).toNatClampNeg = 2 from rfl]
          refine zV1 (Z := Z) (Eq.trans (ui_o (by first | decide | omega)) (Eq.trans (ui_o (by first | decide | omega)) (Eq.trans (ui_k (by first | decide | omega)) (Eq.trans (hO3 79 2 (by omega)).1 (ui_s))))) ?_
          refine z_rcs0 hc hH 7 (pc' := 96) (lv' := [(3, .int 2), (1, .int 1), (2, .ref 79), (0, .ref 50)]) (st' := [.int ((μ.1 61 2) + (-1000)), .int 2, .ref 61]) (by rfl) ?_
          refine zq_iast hc hH (by rfl) 4 (oka_i (by decide +kernel)).2 (show vp_in (nI 2) 4 from vp_in_nI (by decide) (by decide)) ?_
          rw [show (2 : Int32).toNatClampNeg = 2 from rfl]
          show Z 1 97 [(3, .int 2), (1, .int 1), (2, .ref 79), (0, .ref 50)] [] (z_ui (z_ui (z_ui (z_ui W3 79 3 1) 61 0 ((μ.1 61 0) + (-1000))) 61 1 ((μ.1 61 1) + (-1000))) 61 2 ((μ.1 61 2) + (-1000)))
          refine z_rcs0 hc hH 6 (pc' := 68) (lv' := [(3, .int 3), (1, .int 1), (2, .ref 79), (0, .ref 50)]) (st' := [.ref 50]) (by rfl) ?_
          refine zq_gfr hc hH (by rfl) (ci := 6) (f := 29) (q := 61) (by rfl) (by decide +kernel) (by rfl) (by decide +kernel) ?_
          refine z_rcs0 hc hH 2 (pc' := 73) (lv' := [(3, .int 3), (1, .int 1), (2, .ref 79), (0, .ref 50)]) (st' := [.int 3, .ref 61, .int 3, .ref 61]) (by rfl) ?_
          refine zq_iald hc hH (by rfl) 4 (oka_i (by decide +kernel)) (show vp_in (nI 3) 4 from vp_in_nI (by decide) (by decide)) ?_
          rw [show (3 : Int32).toNatClampNeg = 3 from rfl]
          refine zV1 (Z := Z) (Eq.trans (ui_k (by first | decide | omega)) (Eq.trans (ui_k (by first | decide | omega)) (Eq.trans (ui_k (by first | decide | omega)) (Eq.trans (ui_o (by first | decide | omega)) (Eq.trans (hO3 61 3 (by omega)).1 (Eq.trans (ui_o (by first | decide | omega)) (Eq.trans (hO2 61 3 (by omega)).1 (Eq.trans (ui_o (by first | decide | omega)) (Eq.trans (hO1 61 3 (by omega)).1 (Eq.trans (ui_o (by first | decide | omega)) (hO0 61 3 (by omega)).1)))))))))) ?_
          rw [z_zero_o (by decide)]
          refine z_rcs0 hc hH 2 (pc' := 76) (lv' := [(3, .int 3), (1, .int 1), (2, .ref 79), (0, .ref 50)]) (st' := [.int 3, .ref 79, .int (μ.1 61 3), .int 3, .ref 61]) (by rfl) ?_
          refine zq_bald hc hH (by rfl) 4 (by decide +kernel) (show vp_in (nI 3) 4 from vp_in_nI (by decide) (by decide)) ?_
          rw [show (3 : Int32).toNatClampNeg = 3 from rfl]
          refine zV1 (Z := Z) (Eq.trans (ui_o (by first | decide | omega)) (Eq.trans (ui_o (by first | decide | omega)) (Eq.trans (ui_o (by first | decide | omega)) (ui_s)))) ?_
          refine z_rcs0 hc hH 6 (pc' := 96) (lv' := [(3, .int 3), (1, .int 1), (2, .ref 79), (0, .ref 50)]) (st' := [.int ((μ.1 61 3) + 3000), .int 3, .ref 61]) (by rfl) ?_
          refine zq_iast hc hH (by rfl) 4 (oka_i (by decide +kernel)).2 (show vp_in (nI 3) 4 from vp_in_nI (by decide) (by decide)) ?_
          rw [show (3 : Int32).toNatClampNeg = 3 from rfl]
          show Z 1 97 [(3, .int 3), (1, .int 1), (2, .ref 79), (0, .ref 50)] [] (z_ui (z_ui (z_ui (z_ui (z_ui W3 79 3 1) 61 0 ((μ.1 61 0) + (-1000))) 61 1 ((μ.1 61 1) + (-1000))) 61 2 ((μ.1 61 2) + (-1000))) 61 3 ((μ.1 61 3) + 3000))
          refine z_rcs0 hc hH 5 (pc' := 103) (lv' := [(3, .int 4), (1, .int 1), (2, .ref 79), (0, .ref 50)]) (st' := []) (by rfl) ?_
          obtain rfl | rfl | rfl | rfl : dl = 0 ∨ dl = 1 ∨ dl = 2 ∨ dl = 3 := by omega
          · skip
            refine z_rcs0 hc hH 3 (pc' := 106) (lv' := [(3, .int 4), (1, .int 1), (2, .ref 79), (0, .ref 50)]) (st' := [.ref 50, .ref 79, .ref 50]) (by rfl) ?_
            refine zq_gfi hc hH (by rfl) (ci := 6) (f := 40) (by rfl) (by decide +kernel) (by rfl) ?_
            refine zV1 (Z := Z) (Eq.trans (ui_o (by first | decide | omega)) (Eq.trans (ui_o (by first | decide | omega)) (Eq.trans (ui_o (by first | decide | omega)) (Eq.trans (ui_o (by first | decide | omega)) (Eq.trans (ui_o (by first | decide | omega)) (Eq.trans (hO3 50 40 (by omega)).1 (Eq.trans (ui_o (by first | decide | omega)) (Eq.trans (hO2 50 40 (by omega)).1 (Eq.trans (ui_o (by first | decide | omega)) (Eq.trans (hO1 50 40 (by omega)).1 (Eq.trans (ui_o (by first | decide | omega)) (hO0 50 40 (by omega)).1))))))))))) ?_
            rw [(z_zero_o (by decide)).trans hdl]
            refine zq_bald hc hH (by rfl) 4 (by decide +kernel) (vp_in_nI (by omega) (by decide)) ?_
            rw [nI_clamp (by omega)]
            refine zV1 (Z := Z) (Eq.trans (ui_o (by first | decide | omega)) (Eq.trans (ui_o (by first | decide | omega)) (Eq.trans (ui_o (by first | decide | omega)) (Eq.trans (ui_o (by first | decide | omega)) (Eq.trans (ui_k (by first | decide | omega)) (Eq.trans (hO3 79 0 (by omega)).1 (Eq.trans (ui_k (by first | decide | omega)) (Eq.trans (hO2 79 0 (by omega)).1 (Eq.trans (ui_k (by first | decide | omega)) (Eq.trans (hO1 79 0 (by omega)).1 (ui_s))))))))))) ?_
            refine z_rcs0 hc hH 1 (pc' := 111) (lv' := [(3, .int 4), (1, .int 1), (2, .ref 79), (0, .ref 50)]) (st' := [.int 1, .int 0, .ref 50]) (by rfl) ?_
            refine zq_call hc (z_cx_ok hH (by rfl)) (gm_endsB d' (by omega) (z_ui (z_ui (z_ui (z_ui (z_ui W3 79 3 1) 61 0 ((μ.1 61 0) + (-1000))) 61 1 ((μ.1 61 1) + (-1000))) 61 2 ((μ.1 61 2) + (-1000))) 61 3 ((μ.1 61 3) + 3000)) false true 0 e (by rw [ui_o (by first | decide | omega), ui_o (by first | decide | omega), ui_o (by first | decide | omega), ui_o (by first | decide | omega), ui_o (by first | decide | omega), (hO3 50 40 (by omega)).1, ui_o (by first | decide | omega), (hO2 50 40 (by omega)).1, ui_o (by first | decide | omega), (hO1 50 40 (by omega)).1, ui_o (by first | decide | omega), (hO0 50 40 (by omega)).1]; exact (z_zero_o (by decide)).trans hdl) hdl4 he) (by decide +kernel) (fun r9 μ9 hq => ?_)
            obtain ⟨hr9, hm9⟩ := hq
            rw [hr9, hm9]
            clear hr9 hm9
            show Z 1 114 [(3, .int 4), (1, .int 1), (2, .ref 79), (0, .ref 50)] [] (eMB (z_ui (z_ui (z_ui (z_ui (z_ui W3 79 3 1) 61 0 ((μ.1 61 0) + (-1000))) 61 1 ((μ.1 61 1) + (-1000))) 61 2 ((μ.1 61 2) + (-1000))) 61 3 ((μ.1 61 3) + 3000)) false true 0 e)
            exact hr 1 114 _ _ _ none (by decide +kernel) (by rfl) (by refine ⟨rfl, ?_⟩; unfold nM0001; exact SM_eMB (SM_ui (SM_ui (SM_ui (SM_ui (SM_ui (SM_tr (SM_ui (SM_tr (SM_ui (SM_tr (SM_ui (SM_tr (SM_rf _) hO0)) hO1)) hO2)) hO3)))))))
          · skip
            refine z_rcs hc hH 3 (pc' := 106) (lv' := [(3, .int 4), (1, .int 1), (2, .ref 79), (0, .ref 50)]) (st' := [.ref 50, .ref 79, .ref 50]) (μ' := z_ui (z_ui (z_ui (z_ui (z_ui W3 79 3 1) 61 0 ((μ.1 61 0) + (-1000))) 61 1 ((μ.1 61 1) + (-1000))) 61 2 ((μ.1 61 2) + (-1000))) 61 3 ((μ.1 61 3) + 3000)) (by rfl) ?_
            refine zq_gfi hc hH (by rfl) (ci := 6) (f := 40) (by rfl) (by decide +kernel) (by rfl) ?_
            refine zV1 (Z := Z) (Eq.trans (ui_o (by first | decide | omega)) (Eq.trans (ui_o (by first | decide | omega)) (Eq.trans (ui_o (by first | decide | omega)) (Eq.trans (ui_o (by first | decide | omega)) (Eq.trans (ui_o (by first | decide | omega)) (Eq.trans (hO3 50 40 (by omega)).1 (Eq.trans (ui_o (by first | decide | omega)) (Eq.trans (hO2 50 40 (by omega)).1 (Eq.trans (ui_o (by first | decide | omega)) (Eq.trans (hO1 50 40 (by omega)).1 (Eq.trans (ui_o (by first | decide | omega)) (hO0 50 40 (by omega)).1))))))))))) ?_
            rw [(z_zero_o (by decide)).trans hdl]
            refine zq_bald hc hH (by rfl) 4 (by decide +kernel) (vp_in_nI (by omega) (by decide)) ?_
            rw [nI_clamp (by omega)]
            refine zV1 (Z := Z) (Eq.trans (ui_o (by first | decide | omega)) (Eq.trans (ui_o (by first | decide | omega)) (Eq.trans (ui_o (by first | decide | omega)) (Eq.trans (ui_o (by first | decide | omega)) (Eq.trans (ui_k (by first | decide | omega)) (Eq.trans (hO3 79 1 (by omega)).1 (Eq.trans (ui_k (by first | decide | omega)) (Eq.trans (hO2 79 1 (by omega)).1 (ui_s))))))))) ?_
            refine z_rcs0 hc hH 1 (pc' := 111) (lv' := [(3, .int 4), (1, .int 1), (2, .ref 79), (0, .ref 50)]) (st' := [.int 1, .int 0, .ref 50]) (by rfl) ?_
            refine zq_call hc (z_cx_ok hH (by rfl)) (gm_endsB d' (by omega) (z_ui (z_ui (z_ui (z_ui (z_ui W3 79 3 1) 61 0 ((μ.1 61 0) + (-1000))) 61 1 ((μ.1 61 1) + (-1000))) 61 2 ((μ.1 61 2) + (-1000))) 61 3 ((μ.1 61 3) + 3000)) false true 1 e (by rw [ui_o (by first | decide | omega), ui_o (by first | decide | omega), ui_o (by first | decide | omega), ui_o (by first | decide | omega), ui_o (by first | decide | omega), (hO3 50 40 (by omega)).1, ui_o (by first | decide | omega), (hO2 50 40 (by omega)).1, ui_o (by first | decide | omega), (hO1 50 40 (by omega)).1, ui_o (by first | decide | omega), (hO0 50 40 (by omega)).1]; exact (z_zero_o (by decide)).trans hdl) hdl4 he) (by decide +kernel) (fun r9 μ9 hq => ?_)
            obtain ⟨hr9, hm9⟩ := hq
            rw [hr9, hm9]
            clear hr9 hm9
            show Z 1 114 [(3, .int 4), (1, .int 1), (2, .ref 79), (0, .ref 50)] [] (eMB (z_ui (z_ui (z_ui (z_ui (z_ui W3 79 3 1) 61 0 ((μ.1 61 0) + (-1000))) 61 1 ((μ.1 61 1) + (-1000))) 61 2 ((μ.1 61 2) + (-1000))) 61 3 ((μ.1 61 3) + 3000)) false true 1 e)
            exact hr 1 114 _ _ _ none (by decide +kernel) (by rfl) (by refine ⟨rfl, ?_⟩; unfold nM0001; exact SM_eMB (SM_ui (SM_ui (SM_ui (SM_ui (SM_ui (SM_tr (SM_ui (SM_tr (SM_ui (SM_tr (SM_ui (SM_tr (SM_rf _) hO0)) hO1)) hO2)) hO3)))))))
          · skip
            refine z_rcs hc hH 3 (pc' := 106) (lv' := [(3, .int 4), (1, .int 1), (2, .ref 79), (0, .ref 50)]) (st' := [.ref 50, .ref 79, .ref 50]) (μ' := z_ui (z_ui (z_ui (z_ui (z_ui W3 79 3 1) 61 0 ((μ.1 61 0) + (-1000))) 61 1 ((μ.1 61 1) + (-1000))) 61 2 ((μ.1 61 2) + (-1000))) 61 3 ((μ.1 61 3) + 3000)) (by rfl) ?_
            refine zq_gfi hc hH (by rfl) (ci := 6) (f := 40) (by rfl) (by decide +kernel) (by rfl) ?_
            refine zV1 (Z := Z) (Eq.trans (ui_o (by first | decide | omega)) (Eq.trans (ui_o (by first | decide | omega)) (Eq.trans (ui_o (by first | decide | omega)) (Eq.trans (ui_o (by first | decide | omega)) (Eq.trans (ui_o (by first | decide | omega)) (Eq.trans (hO3 50 40 (by omega)).1 (Eq.trans (ui_o (by first | decide | omega)) (Eq.trans (hO2 50 40 (by omega)).1 (Eq.trans (ui_o (by first | decide | omega)) (Eq.trans (hO1 50 40 (by omega)).1 (Eq.trans (ui_o (by first | decide | omega)) (hO0 50 40 (by omega)).1))))))))))) ?_
            rw [(z_zero_o (by decide)).trans hdl]
            refine zq_bald hc hH (by rfl) 4 (by decide +kernel) (vp_in_nI (by omega) (by decide)) ?_
            rw [nI_clamp (by omega)]
            refine zV1 (Z := Z) (Eq.trans (ui_o (by first | decide | omega)) (Eq.trans (ui_o (by first | decide | omega)) (Eq.trans (ui_o (by first | decide | omega)) (Eq.trans (ui_o (by first | decide | omega)) (Eq.trans (ui_k (by first | decide | omega)) (Eq.trans (hO3 79 2 (by omega)).1 (ui_s))))))) ?_
            refine z_rcs0 hc hH 1 (pc' := 111) (lv' := [(3, .int 4), (1, .int 1), (2, .ref 79), (0, .ref 50)]) (st' := [.int 1, .int 0, .ref 50]) (by rfl) ?_
            refine zq_call hc (z_cx_ok hH (by rfl)) (gm_endsB d' (by omega) (z_ui (z_ui (z_ui (z_ui (z_ui W3 79 3 1) 61 0 ((μ.1 61 0) + (-1000))) 61 1 ((μ.1 61 1) + (-1000))) 61 2 ((μ.1 61 2) + (-1000))) 61 3 ((μ.1 61 3) + 3000)) false true 2 e (by rw [ui_o (by first | decide | omega), ui_o (by first | decide | omega), ui_o (by first | decide | omega), ui_o (by first | decide | omega), ui_o (by first | decide | omega), (hO3 50 40 (by omega)).1, ui_o (by first | decide | omega), (hO2 50 40 (by omega)).1, ui_o (by first | decide | omega), (hO1 50 40 (by omega)).1, ui_o (by first | decide | omega), (hO0 50 40 (by omega)).1]; exact (z_zero_o (by decide)).trans hdl) hdl4 he) (by decide +kernel) (fun r9 μ9 hq => ?_)
            obtain ⟨hr9, hm9⟩ := hq
            rw [hr9, hm9]
            clear hr9 hm9
            show Z 1 114 [(3, .int 4), (1, .int 1), (2, .ref 79), (0, .ref 50)] [] (eMB (z_ui (z_ui (z_ui (z_ui (z_ui W3 79 3 1) 61 0 ((μ.1 61 0) + (-1000))) 61 1 ((μ.1 61 1) + (-1000))) 61 2 ((μ.1 61 2) + (-1000))) 61 3 ((μ.1 61 3) + 3000)) false true 2 e)
            exact hr 1 114 _ _ _ none (by decide +kernel) (by rfl) (by refine ⟨rfl, ?_⟩; unfold nM0001; exact SM_eMB (SM_ui (SM_ui (SM_ui (SM_ui (SM_ui (SM_tr (SM_ui (SM_tr (SM_ui (SM_tr (SM_ui (SM_tr (SM_rf _) hO0)) hO1)) hO2)) hO3)))))))
          · skip
            refine z_rcs hc hH 3 (pc' := 106) (lv' := [(3, .int 4), (1, .int 1), (2, .ref 79), (0, .ref 50)]) (st' := [.ref 50, .ref 79, .ref 50]) (μ' := z_ui (z_ui (z_ui (z_ui (z_ui W3 79 3 1) 61 0 ((μ.1 61 0) + (-1000))) 61 1 ((μ.1 61 1) + (-1000))) 61 2 ((μ.1 61 2) + (-1000))) 61 3 ((μ.1 61 3) + 3000)) (by rfl) ?_
            refine zq_gfi hc hH (by rfl) (ci := 6) (f := 40) (by rfl) (by decide +kernel) (by rfl) ?_
            refine zV1 (Z := Z) (Eq.trans (ui_o (by first | decide | omega)) (Eq.trans (ui_o (by first | decide | omega)) (Eq.trans (ui_o (by first | decide | omega)) (Eq.trans (ui_o (by first | decide | omega)) (Eq.trans (ui_o (by first | decide | omega)) (Eq.trans (hO3 50 40 (by omega)).1 (Eq.trans (ui_o (by first | decide | omega)) (Eq.trans (hO2 50 40 (by omega)).1 (Eq.trans (ui_o (by first | decide | omega)) (Eq.trans (hO1 50 40 (by omega)).1 (Eq.trans (ui_o (by first | decide | omega)) (hO0 50 40 (by omega)).1))))))))))) ?_
            rw [(z_zero_o (by decide)).trans hdl]
            refine zq_bald hc hH (by rfl) 4 (by decide +kernel) (vp_in_nI (by omega) (by decide)) ?_
            rw [nI_clamp (by omega)]
            refine zV1 (Z := Z) (Eq.trans (ui_o (by first | decide | omega)) (Eq.trans (ui_o (by first | decide | omega)) (Eq.trans (ui_o (by first | decide | omega)) (Eq.trans (ui_o (by first | decide | omega)) (ui_s))))) ?_
            refine z_rcs0 hc hH 1 (pc' := 111) (lv' := [(3, .int 4), (1, .int 1), (2, .ref 79), (0, .ref 50)]) (st' := [.int 1, .int 1, .ref 50]) (by rfl) ?_
            refine zq_call hc (z_cx_ok hH (by rfl)) (gm_endsB d' (by omega) (z_ui (z_ui (z_ui (z_ui (z_ui W3 79 3 1) 61 0 ((μ.1 61 0) + (-1000))) 61 1 ((μ.1 61 1) + (-1000))) 61 2 ((μ.1 61 2) + (-1000))) 61 3 ((μ.1 61 3) + 3000)) true true 3 e (by rw [ui_o (by first | decide | omega), ui_o (by first | decide | omega), ui_o (by first | decide | omega), ui_o (by first | decide | omega), ui_o (by first | decide | omega), (hO3 50 40 (by omega)).1, ui_o (by first | decide | omega), (hO2 50 40 (by omega)).1, ui_o (by first | decide | omega), (hO1 50 40 (by omega)).1, ui_o (by first | decide | omega), (hO0 50 40 (by omega)).1]; exact (z_zero_o (by decide)).trans hdl) hdl4 he) (by decide +kernel) (fun r9 μ9 hq => ?_)
            obtain ⟨hr9, hm9⟩ := hq
            rw [hr9, hm9]
            clear hr9 hm9
            show Z 1 114 [(3, .int 4), (1, .int 1), (2, .ref 79), (0, .ref 50)] [] (eMB (z_ui (z_ui (z_ui (z_ui (z_ui W3 79 3 1) 61 0 ((μ.1 61 0) + (-1000))) 61 1 ((μ.1 61 1) + (-1000))) 61 2 ((μ.1 61 2) + (-1000))) 61 3 ((μ.1 61 3) + 3000)) true true 3 e)
            exact hr 1 114 _ _ _ none (by decide +kernel) (by rfl) (by refine ⟨rfl, ?_⟩; unfold nM0001; exact SM_eMB (SM_ui (SM_ui (SM_ui (SM_ui (SM_ui (SM_tr (SM_ui (SM_tr (SM_ui (SM_tr (SM_ui (SM_tr (SM_rf _) hO0)) hO1)) hO2)) hO3)))))))
      · have h3 : (decide ((lg_cmp w2 0) = 0)) = false := decide_eq_false (cn_eq.mp h3)
        exact absurd (Eq.trans (Eq.symm (hb2)) h3) (by decide)
    · have h2 : (decide ((lg_cmp w1 0) = 0)) = false := decide_eq_false (cn_eq.mp h2)
      exact absurd (Eq.trans (Eq.symm (hb1)) h2) (by decide)
  · have h1 : (decide ((lg_cmp w0 0) = 0)) = false := decide_eq_false (cn_eq.mp h1)
    exact absurd (Eq.trans (Eq.symm (hb0)) h1) (by decide)
noncomputable def nM0010 (μ : zM) : zM := z_ui (z_ui (z_ui (z_ui (z_ui (z_ui (z_ui (z_ui (z_zero μ) 79 0 0) 79 1 0) 79 2 1) 79 3 0) 61 0 ((μ.1 61 0) + (-1000))) 61 1 ((μ.1 61 1) + (-1000))) 61 2 ((μ.1 61 2) + 3000)) 61 3 ((μ.1 61 3) + (-1000))
theorem gm_nobody0010 (d : Nat) (hd : 700 ≤ d) (μ : zM) (hH0 : a_H μ) (dl e : Nat) (hdl : μ.1 50 40 = nI dl) (hdl4 : dl < 4) (he : (dl + 1) % 4 = e) (w0 : Int64) (hw0 : ∀ M, SE μ M → a_H M → ∀ d, 699 ≤ d → z_C d mi_X7_waitsAt [.ref 50, .int 0] M (fun r W => r = some (.long w0) ∧ SMj M W ∧ a_H W)) (hb0 : decide (lg_cmp w0 0 = 0) = true) (w1 : Int64) (hw1 : ∀ M, SE μ M → a_H M → ∀ d, 699 ≤ d → z_C d mi_X7_waitsAt [.ref 50, .int 1] M (fun r W => r = some (.long w1) ∧ SMj M W ∧ a_H W)) (hb1 : decide (lg_cmp w1 0 = 0) = true) (w2 : Int64) (hw2 : ∀ M, SE μ M → a_H M → ∀ d, 699 ≤ d → z_C d mi_X7_waitsAt [.ref 50, .int 2] M (fun r W => r = some (.long w2) ∧ SMj M W ∧ a_H W)) (hb2 : decide (lg_cmp w2 0 = 0) = false) (w3 : Int64) (hw3 : ∀ M, SE μ M → a_H M → ∀ d, 699 ≤ d → z_C d mi_X7_waitsAt [.ref 50, .int 3] M (fun r W => r = some (.long w3) ∧ SMj M W ∧ a_H W)) (hb3 : decide (lg_cmp w3 0 = 0) = true) : z_C d mi_X7_nobodyWins [.ref 50] μ (fun r μ' => r = none ∧ SMj (eMB (nM0010 μ) (nbS false false true false dl) true dl e) μ') := by
  obtain ⟨d', rfl⟩ : ∃ d', d = d' + 1 := ⟨d - 1, by omega⟩
  intro Z hc hr
  refine ⟨rfl, ?_⟩
  have hH := zh_X7_nobodyWins
  refine z_rcs hc hH 9 (pc' := 17) (lv' := [(3, .int 0), (2, .ref 79), (1, .int 0), (0, .ref 50)]) (st' := [.int 0, .ref 50, .int 0, .ref 79]) (μ' := z_zero μ) (by rfl) ?_
  refine zq_call hc (z_cx_ok hH (by rfl)) (hw0 _ (SE_zr _) (a_H_zero hH0) d' (by omega)) (by decide +kernel) (fun r9 W0 hq => ?_)
  obtain ⟨rfl, hO0, hA0⟩ := hq
  show Z 1 20 [(3, .int 0), (2, .ref 79), (1, .int 0), (0, .ref 50)] [.long w0, .int 0, .ref 79] W0
  refine z_rcs hc hH 2 (pc' := 22) (lv' := [(3, .int 0), (2, .ref 79), (1, .int 0), (0, .ref 50)]) (st' := [.int (lg_cmp w0 0), .int 0, .ref 79]) (μ' := W0) (by rfl) ?_
  refine zq_if hc hH (by rfl) (tg := 29) (by rfl) (fun h1 => ?_) (fun h1 => ?_)
  · have h1 : (decide ((lg_cmp w0 0) = 0)) = true := decide_eq_true (cm_eq9.mp h1)
    refine z_rcs hc hH 1 (pc' := 30) (lv' := [(3, .int 0), (2, .ref 79), (1, .int 0), (0, .ref 50)]) (st' := [.int 0, .int 0, .ref 79]) (μ' := W0) (by rfl) ?_
    refine zq_bast hc hH (by rfl) 4 (by decide +kernel) (show vp_in (nI 0) 4 from vp_in_nI (by decide) (by decide)) (by decide) ?_
    rw [show (0 : Int32).toNatClampNeg = 0 from rfl]
    show Z 1 31 [(3, .int 0), (2, .ref 79), (1, .int 0), (0, .ref 50)] [] (z_ui W0 79 0 0)
    refine z_rcs hc hH 3 (pc' := 34) (lv' := [(3, .int 0), (2, .ref 79), (1, .int 0), (0, .ref 50)]) (st' := [.int 0, .ref 79, .int 0]) (μ' := z_ui W0 79 0 0) (by rfl) ?_
    refine zq_bald hc hH (by rfl) 4 (by decide +kernel) (show vp_in (nI 0) 4 from vp_in_nI (by decide) (by decide)) ?_
    rw [show (0 : Int32).toNatClampNeg = 0 from rfl]
    rw [ui_s]
    refine z_rcs hc hH 13 (pc' := 17) (lv' := [(3, .int 1), (1, .int 0), (2, .ref 79), (0, .ref 50)]) (st' := [.int 1, .ref 50, .int 1, .ref 79]) (μ' := z_ui W0 79 0 0) (by rfl) ?_
    refine zq_call hc (z_cx_ok hH (by rfl)) (hw1 _ (SE_ui (SE_sm (SE_zr _) hO0) (by omega)) (a_H_ui (r := 79) (k := 0) (hA0) ⟨by decide, by decide⟩) d' (by omega)) (by decide +kernel) (fun r9 W1 hq => ?_)
    obtain ⟨rfl, hO1, hA1⟩ := hq
    show Z 1 20 [(3, .int 1), (1, .int 0), (2, .ref 79), (0, .ref 50)] [.long w1, .int 1, .ref 79] W1
    refine z_rcs hc hH 2 (pc' := 22) (lv' := [(3, .int 1), (1, .int 0), (2, .ref 79), (0, .ref 50)]) (st' := [.int (lg_cmp w1 0), .int 1, .ref 79]) (μ' := W1) (by rfl) ?_
    refine zq_if hc hH (by rfl) (tg := 29) (by rfl) (fun h2 => ?_) (fun h2 => ?_)
    · have h2 : (decide ((lg_cmp w1 0) = 0)) = true := decide_eq_true (cm_eq9.mp h2)
      refine z_rcs hc hH 1 (pc' := 30) (lv' := [(3, .int 1), (1, .int 0), (2, .ref 79), (0, .ref 50)]) (st' := [.int 0, .int 1, .ref 79]) (μ' := W1) (by rfl) ?_
      refine zq_bast hc hH (by rfl) 4 (by decide +kernel) (show vp_in (nI 1) 4 from vp_in_nI (by decide) (by decide)) (by decide) ?_
      rw [show (1 : Int32).toNatClampNeg = 1 from rfl]
      show Z 1 31 [(3, .int 1), (1, .int 0), (2, .ref 79), (0, .ref 50)] [] (z_ui W1 79 1 0)
      refine z_rcs hc hH 3 (pc' := 34) (lv' := [(3, .int 1), (1, .int 0), (2, .ref 79), (0, .ref 50)]) (st' := [.int 1, .ref 79, .int 0]) (μ' := z_ui W1 79 1 0) (by rfl) ?_
      refine zq_bald hc hH (by rfl) 4 (by decide +kernel) (show vp_in (nI 1) 4 from vp_in_nI (by decide) (by decide)) ?_
      rw [show (1 : Int32).toNatClampNeg = 1 from rfl]
      rw [ui_s]
      refine z_rcs hc hH 13 (pc' := 17) (lv' := [(3, .int 2), (1, .int 0), (2, .ref 79), (0, .ref 50)]) (st' := [.int 2, .ref 50, .int 2, .ref 79]) (μ' := z_ui W1 79 1 0) (by rfl) ?_
      refine zq_call hc (z_cx_ok hH (by rfl)) (hw2 _ (SE_ui (SE_sm (SE_ui (SE_sm (SE_zr _) hO0) (by omega)) hO1) (by omega)) (a_H_ui (r := 79) (k := 1) (hA1) ⟨by decide, by decide⟩) d' (by omega)) (by decide +kernel) (fun r9 W2 hq => ?_)
      obtain ⟨rfl, hO2, hA2⟩ := hq
      show Z 1 20 [(3, .int 2), (1, .int 0), (2, .ref 79), (0, .ref 50)] [.long w2, .int 2, .ref 79] W2
      refine z_rcs hc hH 2 (pc' := 22) (lv' := [(3, .int 2), (1, .int 0), (2, .ref 79), (0, .ref 50)]) (st' := [.int (lg_cmp w2 0), .int 2, .ref 79]) (μ' := W2) (by rfl) ?_
      refine zq_if hc hH (by rfl) (tg := 29) (by rfl) (fun h3 => ?_) (fun h3 => ?_)
      · have h3 : (decide ((lg_cmp w2 0) = 0)) = true := decide_eq_true (cm_eq9.mp h3)
        exact absurd (Eq.trans (Eq.symm (hb2)) h3) (by decide)
      · have h3 : (decide ((lg_cmp w2 0) = 0)) = false := decide_eq_false (cn_eq.mp h3)
        refine z_rcs hc hH 2 (pc' := 30) (lv' := [(3, .int 2), (1, .int 0), (2, .ref 79), (0, .ref 50)]) (st' := [.int 1, .int 2, .ref 79]) (μ' := W2) (by rfl) ?_
        refine zq_bast hc hH (by rfl) 4 (by decide +kernel) (show vp_in (nI 2) 4 from vp_in_nI (by decide) (by decide)) (by decide) ?_
        rw [show (2 : Int32).toNatClampNeg = 2 from rfl]
        show Z 1 31 [(3, .int 2), (1, .int 0), (2, .ref 79), (0, .ref 50)] [] (z_ui W2 79 2 1)
        refine z_rcs hc hH 3 (pc' := 34) (lv' := [(3, .int 2), (1, .int 0), (2, .ref 79), (0, .ref 50)]) (st' := [.int 2, .ref 79, .int 0]) (μ' := z_ui W2 79 2 1) (by rfl) ?_
        refine zq_bald hc hH (by rfl) 4 (by decide +kernel) (show vp_in (nI 2) 4 from vp_in_nI (by decide) (by decide)) ?_
        rw [show (2 : Int32).toNatClampNeg = 2 from rfl]
        rw [ui_s]
        refine z_rcs hc hH 14 (pc' := 17) (lv' := [(3, .int 3), (1, .int 1), (2, .ref 79), (0, .ref 50)]) (st' := [.int 3, .ref 50, .int 3, .ref 79]) (μ' := z_ui W2 79 2 1) (by rfl) ?_
        refine zq_call hc (z_cx_ok hH (by rfl)) (hw3 _ (SE_ui (SE_sm (SE_ui (SE_sm (SE_ui (SE_sm (SE_zr _) hO0) (by omega)) hO1) (by omega)) hO2) (by omega)) (a_H_ui (r := 79) (k := 2) (hA2) ⟨by decide, by decide⟩) d' (by omega)) (by decide +kernel) (fun r9 W3 hq => ?_)
        obtain ⟨rfl, hO3, hA3⟩ := hq
        show Z 1 20 [(3, .int 3), (1, .int 1), (2, .ref 79), (0, .ref 50)] [.long w3, .int 3, .ref 79] W3
        refine z_rcs hc hH 2 (pc' := 22) (lv' := [(3, .int 3), (1, .int 1), (2, .ref 79), (0, .ref 50)]) (st' := [.int (lg_cmp w3 0), .int 3, .ref 79]) (μ' := W3) (by rfl) ?_
        refine zq_if hc hH (by rfl) (tg := 29) (by rfl) (fun h4 => ?_) (fun h4 => ?_)
        · have h4 : (decide ((lg_cmp w3 0) = 0)) = true := decide_eq_true (cm_eq9.mp h4)
          refine z_rcs hc hH 1 (pc' := 30) (lv' := [(3, .int 3), (1, .int 1), (2, .ref 79), (0, .ref 50)]) (st' := [.int 0, .int 3, .ref 79]) (μ' := W3) (by rfl) ?_
          refine zq_bast hc hH (by rfl) 4 (by decide +kernel) (show vp_in (nI 3) 4 from vp_in_nI (by decide) (by decide)) (by decide) ?_
          rw [show (3 : Int32).toNatClampNeg = 3 from rfl]
          show Z 1 31 [(3, .int 3), (1, .int 1), (2, .ref 79), (0, .ref 50)] [] (z_ui W3 79 3 0)
          refine z_rcs hc hH 3 (pc' := 34) (lv' := [(3, .int 3), (1, .int 1), (2, .ref 79), (0, .ref 50)]) (st' := [.int 3, .ref 79, .int 1]) (μ' := z_ui W3 79 3 0) (by rfl) ?_
          refine zq_bald hc hH (by rfl) 4 (by decide +kernel) (show vp_in (nI 3) 4 from vp_in_nI (by decide) (by decide)) ?_
          rw [show (3 : Int32).toNatClampNeg = 3 from rfl]
          rw [ui_s]
          refine z_rcs hc hH 20 (pc' := 68) (lv' := [(3, .int 0), (1, .int 1), (2, .ref 79), (0, .ref 50)]) (st' := [.ref 50]) (μ' := z_ui W3 79 3 0) (by rfl) ?_
          refine zq_gfr hc hH (by rfl) (ci := 6) (f := 29) (q := 61) (by rfl) (by decide +kernel) (by rfl) (by decide +kernel) ?_
          refine z_rcs hc hH 2 (pc' := 73) (lv' := [(3, .int 0), (1, .int 1), (2, .ref 79), (0, .ref 50)]) (st' := [.int 0, .ref 61, .int 0, .ref 61]) (μ' := z_ui W3 79 3 0) (by rfl) ?_
          refine zq_iald hc hH (by rfl) 4 (oka_i (by decide +kernel)) (show vp_in (nI 0) 4 from vp_in_nI (by decide) (by decide)) ?_
          rw [show (0 : Int32).toNatClampNeg = 0 from rfl]
          refine zV1 (Z := Z) (Eq.trans (ui_o (by first | decide | omega)) (Eq.trans (hO3 61 0 (by omega)).1 (Eq.trans (ui_o (by first | decide | omega)) (Eq.trans (hO2 61 0 (by omega)).1 (Eq.trans (ui_o (by first | decide | omega)) (Eq.trans (hO1 61 0 (by omega)).1 (Eq.trans (ui_o (by first | decide | omega)) (hO0 61 0 (by omega)).1))))))) ?_
          rw [z_zero_o (by decide)]
          refine z_rcs hc hH 2 (pc' := 76) (lv' := [(3, .int 0), (1, .int 1), (2, .ref 79), (0, .ref 50)]) (st' := [.int 0, .ref 79, .int (μ.1 61 0), .int 0, .ref 61]) (μ' := z_ui W3 79 3 0) (by rfl) ?_
          refine zq_bald hc hH (by rfl) 4 (by decide +kernel) (show vp_in (nI 0) 4 from vp_in_nI (by decide) (by decide)) ?_
          rw [show (0 : Int32).toNatClampNeg = 0 from rfl]
          refine zV1 (Z := Z) (Eq.trans (ui_k (by first | decide | omega)) (Eq.trans (hO3 79 0 (by omega)).1 (Eq.trans (ui_k (by first | decide | omega)) (Eq.trans (hO2 79 0 (by omega)).1 (Eq.trans (ui_k (by first | decide | omega)) (Eq.trans (hO1 79 0 (by omega)).1 (ui_s))))))) ?_
          refine z_rcs hc hH 7 (pc' := 96) (lv' := [(3, .int 0), (1, .int 1), (2, .ref 79), (0, .ref 50)]) (st' := [.int ((μ.1 61 0) + (-1000)), .int 0, .ref 61]) (μ' := z_ui W3 79 3 0) (by rfl) ?_
          refine zq_iast hc hH (by rfl) 4 (oka_i (by decide +kernel)).2 (show vp_in (nI 0) 4 from vp_in_nI (by decide) (by decide)) ?_
          rw [show (0 : Int32).toNatClampNeg = 0 from rfl]
          show Z 1 97 [(3, .int 0), (1, .int 1), (2, .ref 79), (0, .ref 50)] [] (z_ui (z_ui W3 79 3 0) 61 0 ((μ.1 61 0) + (-1000)))
          refine z_rcs0 hc hH 6 (pc' := 68) (lv' := [(3, .int 1), (1, .int 1), (2, .ref 79), (0, .ref 50)]) (st' := [.ref 50]) (by rfl) ?_
          refine zq_gfr hc hH (by rfl) (ci := 6) (f := 29) (q := 61) (by rfl) (by decide +kernel) (by rfl) (by decide +kernel) ?_
          refine z_rcs0 hc hH 2 (pc' := 73) (lv' := [(3, .int 1), (1, .int 1), (2, .ref 79), (0, .ref 50)]) (st' := [.int 1, .ref 61, .int 1, .ref 61]) (by rfl) ?_
          refine zq_iald hc hH (by rfl) 4 (oka_i (by decide +kernel)) (show vp_in (nI 1) 4 from vp_in_nI (by decide) (by decide)) ?_
          rw [show (1 : Int32).toNatClampNeg = 1 from rfl]
          refine zV1 (Z := Z) (Eq.trans (ui_k (by first | decide | omega)) (Eq.trans (ui_o (by first | decide | omega)) (Eq.trans (hO3 61 1 (by omega)).1 (Eq.trans (ui_o (by first | decide | omega)) (Eq.trans (hO2 61 1 (by omega)).1 (Eq.trans (ui_o (by first | decide | omega)) (Eq.trans (hO1 61 1 (by omega)).1 (Eq.trans (ui_o (by first | decide | omega)) (hO0 61 1 (by omega)).1)))))))) ?_
          rw [z_zero_o (by decide)]
          refine z_rcs0 hc hH 2 (pc' := 76) (lv' := [(3, .int 1), (1, .int 1), (2, .ref 79), (0, .ref 50)]) (st' := [.int 1, .ref 79, .int (μ.1 61 1), .int 1, .ref 61]) (by rfl) ?_
          refine zq_bald hc hH (by rfl) 4 (by decide +kernel) (show vp_in (nI 1) 4 from vp_in_nI (by decide) (by decide)) ?_
          rw [show (1 : Int32).toNatClampNeg = 1 from rfl]
          refine zV1 (Z := Z) (Eq.trans (ui_o (by first | decide | omega)) (Eq.trans (ui_k (by first | decide | omega)) (Eq.trans (hO3 79 1 (by omega)).1 (Eq.trans (ui_k (by first | decide | omega)) (Eq.trans (hO2 79 1 (by omega)).1 (ui_s)))))) ?_
          refine z_rcs0 hc hH 7 (pc' := 96) (lv' := [(3, .int 1), (1, .int 1), (2, .ref 79), (0, .ref 50)]) (st' := [.int ((μ.1 61 1) + (-1000)), .int 1, .ref 61]) (by rfl) ?_
          refine zq_iast hc hH (by rfl) 4 (oka_i (by decide +kernel)).2 (show vp_in (nI 1) 4 from vp_in_nI (by decide) (by decide)) ?_
          rw [show (1 : Int32).toNatClampNeg = 1 from rfl]
          show Z 1 97 [(3, .int 1), (1, .int 1), (2, .ref 79), (0, .ref 50)] [] (z_ui (z_ui (z_ui W3 79 3 0) 61 0 ((μ.1 61 0) + (-1000))) 61 1 ((μ.1 61 1) + (-1000)))
          refine z_rcs0 hc hH 6 (pc' := 68) (lv' := [(3, .int 2), (1, .int 1), (2, .ref 79), (0, .ref 50)]) (st' := [.ref 50]) (by rfl) ?_
          refine zq_gfr hc hH (by rfl) (ci := 6) (f := 29) (q := 61) (by rfl) (by decide +kernel) (by rfl) (by decide +kernel) ?_
          refine z_rcs0 hc hH 2 (pc' := 73) (lv' := [(3, .int 2), (1, .int 1), (2, .ref 79), (0, .ref 50)]) (st' := [.int 2, .ref 61, .int 2, .ref 61]) (by rfl) ?_
          refine zq_iald hc hH (by rfl) 4 (oka_i (by decide +kernel)) (show vp_in (nI 2) 4 from vp_in_nI (by decide) (by decide)) ?_
          rw [show (2 : Int32).toNatClampNeg = 2 from rfl]
          refine zV1 (Z := Z) (Eq.trans (ui_k (by first | decide | omega)) (Eq.trans (ui_k (by first | decide | omega)) (Eq.trans (ui_o (by first | decide | omega)) (Eq.trans (hO3 61 2 (by omega)).1 (Eq.trans (ui_o (by first | decide | omega)) (Eq.trans (hO2 61 2 (by omega)).1 (Eq.trans (ui_o (by first | decide | omega)) (Eq.trans (hO1 61 2 (by omega)).1 (Eq.trans (ui_o (by first | decide | omega)) (hO0 61 2 (by omega)).1))))))))) ?_
          rw [z_zero_o (by decide)]
          refine z_rcs0 hc hH 2 (pc' := 76) (lv' := [(3, .int 2), (1, .int 1), (2, .ref 79), (0, .ref 50)]) (st' := [.int 2, .ref 79, .int (μ.1 61 2), .int 2, .ref 61]) (by rfl) ?_
          refine zq_bald hc hH (by rfl) 4 (by decide +kernel) (show vp_in (nI 2) 4 from vp_in_nI (by decide) (by decide)) ?_
          rw [show (2 : Int32).toNatClampNeg = 2 from rfl]
          refine zV1 (Z := Z) (Eq.trans (ui_o (by first | decide | omega)) (Eq.trans (ui_o (by first | decide | omega)) (Eq.trans (ui_k (by first | decide | omega)) (Eq.trans (hO3 79 2 (by omega)).1 (ui_s))))) ?_
          refine z_rcs0 hc hH 6 (pc' := 96) (lv' := [(3, .int 2), (1, .int 1), (2, .ref 79), (0, .ref 50)]) (st' := [.int ((μ.1 61 2) + 3000), .int 2, .ref 61]) (by rfl) ?_
          refine zq_iast hc hH (by rfl) 4 (oka_i (by decide +kernel)).2 (show vp_in (nI 2) 4 from vp_in_nI (by decide) (by decide)) ?_
          rw [show (2 : Int32).toNatClampNeg = 2 from rfl]
          show Z 1 97 [(3, .int 2), (1, .int 1), (2, .ref 79), (0, .ref 50)] [] (z_ui (z_ui (z_ui (z_ui W3 79 3 0) 61 0 ((μ.1 61 0) + (-1000))) 61 1 ((μ.1 61 1) + (-1000))) 61 2 ((μ.1 61 2) + 3000))
          refine z_rcs0 hc hH 6 (pc' := 68) (lv' := [(3, .int 3), (1, .int 1), (2, .ref 79), (0, .ref 50)]) (st' := [.ref 50]) (by rfl) ?_
          refine zq_gfr hc hH (by rfl) (ci := 6) (f := 29) (q := 61) (by rfl) (by decide +kernel) (by rfl) (by decide +kernel) ?_
          refine z_rcs0 hc hH 2 (pc' := 73) (lv' := [(3, .int 3), (1, .int 1), (2, .ref 79), (0, .ref 50)]) (st' := [.int 3, .ref 61, .int 3, .ref 61]) (by rfl) ?_
          refine zq_iald hc hH (by rfl) 4 (oka_i (by decide +kernel)) (show vp_in (nI 3) 4 from vp_in_nI (by decide) (by decide)) ?_
          rw [show (3 : Int32).toNatClampNeg = 3 from rfl]
          refine zV1 (Z := Z) (Eq.trans (ui_k (by first | decide | omega)) (Eq.trans (ui_k (by first | decide | omega)) (Eq.trans (ui_k (by first | decide | omega)) (Eq.trans (ui_o (by first | decide | omega)) (Eq.trans (hO3 61 3 (by omega)).1 (Eq.trans (ui_o (by first | decide | omega)) (Eq.trans (hO2 61 3 (by omega)).1 (Eq.trans (ui_o (by first | decide | omega)) (Eq.trans (hO1 61 3 (by omega)).1 (Eq.trans (ui_o (by first | decide | omega)) (hO0 61 3 (by omega)).1)))))))))) ?_
          rw [z_zero_o (by decide)]
          refine z_rcs0 hc hH 2 (pc' := 76) (lv' := [(3, .int 3), (1, .int 1), (2, .ref 79), (0, .ref 50)]) (st' := [.int 3, .ref 79, .int (μ.1 61 3), .int 3, .ref 61]) (by rfl) ?_
          refine zq_bald hc hH (by rfl) 4 (by decide +kernel) (show vp_in (nI 3) 4 from vp_in_nI (by decide) (by decide)) ?_
          rw [show (3 : Int32).toNatClampNeg = 3 from rfl]
          refine zV1 (Z := Z) (Eq.trans (ui_o (by first | decide | omega)) (Eq.trans (ui_o (by first | decide | omega)) (Eq.trans (ui_o (by first | decide | omega)) (ui_s)))) ?_
          refine z_rcs0 hc hH 7 (pc' := 96) (lv' := [(3, .int 3), (1, .int 1), (2, .ref 79), (0, .ref 50)]) (st' := [.int ((μ.1 61 3) + (-1000)), .int 3, .ref 61]) (by rfl) ?_
          refine zq_iast hc hH (by rfl) 4 (oka_i (by decide +kernel)).2 (show vp_in (nI 3) 4 from vp_in_nI (by decide) (by decide)) ?_
          rw [show (3 : Int32).toNatClampNeg = 3 from rfl]
          show Z 1 97 [(3, .int 3), (1, .int 1), (2, .ref 79), (0, .ref 50)] [] (z_ui (z_ui (z_ui (z_ui (z_ui W3 79 3 0) 61 0 ((μ.1 61 0) + (-1000))) 61 1 ((μ.1 61 1) + (-1000))) 61 2 ((μ.1 61 2) + 3000)) 61 3 ((μ.1 61 3) + (-1000)))
          refine z_rcs0 hc hH 5 (pc' := 103) (lv' := [(3, .int 4), (1, .int 1), (2, .ref 79), (0, .ref 50)]) (st' := []) (by rfl) ?_
          obtain rfl | rfl | rfl | rfl : dl = 0 ∨ dl = 1 ∨ dl = 2 ∨ dl = 3 := by omega
          · skip
            refine z_rcs0 hc hH 3 (pc' := 106) (lv' := [(3, .int 4), (1, .int 1), (2, .ref 79), (0, .ref 50)]) (st' := [.ref 50, .ref 79, .ref 50]) (by rfl) ?_
            refine zq_gfi hc hH (by rfl) (ci := 6) (f := 40) (by rfl) (by decide +kernel) (by rfl) ?_
            refine zV1 (Z := Z) (Eq.trans (ui_o (by first | decide | omega)) (Eq.trans (ui_o (by first | decide | omega)) (Eq.trans (ui_o (by first | decide | omega)) (Eq.trans (ui_o (by first | decide | omega)) (Eq.trans (ui_o (by first | decide | omega)) (Eq.trans (hO3 50 40 (by omega)).1 (Eq.trans (ui_o (by first | decide | omega)) (Eq.trans (hO2 50 40 (by omega)).1 (Eq.trans (ui_o (by first | decide | omega)) (Eq.trans (hO1 50 40 (by omega)).1 (Eq.trans (ui_o (by first | decide | omega)) (hO0 50 40 (by omega)).1))))))))))) ?_
            rw [(z_zero_o (by decide)).trans hdl]
            refine zq_bald hc hH (by rfl) 4 (by decide +kernel) (vp_in_nI (by omega) (by decide)) ?_
            rw [nI_clamp (by omega)]
            refine zV1 (Z := Z) (Eq.trans (ui_o (by first | decide | omega)) (Eq.trans (ui_o (by first | decide | omega)) (Eq.trans (ui_o (by first | decide | omega)) (Eq.trans (ui_o (by first | decide | omega)) (Eq.trans (ui_k (by first | decide | omega)) (Eq.trans (hO3 79 0 (by omega)).1 (Eq.trans (ui_k (by first | decide | omega)) (Eq.trans (hO2 79 0 (by omega)).1 (Eq.trans (ui_k (by first | decide | omega)) (Eq.trans (hO1 79 0 (by omega)).1 (ui_s))))))))))) ?_
            refine z_rcs0 hc hH 1 (pc' := 111) (lv' := [(3, .int 4), (1, .int 1), (2, .ref 79), (0, .ref 50)]) (st' := [.int 1, .int 0, .ref 50]) (by rfl) ?_
            refine zq_call hc (z_cx_ok hH (by rfl)) (gm_endsB d' (by omega) (z_ui (z_ui (z_ui (z_ui (z_ui W3 79 3 0) 61 0 ((μ.1 61 0) + (-1000))) 61 1 ((μ.1 61 1) + (-1000))) 61 2 ((μ.1 61 2) + 3000)) 61 3 ((μ.1 61 3) + (-1000))) false true 0 e (by rw [ui_o (by first | decide | omega), ui_o (by first | decide | omega), ui_o (by first | decide | omega), ui_o (by first | decide | omega), ui_o (by first | decide | omega), (hO3 50 40 (by omega)).1, ui_o (by first | decide | omega), (hO2 50 40 (by omega)).1, ui_o (by first | decide | omega), (hO1 50 40 (by omega)).1, ui_o (by first | decide | omega), (hO0 50 40 (by omega)).1]; exact (z_zero_o (by decide)).trans hdl) hdl4 he) (by decide +kernel) (fun r9 μ9 hq => ?_)
            obtain ⟨hr9, hm9⟩ := hq
            rw [hr9, hm9]
            clear hr9 hm9
            show Z 1 114 [(3, .int 4), (1, .int 1), (2, .ref 79), (0, .ref 50)] [] (eMB (z_ui (z_ui (z_ui (z_ui (z_ui W3 79 3 0) 61 0 ((μ.1 61 0) + (-1000))) 61 1 ((μ.1 61 1) + (-1000))) 61 2 ((μ.1 61 2) + 3000)) 61 3 ((μ.1 61 3) + (-1000))) false true 0 e)
            exact hr 1 114 _ _ _ none (by decide +kernel) (by rfl) (by refine ⟨rfl, ?_⟩; unfold nM0010; exact SM_eMB (SM_ui (SM_ui (SM_ui (SM_ui (SM_ui (SM_tr (SM_ui (SM_tr (SM_ui (SM_tr (SM_ui (SM_tr (SM_rf _) hO0)) hO1)) hO2)) hO3)))))))
          · skip
            refine z_rcs hc hH 3 (pc' := 106) (lv' := [(3, .int 4), (1, .int 1), (2, .ref 79), (0, .ref 50)]) (st' := [.ref 50, .ref 79, .ref 50]) (μ' := z_ui (z_ui (z_ui (z_ui (z_ui W3 79 3 0) 61 0 ((μ.1 61 0) + (-1000))) 61 1 ((μ.1 61 1) + (-1000))) 61 2 ((μ.1 61 2) + 3000)) 61 3 ((μ.1 61 3) + (-1000))) (by rfl) ?_
            refine zq_gfi hc hH (by rfl) (ci := 6) (f := 40) (by rfl) (by decide +kernel) (by rfl) ?_
            refine zV1 (Z := Z) (Eq.trans (ui_o (by first | decide | omega)) (Eq.trans (ui_o (by first | decide | omega)) (Eq.trans (ui_o (by first | decide | omega)) (Eq.trans (ui_o (by first | decide | omega)) (Eq.trans (ui_o (by first | decide | omega)) (Eq.trans (hO3 50 40 (by omega)).1 (Eq.trans (ui_o (by first | decide | omega)) (Eq.trans (hO2 50 40 (by omega)).1 (Eq.trans (ui_o (by first | decide | omega)) (Eq.trans (hO1 50 40 (by omega)).1 (Eq.trans (ui_o (by first | decide | omega)) (hO0 50 40 (by omega)).1))))))))))) ?_
            rw [(z_zero_o (by decide)).trans hdl]
            refine zq_bald hc hH (by rfl) 4 (by decide +kernel) (vp_in_nI (by omega) (by decide)) ?_
            rw [nI_clamp (by omega)]
            refine zV1 (Z := Z) (Eq.trans (ui_o (by first | decide | omega)) (Eq.trans (ui_o (by first | decide | omega)) (Eq.trans (ui_o (by first | decide | omega)) (Eq.trans (ui_o (by first | decide | omega)) (Eq.trans (ui_k (by first | decide | omega)) (Eq.trans (hO3 79 1 (by omega)).1 (Eq.trans (ui_k (by first | decide | omega)) (Eq.trans (hO2 79 1 (by omega)).1 (ui_s))))))))) ?_
            refine z_rcs0 hc hH 1 (pc' := 111) (lv' := [(3, .int 4), (1, .int 1), (2, .ref 79), (0, .ref 50)]) (st' := [.int 1, .int 0, .ref 50]) (by rfl) ?_
            refine zq_call hc (z_cx_ok hH (by rfl)) (gm_endsB d' (by omega) (z_ui (z_ui (z_ui (z_ui (z_ui W3 79 3 0) 61 0 ((μ.1 61 0) + (-1000))) 61 1 ((μ.1 61 1) + (-1000))) 61 2 ((μ.1 61 2) + 3000)) 61 3 ((μ.1 61 3) + (-1000))) false true 1 e (by rw [ui_o (by first | decide | omega), ui_o (by first | decide | omega), ui_o (by first | decide | omega), ui_o (by first | decide | omega), ui_o (by first | decide | omega), (hO3 50 40 (by omega)).1, ui_o (by first | decide | omega), (hO2 50 40 (by omega)).1, ui_o (by first | decide | omega), (hO1 50 40 (by omega)).1, ui_o (by first | decide | omega), (hO0 50 40 (by omega)).1]; exact (z_zero_o (by decide)).trans hdl) hdl4 he) (by decide +kernel) (fun r9 μ9 hq => ?_)
            obtain ⟨hr9, hm9⟩ := hq
            rw [hr9, hm9]
            clear hr9 hm9
            show Z 1 114 [(3, .int 4), (1, .int 1), (2, .ref 79), (0, .ref 50)] [] (eMB (z_ui (z_ui (z_ui (z_ui (z_ui W3 79 3 0) 61 0 ((μ.1 61 0) + (-1000))) 61 1 ((μ.1 61 1) + (-1000))) 61 2 ((μ.1 61 2) + 3000)) 61 3 ((μ.1 61 3) + (-1000))) false true 1 e)
            exact hr 1 114 _ _ _ none (by decide +kernel) (by rfl) (by refine ⟨rfl, ?_⟩; unfold nM0010; exact SM_eMB (SM_ui (SM_ui (SM_ui (SM_ui (SM_ui (SM_tr (SM_ui (SM_tr (SM_ui (SM_tr (SM_ui (SM_tr (SM_rf _) hO0)) hO1)) hO2)) hO3)))))))
          · skip
            refine z_rcs hc hH 3 (pc' := 106) (lv' := [(3, .int 4), (1, .int 1), (2, .ref 79), (0, .ref 50)]) (st' := [.ref 50, .ref 79, .ref 50]) (μ' := z_ui (z_ui (z_ui (z_ui (z_ui W3 79 3 0) 61 0 ((μ.1 61 0) + (-1000))) 61 1 ((μ.1 61 1) + (-1000))) 61 2 ((μ.1 61 2) + 3000)) 61 3 ((μ.1 61 3) + (-1000))) (by rfl) ?_
            refine zq_gfi hc hH (by rfl) (ci := 6) (f := 40) (by rfl) (by decide +kernel) (by rfl) ?_
            refine zV1 (Z := Z) (Eq.trans (ui_o (by first | decide | omega)) (Eq.trans (ui_o (by first | decide | omega)) (Eq.trans (ui_o (by first | decide | omega)) (Eq.trans (ui_o (by first | decide | omega)) (Eq.trans (ui_o (by first | decide | omega)) (Eq.trans (hO3 50 40 (by omega)).1 (Eq.trans (ui_o (by first | decide | omega)) (Eq.trans (hO2 50 40 (by omega)).1 (Eq.trans (ui_o (by first | decide | omega)) (Eq.trans (hO1 50 40 (by omega)).1 (Eq.trans (ui_o (by first | decide | omega)) (hO0 50 40 (by omega)).1))))))))))) ?_
            rw [(z_zero_o (by decide)).trans hdl]
            refine zq_bald hc hH (by rfl) 4 (by decide +kernel) (vp_in_nI (by omega) (by decide)) ?_
            rw [nI_clamp (by omega)]
            refine zV1 (Z := Z) (Eq.trans (ui_o (by first | decide | omega)) (Eq.trans (ui_o (by first | decide | omega)) (Eq.trans (ui_o (by first | decide | omega)) (Eq.trans (ui_o (by first | decide | omega)) (Eq.trans (ui_k (by first | decide | omega)) (Eq.trans (hO3 79 2 (by omega)).1 (ui_s))))))) ?_
            refine z_rcs0 hc hH 1 (pc' := 111) (lv' := [(3, .int 4), (1, .int 1), (2, .ref 79), (0, .ref 50)]) (st' := [.int 1, .int 1, .ref 50]) (by rfl) ?_
            refine zq_call hc (z_cx_ok hH (by rfl)) (gm_endsB d' (by omega) (z_ui (z_ui (z_ui (z_ui (z_ui W3 79 3 0) 61 0 ((μ.1 61 0) + (-1000))) 61 1 ((μ.1 61 1) + (-1000))) 61 2 ((μ.1 61 2) + 3000)) 61 3 ((μ.1 61 3) + (-1000))) true true 2 e (by rw [ui_o (by first | decide | omega), ui_o (by first | decide | omega), ui_o (by first | decide | omega), ui_o (by first | decide | omega), ui_o (by first | decide | omega), (hO3 50 40 (by omega)).1, ui_o (by first | decide | omega), (hO2 50 40 (by omega)).1, ui_o (by first | decide | omega), (hO1 50 40 (by omega)).1, ui_o (by first | decide | omega), (hO0 50 40 (by omega)).1]; exact (z_zero_o (by decide)).trans hdl) hdl4 he) (by decide +kernel) (fun r9 μ9 hq => ?_)
            obtain ⟨hr9, hm9⟩ := hq
            rw [hr9, hm9]
            clear hr9 hm9
            show Z 1 114 [(3, .int 4), (1, .int 1), (2, .ref 79), (0, .ref 50)] [] (eMB (z_ui (z_ui (z_ui (z_ui (z_ui W3 79 3 0) 61 0 ((μ.1 61 0) + (-1000))) 61 1 ((μ.1 61 1) + (-1000))) 61 2 ((μ.1 61 2) + 3000)) 61 3 ((μ.1 61 3) + (-1000))) true true 2 e)
            exact hr 1 114 _ _ _ none (by decide +kernel) (by rfl) (by refine ⟨rfl, ?_⟩; unfold nM0010; exact SM_eMB (SM_ui (SM_ui (SM_ui (SM_ui (SM_ui (SM_tr (SM_ui (SM_tr (SM_ui (SM_tr (SM_ui (SM_tr (SM_rf _) hO0)) hO1)) hO2)) hO3)))))))
          · skip
            refine z_rcs hc hH 3 (pc' := 106) (lv' := [(3, .int 4), (1, .int 1), (2, .ref 79), (0, .ref 50)]) (st' := [.ref 50, .ref 79, .ref 50]) (μ' := z_ui (z_ui (z_ui (z_ui (z_ui W3 79 3 0) 61 0 ((μ.1 61 0) + (-1000))) 61 1 ((μ.1 61 1) + (-1000))) 61 2 ((μ.1 61 2) + 3000)) 61 3 ((μ.1 61 3) + (-1000))) (by rfl) ?_
            refine zq_gfi hc hH (by rfl) (ci := 6) (f := 40) (by rfl) (by decide +kernel) (by rfl) ?_
            refine zV1 (Z := Z) (Eq.trans (ui_o (by first | decide | omega)) (Eq.trans (ui_o (by first | decide | omega)) (Eq.trans (ui_o (by first | decide | omega)) (Eq.trans (ui_o (by first | decide | omega)) (Eq.trans (ui_o (by first | decide | omega)) (Eq.trans (hO3 50 40 (by omega)).1 (Eq.trans (ui_o (by first | decide | omega)) (Eq.trans (hO2 50 40 (by omega)).1 (Eq.trans (ui_o (by first | decide | omega)) (Eq.trans (hO1 50 40 (by omega)).1 (Eq.trans (ui_o (by first | decide | omega)) (hO0 50 40 (by omega)).1))))))))))) ?_
            rw [(z_zero_o (by decide)).trans hdl]
            refine zq_bald hc hH (by rfl) 4 (by decide +kernel) (vp_in_nI (by omega) (by decide)) ?_
            rw [nI_clamp (by omega)]
            refine zV1 (Z := Z) (Eq.trans (ui_o (by first | decide | omega)) (Eq.trans (ui_o (by first | decide | omega)) (Eq.trans (ui_o (by first | decide | omega)) (Eq.trans (ui_o (by first | decide | omega)) (ui_s))))) ?_
            refine z_rcs0 hc hH 1 (pc' := 111) (lv' := [(3, .int 4), (1, .int 1), (2, .ref 79), (0, .ref 50)]) (st' := [.int 1, .int 0, .ref 50]) (by rfl) ?_
            refine zq_call hc (z_cx_ok hH (by rfl)) (gm_endsB d' (by omega) (z_ui (z_ui (z_ui (z_ui (z_ui W3 79 3 0) 61 0 ((μ.1 61 0) + (-1000))) 61 1 ((μ.1 61 1) + (-1000))) 61 2 ((μ.1 61 2) + 3000)) 61 3 ((μ.1 61 3) + (-1000))) false true 3 e (by rw [ui_o (by first | decide | omega), ui_o (by first | decide | omega), ui_o (by first | decide | omega), ui_o (by first | decide | omega), ui_o (by first | decide | omega), (hO3 50 40 (by omega)).1, ui_o (by first | decide | omega), (hO2 50 40 (by omega)).1, ui_o (by first | decide | omega), (hO1 50 40 (by omega)).1, ui_o (by first | decide | omega), (hO0 50 40 (by omega)).1]; exact (z_zero_o (by decide)).trans hdl) hdl4 he) (by decide +kernel) (fun r9 μ9 hq => ?_)
            obtain ⟨hr9, hm9⟩ := hq
            rw [hr9, hm9]
            clear hr9 hm9
            show Z 1 114 [(3, .int 4), (1, .int 1), (2, .ref 79), (0, .ref 50)] [] (eMB (z_ui (z_ui (z_ui (z_ui (z_ui W3 79 3 0) 61 0 ((μ.1 61 0) + (-1000))) 61 1 ((μ.1 61 1) + (-1000))) 61 2 ((μ.1 61 2) + 3000)) 61 3 ((μ.1 61 3) + (-1000))) false true 3 e)
            exact hr 1 114 _ _ _ none (by decide +kernel) (by rfl) (by refine ⟨rfl, ?_⟩; unfold nM0010; exact SM_eMB (SM_ui (SM_ui (SM_ui (SM_ui (SM_ui (SM_tr (SM_ui (SM_tr (SM_ui (SM_tr (SM_ui (SM_tr (SM_rf _) hO0)) hO1)) hO2)) hO3)))))))
        · have h4 : (decide ((lg_cmp w3 0) = 0)) = false := decide_eq_false (cn_eq.mp h4)
          exact absurd (Eq.trans (Eq.symm (hb3)) h4) (by decide)
    · have h2 : (decide ((lg_cmp w1 0) = 0)) = false := decide_eq_false (cn_eq.mp h2)
      exact absurd (Eq.trans (Eq.symm (hb1)) h2) (by decide)
  · have h1 : (decide ((lg_cmp w0 0) = 0)) = false := decide_eq_false (cn_eq.mp h1)
    exact absurd (Eq.trans (Eq.symm (hb0)) h1) (by decide)
noncomputable def nM0011 (μ : zM) : zM := z_ui (z_ui (z_ui (z_ui (z_ui (z_ui (z_ui (z_ui (z_zero μ) 79 0 0) 79 1 0) 79 2 1) 79 3 1) 61 0 ((μ.1 61 0) + (-1500))) 61 1 ((μ.1 61 1) + (-1500))) 61 2 ((μ.1 61 2) + 1500)) 61 3 ((μ.1 61 3) + 1500)
theorem gm_nobody0011 (d : Nat) (hd : 700 ≤ d) (μ : zM) (hH0 : a_H μ) (dl e : Nat) (hdl : μ.1 50 40 = nI dl) (hdl4 : dl < 4) (he : (dl + 1) % 4 = e) (w0 : Int64) (hw0 : ∀ M, SE μ M → a_H M → ∀ d, 699 ≤ d → z_C d mi_X7_waitsAt [.ref 50, .int 0] M (fun r W => r = some (.long w0) ∧ SMj M W ∧ a_H W)) (hb0 : decide (lg_cmp w0 0 = 0) = true) (w1 : Int64) (hw1 : ∀ M, SE μ M → a_H M → ∀ d, 699 ≤ d → z_C d mi_X7_waitsAt [.ref 50, .int 1] M (fun r W => r = some (.long w1) ∧ SMj M W ∧ a_H W)) (hb1 : decide (lg_cmp w1 0 = 0) = true) (w2 : Int64) (hw2 : ∀ M, SE μ M → a_H M → ∀ d, 699 ≤ d → z_C d mi_X7_waitsAt [.ref 50, .int 2] M (fun r W => r = some (.long w2) ∧ SMj M W ∧ a_H W)) (hb2 : decide (lg_cmp w2 0 = 0) = false) (w3 : Int64) (hw3 : ∀ M, SE μ M → a_H M → ∀ d, 699 ≤ d → z_C d mi_X7_waitsAt [.ref 50, .int 3] M (fun r W => r = some (.long w3) ∧ SMj M W ∧ a_H W)) (hb3 : decide (lg_cmp w3 0 = 0) = false) : z_C d mi_X7_nobodyWins [.ref 50] μ (fun r μ' => r = none ∧ SMj (eMB (nM0011 μ) (nbS false false true true dl) true dl e) μ') := by
  obtain ⟨d', rfl⟩ : ∃ d', d = d' + 1 := ⟨d - 1, by omega⟩
  intro Z hc hr
  refine ⟨rfl, ?_⟩
  have hH := zh_X7_nobodyWins
  refine z_rcs hc hH 9 (pc' := 17) (lv' := [(3, .int 0), (2, .ref 79), (1, .int 0), (0, .ref 50)]) (st' := [.int 0, .ref 50, .int 0, .ref 79]) (μ' := z_zero μ) (by rfl) ?_
  refine zq_call hc (z_cx_ok hH (by rfl)) (hw0 _ (SE_zr _) (a_H_zero hH0) d' (by omega)) (by decide +kernel) (fun r9 W0 hq => ?_)
  obtain ⟨rfl, hO0, hA0⟩ := hq
  show Z 1 20 [(3, .int 0), (2, .ref 79), (1, .int 0), (0, .ref 50)] [.long w0, .int 0, .ref 79] W0
  refine z_rcs hc hH 2 (pc' := 22) (lv' := [(3, .int 0), (2, .ref 79), (1, .int 0), (0, .ref 50)]) (st' := [.int (lg_cmp w0 0), .int 0, .ref 79]) (μ' := W0) (by rfl) ?_
  refine zq_if hc hH (by rfl) (tg := 29) (by rfl) (fun h1 => ?_) (fun h1 => ?_)
  · have h1 : (decide ((lg_cmp w0 0) = 0)) = true := decide_eq_true (cm_eq9.mp h1)
    refine z_rcs hc hH 1 (pc' := 30) (lv' := [(3, .int 0), (2, .ref 79), (1, .int 0), (0, .ref 50)]) (st' := [.int 0, .int 0, .ref 79]) (μ' := W0) (by rfl) ?_
    refine zq_bast hc hH (by rfl) 4 (by decide +kernel) (show vp_in (nI 0) 4 from vp_in_nI (by decide) (by decide)) (by decide) ?_
    rw [show (0 : Int32).toNatClampNeg = 0 from rfl]
    show Z 1 31 [(3, .int 0), (2, .ref 79), (1, .int 0), (0, .ref 50)] [] (z_ui W0 79 0 0)
    refine z_rcs hc hH 3 (pc' := 34) (lv' := [(3, .int 0), (2, .ref 79), (1, .int 0), (0, .ref 50)]) (st' := [.int 0, .ref 79, .int 0]) (μ' := z_ui W0 79 0 0) (by rfl) ?_
    refine zq_bald hc hH (by rfl) 4 (by decide +kernel) (show vp_in (nI 0) 4 from vp_in_nI (by decide) (by decide)) ?_
    rw [show (0 : Int32).toNatClampNeg = 0 from rfl]
    rw [ui_s]
    refine z_rcs hc hH 13 (pc' := 17) (lv' := [(3, .int 1), (1, .int 0), (2, .ref 79), (0, .ref 50)]) (st' := [.int 1, .ref 50, .int 1, .ref 79]) (μ' := z_ui W0 79 0 0) (by rfl) ?_
    refine zq_call hc (z_cx_ok hH (by rfl)) (hw1 _ (SE_ui (SE_sm (SE_zr _) hO0) (by omega)) (a_H_ui (r := 79) (k := 0) (hA0) ⟨by decide, by decide⟩) d' (by omega)) (by decide +kernel) (fun r9 W1 hq => ?_)
    obtain ⟨rfl, hO1, hA1⟩ := hq
    show Z 1 20 [(3, .int 1), (1, .int 0), (2, .ref 79), (0, .ref 50)] [.long w1, .int 1, .ref 79] W1
    refine z_rcs hc hH 2 (pc' := 22) (lv' := [(3, .int 1), (1, .int 0), (2, .ref 79), (0, .ref 50)]) (st' := [.int (lg_cmp w1 0), .int 1, .ref 79]) (μ' := W1) (by rfl) ?_
    refine zq_if hc hH (by rfl) (tg := 29) (by rfl) (fun h2 => ?_) (fun h2 => ?_)
    · have h2 : (decide ((lg_cmp w1 0) = 0)) = true := decide_eq_true (cm_eq9.mp h2)
      refine z_rcs hc hH 1 (pc' := 30) (lv' := [(3, .int 1), (1, .int 0), (2, .ref 79), (0, .ref 50)]) (st' := [.int 0, .int 1, .ref 79]) (μ' := W1) (by rfl) ?_
      refine zq_bast hc hH (by rfl) 4 (by decide +kernel) (show vp_in (nI 1) 4 from vp_in_nI (by decide) (by decide)) (by decide) ?_
      rw [show (1 : Int32).toNatClampNeg = 1 from rfl]
      show Z 1 31 [(3, .int 1), (1, .int 0), (2, .ref 79), (0, .ref 50)] [] (z_ui W1 79 1 0)
      refine z_rcs hc hH 3 (pc' := 34) (lv' := [(3, .int 1), (1, .int 0), (2, .ref 79), (0, .ref 50)]) (st' := [.int 1, .ref 79, .int 0]) (μ' := z_ui W1 79 1 0) (by rfl) ?_
      refine zq_bald hc hH (by rfl) 4 (by decide +kernel) (show vp_in (nI 1) 4 from vp_in_nI (by decide) (by decide)) ?_
      rw [show (1 : Int32).toNatClampNeg = 1 from rfl]
      rw [ui_s]
      refine z_rcs hc hH 13 (pc' := 17) (lv' := [(3, .int 2), (1, .int 0), (2, .ref 79), (0, .ref 50)]) (st' := [.int 2, .ref 50, .int 2, .ref 79]) (μ' := z_ui W1 79 1 0) (by rfl) ?_
      refine zq_call hc (z_cx_ok hH (by rfl)) (hw2 _ (SE_ui (SE_sm (SE_ui (SE_sm (SE_zr _) hO0) (by omega)) hO1) (by omega)) (a_H_ui (r := 79) (k := 1) (hA1) ⟨by decide, by decide⟩) d' (by omega)) (by decide +kernel) (fun r9 W2 hq => ?_)
      obtain ⟨rfl, hO2, hA2⟩ := hq
      show Z 1 20 [(3, .int 2), (1, .int 0), (2, .ref 79), (0, .ref 50)] [.long w2, .int 2, .ref 79] W2
      refine z_rcs hc hH 2 (pc' := 22) (lv' := [(3, .int 2), (1, .int 0), (2, .ref 79), (0, .ref 50)]) (st' := [.int (lg_cmp w2 0), .int 2, .ref 79]) (μ' := W2) (by rfl) ?_
      refine zq_if hc hH (by rfl) (tg := 29) (by rfl) (fun h3 => ?_) (fun h3 => ?_)
      · have h3 : (decide ((lg_cmp w2 0) = 0)) = true := decide_eq_true (cm_eq9.mp h3)
        exact absurd (Eq.trans (Eq.symm (hb2)) h3) (by decide)
      · have h3 : (decide ((lg_cmp w2 0) = 0)) = false := decide_eq_false (cn_eq.mp h3)
        refine z_rcs hc hH 2 (pc' := 30) (lv' := [(3, .int 2), (1, .int 0), (2, .ref 79), (0, .ref 50)]) (st' := [.int 1, .int 2, .ref 79]) (μ' := W2) (by rfl) ?_
        refine zq_bast hc hH (by rfl) 4 (by decide +kernel) (show vp_in (nI 2) 4 from vp_in_nI (by decide) (by decide)) (by decide) ?_
        rw [show (2 : Int32).toNatClampNeg = 2 from rfl]
        show Z 1 31 [(3, .int 2), (1, .int 0), (2, .ref 79), (0, .ref 50)] [] (z_ui W2 79 2 1)
        refine z_rcs hc hH 3 (pc' := 34) (lv' := [(3, .int 2), (1, .int 0), (2, .ref 79), (0, .ref 50)]) (st' := [.int 2, .ref 79, .int 0]) (μ' := z_ui W2 79 2 1) (by rfl) ?_
        refine zq_bald hc hH (by rfl) 4 (by decide +kernel) (show vp_in (nI 2) 4 from vp_in_nI (by decide) (by decide)) ?_
        rw [show (2 : Int32).toNatClampNeg = 2 from rfl]
        rw [ui_s]
        refine z_rcs hc hH 14 (pc' := 17) (lv' := [(3, .int 3), (1, .int 1), (2, .ref 79), (0, .ref 50)]) (st' := [.int 3, .ref 50, .int 3, .ref 79]) (μ' := z_ui W2 79 2 1) (by rfl) ?_
        refine zq_call hc (z_cx_ok hH (by rfl)) (hw3 _ (SE_ui (SE_sm (SE_ui (SE_sm (SE_ui (SE_sm (SE_zr _) hO0) (by omega)) hO1) (by omega)) hO2) (by omega)) (a_H_ui (r := 79) (k := 2) (hA2) ⟨by decide, by decide⟩) d' (by omega)) (by decide +kernel) (fun r9 W3 hq => ?_)
        obtain ⟨rfl, hO3, hA3⟩ := hq
        show Z 1 20 [(3, .int 3), (1, .int 1), (2, .ref 79), (0, .ref 50)] [.long w3, .int 3, .ref 79] W3
        refine z_rcs hc hH 2 (pc' := 22) (lv' := [(3, .int 3), (1, .int 1), (2, .ref 79), (0, .ref 50)]) (st' := [.int (lg_cmp w3 0), .int 3, .ref 79]) (μ' := W3) (by rfl) ?_
        refine zq_if hc hH (by rfl) (tg := 29) (by rfl) (fun h4 => ?_) (fun h4 => ?_)
        · have h4 : (decide ((lg_cmp w3 0) = 0)) = true := decide_eq_true (cm_eq9.mp h4)
          exact absurd (Eq.trans (Eq.symm (hb3)) h4) (by decide)
        · have h4 : (decide ((lg_cmp w3 0) = 0)) = false := decide_eq_false (cn_eq.mp h4)
          refine z_rcs hc hH 2 (pc' := 30) (lv' := [(3, .int 3), (1, .int 1), (2, .ref 79), (0, .ref 50)]) (st' := [.int 1, .int 3, .ref 79]) (μ' := W3) (by rfl) ?_
          refine zq_bast hc hH (by rfl) 4 (by decide +kernel) (show vp_in (nI 3) 4 from vp_in_nI (by decide) (by decide)) (by decide) ?_
          rw [show (3 : Int32).toNatClampNeg = 3 from rfl]
          show Z 1 31 [(3, .int 3), (1, .int 1), (2, .ref 79), (0, .ref 50)] [] (z_ui W3 79 3 1)
          refine z_rcs hc hH 3 (pc' := 34) (lv' := [(3, .int 3), (1, .int 1), (2, .ref 79), (0, .ref 50)]) (st' := [.int 3, .ref 79, .int 1]) (μ' := z_ui W3 79 3 1) (by rfl) ?_
          refine zq_bald hc hH (by rfl) 4 (by decide +kernel) (show vp_in (nI 3) 4 from vp_in_nI (by decide) (by decide)) ?_
          rw [show (3 : Int32).toNatClampNeg = 3 from rfl]
          rw [ui_s]
          refine z_rcs hc hH 21 (pc' := 68) (lv' := [(3, .int 0), (1, .int 2), (2, .ref 79), (0, .ref 50)]) (st' := [.ref 50]) (μ' := z_ui W3 79 3 1) (by rfl) ?_
          refine zq_gfr hc hH (by rfl) (ci := 6) (f := 29) (q := 61) (by rfl) (by decide +kernel) (by rfl) (by decide +kernel) ?_
          refine z_rcs hc hH 2 (pc' := 73) (lv' := [(3, .int 0), (1, .int 2), (2, .ref 79), (0, .ref 50)]) (st' := [.int 0, .ref 61, .int 0, .ref 61]) (μ' := z_ui W3 79 3 1) (by rfl) ?_
          refine zq_iald hc hH (by rfl) 4 (oka_i (by decide +kernel)) (show vp_in (nI 0) 4 from vp_in_nI (by decide) (by decide)) ?_
          rw [show (0 : Int32).toNatClampNeg = 0 from rfl]
          refine zV1 (Z := Z) (Eq.trans (ui_o (by first | decide | omega)) (Eq.trans (hO3 61 0 (by omega)).1 (Eq.trans (ui_o (by first | decide | omega)) (Eq.trans (hO2 61 0 (by omega)).1 (Eq.trans (ui_o (by first | decide | omega)) (Eq.trans (hO1 61 0 (by omega)).1 (Eq.trans (ui_o (by first | decide | omega)) (hO0 61 0 (by omega)).1))))))) ?_
          rw [z_zero_o (by decide)]
          refine z_rcs hc hH 2 (pc' := 76) (lv' := [(3, .int 0), (1, .int 2), (2, .ref 79), (0, .ref 50)]) (st' := [.int 0, .ref 79, .int (μ.1 61 0), .int 0, .ref 61]) (μ' := z_ui W3 79 3 1) (by rfl) ?_
          refine zq_bald hc hH (by rfl) 4 (by decide +kernel) (show vp_in (nI 0) 4 from vp_in_nI (by decide) (by decide)) ?_
          rw [show (0 : Int32).toNatClampNeg = 0 from rfl]
          refine zV1 (Z := Z) (Eq.trans (ui_k (by first | decide | omega)) (Eq.trans (hO3 79 0 (by omega)).1 (Eq.trans (ui_k (by first | decide | omega)) (Eq.trans (hO2 79 0 (by omega)).1 (Eq.trans (ui_k (by first | decide | omega)) (Eq.trans (hO1 79 0 (by omega)).1 (ui_s))))))) ?_
          refine z_rcs hc hH 7 (pc' := 96) (lv' := [(3, .int 0), (1, .int 2), (2, .ref 79), (0, .ref 50)]) (st' := [.int ((μ.1 61 0) + (-1500)), .int 0, .ref 61]) (μ' := z_ui W3 79 3 1) (by rfl) ?_
          refine zq_iast hc hH (by rfl) 4 (oka_i (by decide +kernel)).2 (show vp_in (nI 0) 4 from vp_in_nI (by decide) (by decide)) ?_
          rw [show (0 : Int32).toNatClampNeg = 0 from rfl]
          show Z 1 97 [(3, .int 0), (1, .int 2), (2, .ref 79), (0, .ref 50)] [] (z_ui (z_ui W3 79 3 1) 61 0 ((μ.1 61 0) + (-1500)))
          refine z_rcs0 hc hH 6 (pc' := 68) (lv' := [(3, .int 1), (1, .int 2), (2, .ref 79), (0, .ref 50)]) (st' := [.ref 50]) (by rfl) ?_
          refine zq_gfr hc hH (by rfl) (ci := 6) (f := 29) (q := 61) (by rfl) (by decide +kernel) (by rfl) (by decide +kernel) ?_
          refine z_rcs0 hc hH 2 (pc' := 73) (lv' := [(3, .int 1), (1, .int 2), (2, .ref 79), (0, .ref 50)]) (st' := [.int 1, .ref 61, .int 1, .ref 61]) (by rfl) ?_
          refine zq_iald hc hH (by rfl) 4 (oka_i (by decide +kernel)) (show vp_in (nI 1) 4 from vp_in_nI (by decide) (by decide)) ?_
          rw [show (1 : Int32).toNatClampNeg = 1 from rfl]
          refine zV1 (Z := Z) (Eq.trans (ui_k (by first | decide | omega)) (Eq.trans (ui_o (by first | decide | omega)) (Eq.trans (hO3 61 1 (by omega)).1 (Eq.trans (ui_o (by first | decide | omega)) (Eq.trans (hO2 61 1 (by omega)).1 (Eq.trans (ui_o (by first | decide | omega)) (Eq.trans (hO1 61 1 (by omega)).1 (Eq.trans (ui_o (by first | decide | omega)) (hO0 61 1 (by omega)).1)))))))) ?_
          rw [z_zero_o (by decide)]
          refine z_rcs0 hc hH 2 (pc' := 76) (lv' := [(3, .int 1), (1, .int 2), (2, .ref 79), (0, .ref 50)]) (st' := [.int 1, .ref 79, .int (μ.1 61 1), .int 1, .ref 61]) (by rfl) ?_
          refine zq_bald hc hH (by rfl) 4 (by decide +kernel) (show vp_in (nI 1) 4 from vp_in_nI (by decide) (by decide)) ?_
          rw [show (1 : Int32).toNatClampNeg = 1 from rfl]
          refine zV1 (Z := Z) (Eq.trans (ui_o (by first | decide | omega)) (Eq.trans (ui_k (by first | decide | omega)) (Eq.trans (hO3 79 1 (by omega)).1 (Eq.trans (ui_k (by first | decide | omega)) (Eq.trans (hO2 79 1 (by omega)).1 (ui_s)))))) ?_
          refine z_rcs0 hc hH 7 (pc' := 96) (lv' := [(3, .int 1), (1, .int 2), (2, .ref 79), (0, .ref 50)]) (st' := [.int ((μ.1 61 1) + (-1500)), .int 1, .ref 61]) (by rfl) ?_
          refine zq_iast hc hH (by rfl) 4 (oka_i (by decide +kernel)).2 (show vp_in (nI 1) 4 from vp_in_nI (by decide) (by decide)) ?_
          rw [show (1 : Int32).toNatClampNeg = 1 from rfl]
          show Z 1 97 [(3, .int 1), (1, .int 2), (2, .ref 79), (0, .ref 50)] [] (z_ui (z_ui (z_ui W3 79 3 1) 61 0 ((μ.1 61 0) + (-1500))) 61 1 ((μ.1 61 1) + (-1500)))
          refine z_rcs0 hc hH 6 (pc' := 68) (lv' := [(3, .int 2), (1, .int 2), (2, .ref 79), (0, .ref 50)]) (st' := [.ref 50]) (by rfl) ?_
          refine zq_gfr hc hH (by rfl) (ci := 6) (f := 29) (q := 61) (by rfl) (by decide +kernel) (by rfl) (by decide +kernel) ?_
          refine z_rcs0 hc hH 2 (pc' := 73) (lv' := [(3, .int 2), (1, .int 2), (2, .ref 79), (0, .ref 50)]) (st' := [.int 2, .ref 61, .int 2, .ref 61]) (by rfl) ?_
          refine zq_iald hc hH (by rfl) 4 (oka_i (by decide +kernel)) (show vp_in (nI 2) 4 from vp_in_nI (by decide) (by decide)) ?_
          rw [show (2 : Int32).toNatClampNeg = 2 from rfl]
          refine zV1 (Z := Z) (Eq.trans (ui_k (by first | decide | omega)) (Eq.trans (ui_k (by first | decide | omega)) (Eq.trans (ui_o (by first | decide | omega)) (Eq.trans (hO3 61 2 (by omega)).1 (Eq.trans (ui_o (by first | decide | omega)) (Eq.trans (hO2 61 2 (by omega)).1 (Eq.trans (ui_o (by first | decide | omega)) (Eq.trans (hO1 61 2 (by omega)).1 (Eq.trans (ui_o (by first | decide | omega)) (hO0 61 2 (by omega)).1))))))))) ?_
          rw [z_zero_o (by decide)]
          refine z_rcs0 hc hH 2 (pc' := 76) (lv' := [(3, .int 2), (1, .int 2), (2, .ref 79), (0, .ref 50)]) (st' := [.int 2, .ref 79, .int (μ.1 61 2), .int 2, .ref 61]) (by rfl) ?_
          refine zq_bald hc hH (by rfl) 4 (by decide +kernel) (show vp_in (nI 2) 4 from vp_in_nI (by decide) (by decide)) ?_
          rw [show (2 : Int32).toNatClampNeg = 2 from rfl]
          refine zV1 (Z := Z) (Eq.trans (ui_o (by first | decide | omega)) (Eq.trans (ui_o (by first | decide | omega)) (Eq.trans (ui_k (by first | decide | omega)) (Eq.trans (hO3 79 2 (by omega)).1 (ui_s))))) ?_
          refine z_rcs0 hc hH 6 (pc' := 96) (lv' := [(3, .int 2), (1, .int 2), (2, .ref 79), (0, .ref 50)]) (st' := [.int ((μ.1 61 2) + 1500), .int 2, .ref 61]) (by rfl) ?_
          refine zq_iast hc hH (by rfl) 4 (oka_i (by decide +kernel)).2 (show vp_in (nI 2) 4 from vp_in_nI (by decide) (by decide)) ?_
          rw [show (2 : Int32).toNatClampNeg = 2 from rfl]
          show Z 1 97 [(3, .int 2), (1, .int 2), (2, .ref 79), (0, .ref 50)] [] (z_ui (z_ui (z_ui (z_ui W3 79 3 1) 61 0 ((μ.1 61 0) + (-1500))) 61 1 ((μ.1 61 1) + (-1500))) 61 2 ((μ.1 61 2) + 1500))
          refine z_rcs0 hc hH 6 (pc' := 68) (lv' := [(3, .int 3), (1, .int 2), (2, .ref 79), (0, .ref 50)]) (st' := [.ref 50]) (by rfl) ?_
          refine zq_gfr hc hH (by rfl) (ci := 6) (f := 29) (q := 61) (by rfl) (by decide +kernel) (by rfl) (by decide +kernel) ?_
          refine z_rcs0 hc hH 2 (pc' := 73) (lv' := [(3, .int 3), (1, .int 2), (2, .ref 79), (0, .ref 50)]) (st' := [.int 3, .ref 61, .int 3, .ref 61]) (by rfl) ?_
          refine zq_iald hc hH (by rfl) 4 (oka_i (by decide +kernel)) (show vp_in (nI 3) 4 from vp_in_nI (by decide) (by decide)) ?_
          rw [show (3 : Int32).toNatClampNeg = 3 from rfl]
          refine zV1 (Z := Z) (Eq.trans (ui_k (by first | decide | omega)) (Eq.trans (ui_k (by first | decide | omega)) (Eq.trans (ui_k (by first | decide | omega)) (Eq.trans (ui_o (by first | decide | omega)) (Eq.trans (hO3 61 3 (by omega)).1 (Eq.trans (ui_o (by first | decide | omega)) (Eq.trans (hO2 61 3 (by omega)).1 (Eq.trans (ui_o (by first | decide | omega)) (Eq.trans (hO1 61 3 (by omega)).1 (Eq.trans (ui_o (by first | decide | omega)) (hO0 61 3 (by omega)).1)))))))))) ?_
          rw [z_zero_o (by decide)]
          refine z_rcs0 hc hH 2 (pc' := 76) (lv' := [(3, .int 3), (1, .int 2), (2, .ref 79), (0, .ref 50)]) (st' := [.int 3, .ref 79, .int (μ.1 61 3), .int 3, .ref 61]) (by rfl) ?_
          refine zq_bald hc hH (by rfl) 4 (by decide +kernel) (show vp_in (nI 3) 4 from vp_in_nI (by decide) (by decide)) ?_
          rw [show (3 : Int32).toNatClampNeg = 3 from rfl]
          refine zV1 (Z := Z) (Eq.trans (ui_o (by first | decide | omega)) (Eq.trans (ui_o (by first | decide | omega)) (Eq.trans (ui_o (by first | decide | omega)) (ui_s)))) ?_
          refine z_rcs0 hc hH 6 (pc' := 96) (lv' := [(3, .int 3), (1, .int 2), (2, .ref 79), (0, .ref 50)]) (st' := [.int ((μ.1 61 3) + 1500), .int 3, .ref 61]) (by rfl) ?_
          refine zq_iast hc hH (by rfl) 4 (oka_i (by decide +kernel)).2 (show vp_in (nI 3) 4 from vp_in_nI (by decide) (by decide)) ?_
          rw [show (3 : Int32).toNatClampNeg = 3 from rfl]
          show Z 1 97 [(3, .int 3), (1, .int 2), (2, .ref 79), (0, .ref 50)] [] (z_ui (z_ui (z_ui (z_ui (z_ui W3 79 3 1) 61 0 ((μ.1 61 0) + (-1500))) 61 1 ((μ.1 61 1) + (-1500))) 61 2 ((μ.1 61 2) + 1500)) 61 3 ((μ.1 61 3) + 1500))
          refine z_rcs0 hc hH 5 (pc' := 103) (lv' := [(3, .int 4), (1, .int 2), (2, .ref 79), (0, .ref 50)]) (st' := []) (by rfl) ?_
          obtain rfl | rfl | rfl | rfl : dl = 0 ∨ dl = 1 ∨ dl = 2 ∨ dl = 3 := by omega
          · skip
            refine z_rcs0 hc hH 3 (pc' := 106) (lv' := [(3, .int 4), (1, .int 2), (2, .ref 79), (0, .ref 50)]) (st' := [.ref 50, .ref 79, .ref 50]) (by rfl) ?_
            refine zq_gfi hc hH (by rfl) (ci := 6) (f := 40) (by rfl) (by decide +kernel) (by rfl) ?_
            refine zV1 (Z := Z) (Eq.trans (ui_o (by first | decide | omega)) (Eq.trans (ui_o (by first | decide | omega)) (Eq.trans (ui_o (by first | decide | omega)) (Eq.trans (ui_o (by first | decide | omega)) (Eq.trans (ui_o (by first | decide | omega)) (Eq.trans (hO3 50 40 (by omega)).1 (Eq.trans (ui_o (by first | decide | omega)) (Eq.trans (hO2 50 40 (by omega)).1 (Eq.trans (ui_o (by first | decide | omega)) (Eq.trans (hO1 50 40 (by omega)).1 (Eq.trans (ui_o (by first | decide | omega)) (hO0 50 40 (by omega)).1))))))))))) ?_
            rw [(z_zero_o (by decide)).trans hdl]
            refine zq_bald hc hH (by rfl) 4 (by decide +kernel) (vp_in_nI (by omega) (by decide)) ?_
            rw [nI_clamp (by omega)]
            refine zV1 (Z := Z) (Eq.trans (ui_o (by first | decide | omega)) (Eq.trans (ui_o (by first | decide | omega)) (Eq.trans (ui_o (by first | decide | omega)) (Eq.trans (ui_o (by first | decide | omega)) (Eq.trans (ui_k (by first | decide | omega)) (Eq.trans (hO3 79 0 (by omega)).1 (Eq.trans (ui_k (by first | decide | omega)) (Eq.trans (hO2 79 0 (by omega)).1 (Eq.trans (ui_k (by first | decide | omega)) (Eq.trans (hO1 79 0 (by omega)).1 (ui_s))))))))))) ?_
            refine z_rcs0 hc hH 1 (pc' := 111) (lv' := [(3, .int 4), (1, .int 2), (2, .ref 79), (0, .ref 50)]) (st' := [.int 1, .int 0, .ref 50]) (by rfl) ?_
            refine zq_call hc (z_cx_ok hH (by rfl)) (gm_endsB d' (by omega) (z_ui (z_ui (z_ui (z_ui (z_ui W3 79 3 1) 61 0 ((μ.1 61 0) + (-1500))) 61 1 ((μ.1 61 1) + (-1500))) 61 2 ((μ.1 61 2) + 1500)) 61 3 ((μ.1 61 3) + 1500)) false true 0 e (by rw [ui_o (by first | decide | omega), ui_o (by first | decide | omega), ui_o (by first | decide | omega), ui_o (by first | decide | omega), ui_o (by first | decide | omega), (hO3 50 40 (by omega)).1, ui_o (by first | decide | omega), (hO2 50 40 (by omega)).1, ui_o (by first | decide | omega), (hO1 50 40 (by omega)).1, ui_o (by first | decide | omega), (hO0 50 40 (by omega)).1]; exact (z_zero_o (by decide)).trans hdl) hdl4 he) (by decide +kernel) (fun r9 μ9 hq => ?_)
            obtain ⟨hr9, hm9⟩ := hq
            rw [hr9, hm9]
            clear hr9 hm9
            show Z 1 114 [(3, .int 4), (1, .int 2), (2, .ref 79), (0, .ref 50)] [] (eMB (z_ui (z_ui (z_ui (z_ui (z_ui W3 79 3 1) 61 0 ((μ.1 61 0) + (-1500))) 61 1 ((μ.1 61 1) + (-1500))) 61 2 ((μ.1 61 2) + 1500)) 61 3 ((μ.1 61 3) + 1500)) false true 0 e)
            exact hr 1 114 _ _ _ none (by decide +kernel) (by rfl) (by refine ⟨rfl, ?_⟩; unfold nM0011; exact SM_eMB (SM_ui (SM_ui (SM_ui (SM_ui (SM_ui (SM_tr (SM_ui (SM_tr (SM_ui (SM_tr (SM_ui (SM_tr (SM_rf _) hO0)) hO1)) hO2)) hO3)))))))
          · skip
            refine z_rcs hc hH 3 (pc' := 106) (lv' := [(3, .int 4), (1, .int 2), (2, .ref 79), (0, .ref 50)]) (st' := [.ref 50, .ref 79, .ref 50]) (μ' := z_ui (z_ui (z_ui (z_ui (z_ui W3 79 3 1) 61 0 ((μ.1 61 0) + (-1500))) 61 1 ((μ.1 61 1) + (-1500))) 61 2 ((μ.1 61 2) + 1500)) 61 3 ((μ.1 61 3) + 1500)) (by rfl) ?_
            refine zq_gfi hc hH (by rfl) (ci := 6) (f := 40) (by rfl) (by decide +kernel) (by rfl) ?_
            refine zV1 (Z := Z) (Eq.trans (ui_o (by first | decide | omega)) (Eq.trans (ui_o (by first | decide | omega)) (Eq.trans (ui_o (by first | decide | omega)) (Eq.trans (ui_o (by first | decide | omega)) (Eq.trans (ui_o (by first | decide | omega)) (Eq.trans (hO3 50 40 (by omega)).1 (Eq.trans (ui_o (by first | decide | omega)) (Eq.trans (hO2 50 40 (by omega)).1 (Eq.trans (ui_o (by first | decide | omega)) (Eq.trans (hO1 50 40 (by omega)).1 (Eq.trans (ui_o (by first | decide | omega)) (hO0 50 40 (by omega)).1))))))))))) ?_
            rw [(z_zero_o (by decide)).trans hdl]
            refine zq_bald hc hH (by rfl) 4 (by decide +kernel) (vp_in_nI (by omega) (by decide)) ?_
            rw [nI_clamp (by omega)]
            refine zV1 (Z := Z) (Eq.trans (ui_o (by first | decide | omega)) (Eq.trans (ui_o (by first | decide | omega)) (Eq.trans (ui_o (by first | decide | omega)) (Eq.trans (ui_o (by first | decide | omega)) (Eq.trans (ui_k (by first | decide | omega)) (Eq.trans (hO3 79 1 (by omega)).1 (Eq.trans (ui_k (by first | decide | omega)) (Eq.trans (hO2 79 1 (by omega)).1 (ui_s))))))))) ?_
            refine z_rcs0 hc hH 1 (pc' := 111) (lv' := [(3, .int 4), (1, .int 2), (2, .ref 79), (0, .ref 50)]) (st' := [.int 1, .int 0, .ref 50]) (by rfl) ?_
            refine zq_call hc (z_cx_ok hH (by rfl)) (gm_endsB d' (by omega) (z_ui (z_ui (z_ui (z_ui (z_ui W3 79 3 1) 61 0 ((μ.1 61 0) + (-1500))) 61 1 ((μ.1 61 1) + (-1500))) 61 2 ((μ.1 61 2) + 1500)) 61 3 ((μ.1 61 3) + 1500)) false true 1 e (by rw [ui_o (by first | decide | omega), ui_o (by first | decide | omega), ui_o (by first | decide | omega), ui_o (by first | decide | omega), ui_o (by first | decide | omega), (hO3 50 40 (by omega)).1, ui_o (by first | decide | omega), (hO2 50 40 (by omega)).1, ui_o (by first | decide | omega), (hO1 50 40 (by omega)).1, ui_o (by first | decide | omega), (hO0 50 40 (by omega)).1]; exact (z_zero_o (by decide)).trans hdl) hdl4 he) (by decide +kernel) (fun r9 μ9 hq => ?_)
            obtain ⟨hr9, hm9⟩ := hq
            rw [hr9, hm9]
            clear hr9 hm9
            show Z 1 114 [(3, .int 4), (1, .int 2), (2, .ref 79), (0, .ref 50)] [] (eMB (z_ui (z_ui (z_ui (z_ui (z_ui W3 79 3 1) 61 0 ((μ.1 61 0) + (-1500))) 61 1 ((μ.1 61 1) + (-1500))) 61 2 ((μ.1 61 2) + 1500)) 61 3 ((μ.1 61 3) + 1500)) false true 1 e)
            exact hr 1 114 _ _ _ none (by decide +kernel) (by rfl) (by refine ⟨rfl, ?_⟩; unfold nM0011; exact SM_eMB (SM_ui (SM_ui (SM_ui (SM_ui (SM_ui (SM_tr (SM_ui (SM_tr (SM_ui (SM_tr (SM_ui (SM_tr (SM_rf _) hO0)) hO1)) hO2)) hO3)))))))
          · skip
            refine z_rcs hc hH 3 (pc' := 106) (lv' := [(3, .int 4), (1, .int 2), (2, .ref 79), (0, .ref 50)]) (st' := [.ref 50, .ref 79, .ref 50]) (μ' := z_ui (z_ui (z_ui (z_ui (z_ui W3 79 3 1) 61 0 ((μ.1 61 0) + (-1500))) 61 1 ((μ.1 61 1) + (-1500))) 61 2 ((μ.1 61 2) + 1500)) 61 3 ((μ.1 61 3) + 1500)) (by rfl) ?_
            refine zq_gfi hc hH (by rfl) (ci := 6) (f := 40) (by rfl) (by decide +kernel) (by rfl) ?_
            refine zV1 (Z := Z) (Eq.trans (ui_o (by first | decide | omega)) (Eq.trans (ui_o (by first | decide | omega)) (Eq.trans (ui_o (by first | decide | omega)) (Eq.trans (ui_o (by first | decide | omega)) (Eq.trans (ui_o (by first | decide | omega)) (Eq.trans (hO3 50 40 (by omega)).1 (Eq.trans (ui_o (by first | decide | omega)) (Eq.trans (hO2 50 40 (by omega)).1 (Eq.trans (ui_o (by first | decide | omega)) (Eq.trans (hO1 50 40 (by omega)).1 (Eq.trans (ui_o (by first | decide | omega)) (hO0 50 40 (by omega)).1))))))))))) ?_
            rw [(z_zero_o (by decide)).trans hdl]
            refine zq_bald hc hH (by rfl) 4 (by decide +kernel) (vp_in_nI (by omega) (by decide)) ?_
            rw [nI_clamp (by omega)]
            refine zV1 (Z := Z) (Eq.trans (ui_o (by first | decide | omega)) (Eq.trans (ui_o (by first | decide | omega)) (Eq.trans (ui_o (by first | decide | omega)) (Eq.trans (ui_o (by first | decide | omega)) (Eq.trans (ui_k (by first | decide | omega)) (Eq.trans (hO3 79 2 (by omega)).1 (ui_s))))))) ?_
            refine z_rcs0 hc hH 1 (pc' := 111) (lv' := [(3, .int 4), (1, .int 2), (2, .ref 79), (0, .ref 50)]) (st' := [.int 1, .int 1, .ref 50]) (by rfl) ?_
            refine zq_call hc (z_cx_ok hH (by rfl)) (gm_endsB d' (by omega) (z_ui (z_ui (z_ui (z_ui (z_ui W3 79 3 1) 61 0 ((μ.1 61 0) + (-1500))) 61 1 ((μ.1 61 1) + (-1500))) 61 2 ((μ.1 61 2) + 1500)) 61 3 ((μ.1 61 3) + 1500)) true true 2 e (by rw [ui_o (by first | decide | omega), ui_o (by first | decide | omega), ui_o (by first | decide | omega), ui_o (by first | decide | omega), ui_o (by first | decide | omega), (hO3 50 40 (by omega)).1, ui_o (by first | decide | omega), (hO2 50 40 (by omega)).1, ui_o (by first | decide | omega), (hO1 50 40 (by omega)).1, ui_o (by first | decide | omega), (hO0 50 40 (by omega)).1]; exact (z_zero_o (by decide)).trans hdl) hdl4 he) (by decide +kernel) (fun r9 μ9 hq => ?_)
            obtain ⟨hr9, hm9⟩ := hq
            rw [hr9, hm9]
            clear hr9 hm9
            show Z 1 114 [(3, .int 4), (1, .int 2), (2, .ref 79), (0, .ref 50)] [] (eMB (z_ui (z_ui (z_ui (z_ui (z_ui W3 79 3 1) 61 0 ((μ.1 61 0) + (-1500))) 61 1 ((μ.1 61 1) + (-1500))) 61 2 ((μ.1 61 2) + 1500)) 61 3 ((μ.1 61 3) + 1500)) true true 2 e)
            exact hr 1 114 _ _ _ none (by decide +kernel) (by rfl) (by refine ⟨rfl, ?_⟩; unfold nM0011; exact SM_eMB (SM_ui (SM_ui (SM_ui (SM_ui (SM_ui (SM_tr (SM_ui (SM_tr (SM_ui (SM_tr (SM_ui (SM_tr (SM_rf _) hO0)) hO1)) hO2)) hO3)))))))
          · skip
            refine z_rcs hc hH 3 (pc' := 106) (lv' := [(3, .int 4), (1, .int 2), (2, .ref 79), (0, .ref 50)]) (st' := [.ref 50, .ref 79, .ref 50]) (μ' := z_ui (z_ui (z_ui (z_ui (z_ui W3 79 3 1) 61 0 ((μ.1 61 0) + (-1500))) 61 1 ((μ.1 61 1) + (-1500))) 61 2 ((μ.1 61 2) + 1500)) 61 3 ((μ.1 61 3) + 1500)) (by rfl) ?_
            refine zq_gfi hc hH (by rfl) (ci := 6) (f := 40) (by rfl) (by decide +kernel) (by rfl) ?_
            refine zV1 (Z := Z) (Eq.trans (ui_o (by first | decide | omega)) (Eq.trans (ui_o (by first | decide | omega)) (Eq.trans (ui_o (by first | decide | omega)) (Eq.trans (ui_o (by first | decide | omega)) (Eq.trans (ui_o (by first | decide | omega)) (Eq.trans (hO3 50 40 (by omega)).1 (Eq.trans (ui_o (by first | decide | omega)) (Eq.trans (hO2 50 40 (by omega)).1 (Eq.trans (ui_o (by first | decide | omega)) (Eq.trans (hO1 50 40 (by omega)).1 (Eq.trans (ui_o (by first | decide | omega)) (hO0 50 40 (by omega)).1))))))))))) ?_
            rw [(z_zero_o (by decide)).trans hdl]
            refine zq_bald hc hH (by rfl) 4 (by decide +kernel) (vp_in_nI (by omega) (by decide)) ?_
            rw [nI_clamp (by omega)]
            refine zV1 (Z := Z) (Eq.trans (ui_o (by first | decide | omega)) (Eq.trans (ui_o (by first | decide | omega)) (Eq.trans (ui_o (by first | decide | omega)) (Eq.trans (ui_o (by first | decide | omega)) (ui_s))))) ?_
            refine z_rcs0 hc hH 1 (pc' := 111) (lv' := [(3, .int 4), (1, .int 2), (2, .ref 79), (0, .ref 50)]) (st' := [.int 1, .int 1, .ref 50]) (by rfl) ?_
            refine zq_call hc (z_cx_ok hH (by rfl)) (gm_endsB d' (by omega) (z_ui (z_ui (z_ui (z_ui (z_ui W3 79 3 1) 61 0 ((μ.1 61 0) + (-1500))) 61 1 ((μ.1 61 1) + (-1500))) 61 2 ((μ.1 61 2) + 1500)) 61 3 ((μ.1 61 3) + 1500)) true true 3 e (by rw [ui_o (by first | decide | omega), ui_o (by first | decide | omega), ui_o (by first | decide | omega), ui_o (by first | decide | omega), ui_o (by first | decide | omega), (hO3 50 40 (by omega)).1, ui_o (by first | decide | omega), (hO2 50 40 (by omega)).1, ui_o (by first | decide | omega), (hO1 50 40 (by omega)).1, ui_o (by first | decide | omega), (hO0 50 40 (by omega)).1]; exact (z_zero_o (by decide)).trans hdl) hdl4 he) (by decide +kernel) (fun r9 μ9 hq => ?_)
            obtain ⟨hr9, hm9⟩ := hq
            rw [hr9, hm9]
            clear hr9 hm9
            show Z 1 114 [(3, .int 4), (1, .int 2), (2, .ref 79), (0, .ref 50)] [] (eMB (z_ui (z_ui (z_ui (z_ui (z_ui W3 79 3 1) 61 0 ((μ.1 61 0) + (-1500))) 61 1 ((μ.1 61 1) + (-1500))) 61 2 ((μ.1 61 2) + 1500)) 61 3 ((μ.1 61 3) + 1500)) true true 3 e)
            exact hr 1 114 _ _ _ none (by decide +kernel) (by rfl) (by refine ⟨rfl, ?_⟩; unfold nM0011; exact SM_eMB (SM_ui (SM_ui (SM_ui (SM_ui (SM_ui (SM_tr (SM_ui (SM_tr (SM_ui (SM_tr (SM_ui (SM_tr (SM_rf _) hO0)) hO1)) hO2)) hO3)))))))
    · have h2 : (decide ((lg_cmp w1 0) = 0)) = false := decide_eq_false (cn_eq.mp h2)
      exact absurd (Eq.trans (Eq.symm (hb1)) h2) (by decide)
  · have h1 : (decide ((lg_cmp w0 0) = 0)) = false := decide_eq_false (cn_eq.mp h1)
    exact absurd (Eq.trans (Eq.symm (hb0)) h1) (by decide)
noncomputable def nM0100 (μ : zM) : zM := z_ui (z_ui (z_ui (z_ui (z_ui (z_ui (z_ui (z_ui (z_zero μ) 79 0 0) 79 1 1) 79 2 0) 79 3 0) 61 0 ((μ.1 61 0) + (-1000))) 61 1 ((μ.1 61 1) + 3000)) 61 2 ((μ.1 61 2) + (-1000))) 61 3 ((μ.1 61 3) + (-1000))
theorem gm_nobody0100 (d : Nat) (hd : 700 ≤ d) (μ : zM) (hH0 : a_H μ) (dl e : Nat) (hdl : μ.1 50 40 = nI dl) (hdl4 : dl < 4) (he : (dl + 1) % 4 = e) (w0 : Int64) (hw0 : ∀ M, SE μ M → a_H M → ∀ d, 699 ≤ d → z_C d mi_X7_waitsAt [.ref 50, .int 0] M (fun r W => r = some (.long w0) ∧ SMj M W ∧ a_H W)) (hb0 : decide (lg_cmp w0 0 = 0) = true) (w1 : Int64) (hw1 : ∀ M, SE μ M → a_H M → ∀ d, 699 ≤ d → z_C d mi_X7_waitsAt [.ref 50, .int 1] M (fun r W => r = some (.long w1) ∧ SMj M W ∧ a_H W)) (hb1 : decide (lg_cmp w1 0 = 0) = false) (w2 : Int64) (hw2 : ∀ M, SE μ M → a_H M → ∀ d, 699 ≤ d → z_C d mi_X7_waitsAt [.ref 50, .int 2] M (fun r W => r = some (.long w2) ∧ SMj M W ∧ a_H W)) (hb2 : decide (lg_cmp w2 0 = 0) = true) (w3 : Int64) (hw3 : ∀ M, SE μ M → a_H M → ∀ d, 699 ≤ d → z_C d mi_X7_waitsAt [.ref 50, .int 3] M (fun r W => r = some (.long w3) ∧ SMj M W ∧ a_H W)) (hb3 : decide (lg_cmp w3 0 = 0) = true) : z_C d mi_X7_nobodyWins [.ref 50] μ (fun r μ' => r = none ∧ SMj (eMB (nM0100 μ) (nbS false true false false dl) true dl e) μ') := by
  obtain ⟨d', rfl⟩ : ∃ d', d = d' + 1 := ⟨d - 1, by omega⟩
  intro Z hc hr
  refine ⟨rfl, ?_⟩
  have hH := zh_X7_nobodyWins
  refine z_rcs hc hH 9 (pc' := 17) (lv' := [(3, .int 0), (2, .ref 79), (1, .int 0), (0, .ref 50)]) (st' := [.int 0, .ref 50, .int 0, .ref 79]) (μ' := z_zero μ) (by rfl) ?_
  refine zq_call hc (z_cx_ok hH (by rfl)) (hw0 _ (SE_zr _) (a_H_zero hH0) d' (by omega)) (by decide +kernel) (fun r9 W0 hq => ?_)
  obtain ⟨rfl, hO0, hA0⟩ := hq
  show Z 1 20 [(3, .int 0), (2, .ref 79), (1, .int 0), (0, .ref 50)] [.long w0, .int 0, .ref 79] W0
  refine z_rcs hc hH 2 (pc' := 22) (lv' := [(3, .int 0), (2, .ref 79), (1, .int 0), (0, .ref 50)]) (st' := [.int (lg_cmp w0 0), .int 0, .ref 79]) (μ' := W0) (by rfl) ?_
  refine zq_if hc hH (by rfl) (tg := 29) (by rfl) (fun h1 => ?_) (fun h1 => ?_)
  · have h1 : (decide ((lg_cmp w0 0) = 0)) = true := decide_eq_true (cm_eq9.mp h1)
    refine z_rcs hc hH 1 (pc' := 30) (lv' := [(3, .int 0), (2, .ref 79), (1, .int 0), (0, .ref 50)]) (st' := [.int 0, .int 0, .ref 79]) (μ' := W0) (by rfl) ?_
    refine zq_bast hc hH (by rfl) 4 (by decide +kernel) (show vp_in (nI 0) 4 from vp_in_nI (by decide) (by decide)) (by decide) ?_
    rw [show (0 : Int32).toNatClampNeg = 0 from rfl]
    show Z 1 31 [(3, .int 0), (2, .ref 79), (1, .int 0), (0, .ref 50)] [] (z_ui W0 79 0 0)
    refine z_rcs hc hH 3 (pc' := 34) (lv' := [(3, .int 0), (2, .ref 79), (1, .int 0), (0, .ref 50)]) (st' := [.int 0, .ref 79, .int 0]) (μ' := z_ui W0 79 0 0) (by rfl) ?_
    refine zq_bald hc hH (by rfl) 4 (by decide +kernel) (show vp_in (nI 0) 4 from vp_in_nI (by decide) (by decide)) ?_
    rw [show (0 : Int32).toNatClampNeg = 0 from rfl]
    rw [ui_s]
    refine z_rcs hc hH 13 (pc' := 17) (lv' := [(3, .int 1), (1, .int 0), (2, .ref 79), (0, .ref 50)]) (st' := [.int 1, .ref 50, .int 1, .ref 79]) (μ' := z_ui W0 79 0 0) (by rfl) ?_
    refine zq_call hc (z_cx_ok hH (by rfl)) (hw1 _ (SE_ui (SE_sm (SE_zr _) hO0) (by omega)) (a_H_ui (r := 79) (k := 0) (hA0) ⟨by decide, by decide⟩) d' (by omega)) (by decide +kernel) (fun r9 W1 hq => ?_)
    obtain ⟨rfl, hO1, hA1⟩ := hq
    show Z 1 20 [(3, .int 1), (1, .int 0), (2, .ref 79), (0, .ref 50)] [.long w1, .int 1, .ref 79] W1
    refine z_rcs hc hH 2 (pc' := 22) (lv' := [(3, .int 1), (1, .int 0), (2, .ref 79), (0, .ref 50)]) (st' := [.int (lg_cmp w1 0), .int 1, .ref 79]) (μ' := W1) (by rfl) ?_
    refine zq_if hc hH (by rfl) (tg := 29) (by rfl) (fun h2 => ?_) (fun h2 => ?_)
    · have h2 : (decide ((lg_cmp w1 0) = 0)) = true := decide_eq_true (cm_eq9.mp h2)
      exact absurd (Eq.trans (Eq.symm (hb1)) h2) (by decide)
    · have h2 : (decide ((lg_cmp w1 0) = 0)) = false := decide_eq_false (cn_eq.mp h2)
      refine z_rcs hc hH 2 (pc' := 30) (lv' := [(3, .int 1), (1, .int 0), (2, .ref 79), (0, .ref 50)]) (st' := [.int 1, .int 1, .ref 79]) (μ' := W1) (by rfl) ?_
      refine zq_bast hc hH (by rfl) 4 (by decide +kernel) (show vp_in (nI 1) 4 from vp_in_nI (by decide) (by decide)) (by decide) ?_
      rw [show (1 : Int32).toNatClampNeg = 1 from rfl]
      show Z 1 31 [(3, .int 1), (1, .int 0), (2, .ref 79), (0, .ref 50)] [] (z_ui W1 79 1 1)
      refine z_rcs hc hH 3 (pc' := 34) (lv' := [(3, .int 1), (1, .int 0), (2, .ref 79), (0, .ref 50)]) (st' := [.int 1, .ref 79, .int 0]) (μ' := z_ui W1 79 1 1) (by rfl) ?_
      refine zq_bald hc hH (by rfl) 4 (by decide +kernel) (show vp_in (nI 1) 4 from vp_in_nI (by decide) (by decide)) ?_
      rw [show (1 : Int32).toNatClampNeg = 1 from rfl]
      rw [ui_s]
      refine z_rcs hc hH 14 (pc' := 17) (lv' := [(3, .int 2), (1, .int 1), (2, .ref 79), (0, .ref 50)]) (st' := [.int 2, .ref 50, .int 2, .ref 79]) (μ' := z_ui W1 79 1 1) (by rfl) ?_
      refine zq_call hc (z_cx_ok hH (by rfl)) (hw2 _ (SE_ui (SE_sm (SE_ui (SE_sm (SE_zr _) hO0) (by omega)) hO1) (by omega)) (a_H_ui (r := 79) (k := 1) (hA1) ⟨by decide, by decide⟩) d' (by omega)) (by decide +kernel) (fun r9 W2 hq => ?_)
      obtain ⟨rfl, hO2, hA2⟩ := hq
      show Z 1 20 [(3, .int 2), (1, .int 1), (2, .ref 79), (0, .ref 50)] [.long w2, .int 2, .ref 79] W2
      refine z_rcs hc hH 2 (pc' := 22) (lv' := [(3, .int 2), (1, .int 1), (2, .ref 79), (0, .ref 50)]) (st' := [.int (lg_cmp w2 0), .int 2, .ref 79]) (μ' := W2) (by rfl) ?_
      refine zq_if hc hH (by rfl) (tg := 29) (by rfl) (fun h3 => ?_) (fun h3 => ?_)
      · have h3 : (decide ((lg_cmp w2 0) = 0)) = true := decide_eq_true (cm_eq9.mp h3)
        refine z_rcs hc hH 1 (pc' := 30) (lv' := [(3, .int 2), (1, .int 1), (2, .ref 79), (0, .ref 50)]) (st' := [.int 0, .int 2, .ref 79]) (μ' := W2) (by rfl) ?_
        refine zq_bast hc hH (by rfl) 4 (by decide +kernel) (show vp_in (nI 2) 4 from vp_in_nI (by decide) (by decide)) (by decide) ?_
        rw [show (2 : Int32).toNatClampNeg = 2 from rfl]
        show Z 1 31 [(3, .int 2), (1, .int 1), (2, .ref 79), (0, .ref 50)] [] (z_ui W2 79 2 0)
        refine z_rcs hc hH 3 (pc' := 34) (lv' := [(3, .int 2), (1, .int 1), (2, .ref 79), (0, .ref 50)]) (st' := [.int 2, .ref 79, .int 1]) (μ' := z_ui W2 79 2 0) (by rfl) ?_
        refine zq_bald hc hH (by rfl) 4 (by decide +kernel) (show vp_in (nI 2) 4 from vp_in_nI (by decide) (by decide)) ?_
        rw [show (2 : Int32).toNatClampNeg = 2 from rfl]
        rw [ui_s]
        refine z_rcs hc hH 13 (pc' := 17) (lv' := [(3, .int 3), (1, .int 1), (2, .ref 79), (0, .ref 50)]) (st' := [.int 3, .ref 50, .int 3, .ref 79]) (μ' := z_ui W2 79 2 0) (by rfl) ?_
        refine zq_call hc (z_cx_ok hH (by rfl)) (hw3 _ (SE_ui (SE_sm (SE_ui (SE_sm (SE_ui (SE_sm (SE_zr _) hO0) (by omega)) hO1) (by omega)) hO2) (by omega)) (a_H_ui (r := 79) (k := 2) (hA2) ⟨by decide, by decide⟩) d' (by omega)) (by decide +kernel) (fun r9 W3 hq => ?_)
        obtain ⟨rfl, hO3, hA3⟩ := hq
        show Z 1 20 [(3, .int 3), (1, .int 1), (2, .ref 79), (0, .ref 50)] [.long w3, .int 3, .ref 79] W3
        refine z_rcs hc hH 2 (pc' := 22) (lv' := [(3, .int 3), (1, .int 1), (2, .ref 79), (0, .ref 50)]) (st' := [.int (lg_cmp w3 0), .int 3, .ref 79]) (μ' := W3) (by rfl) ?_
        refine zq_if hc hH (by rfl) (tg := 29) (by rfl) (fun h4 => ?_) (fun h4 => ?_)
        · have h4 : (decide ((lg_cmp w3 0) = 0)) = true := decide_eq_true (cm_eq9.mp h4)
          refine z_rcs hc hH 1 (pc' := 30) (lv' := [(3, .int 3), (1, .int 1), (2, .ref 79), (0, .ref 50)]) (st' := [.int 0, .int 3, .ref 79]) (μ' := W3) (by rfl) ?_
          refine zq_bast hc hH (by rfl) 4 (by decide +kernel) (show vp_in (nI 3) 4 from vp_in_nI (by decide) (by decide)) (by decide) ?_
          rw [show (3 : Int32).toNatClampNeg = 3 from rfl]
          show Z 1 31 [(3, .int 3), (1, .int 1), (2, .ref 79), (0, .ref 50)] [] (z_ui W3 79 3 0)
          refine z_rcs hc hH 3 (pc' := 34) (lv' := [(3, .int 3), (1, .int 1), (2, .ref 79), (0, .ref 50)]) (st' := [.int 3, .ref 79, .int 1]) (μ' := z_ui W3 79 3 0) (by rfl) ?_
          refine zq_bald hc hH (by rfl) 4 (by decide +kernel) (show vp_in (nI 3) 4 from vp_in_nI (by decide) (by decide)) ?_
          rw [show (3 : Int32).toNatClampNeg = 3 from rfl]
          rw [ui_s]
          refine z_rcs hc hH 20 (pc' := 68) (lv' := [(3, .int 0), (1, .int 1), (2, .ref 79), (0, .ref 50)]) (st' := [.ref 50]) (μ' := z_ui W3 79 3 0) (by rfl) ?_
          refine zq_gfr hc hH (by rfl) (ci := 6) (f := 29) (q := 61) (by rfl) (by decide +kernel) (by rfl) (by decide +kernel) ?_
          refine z_rcs hc hH 2 (pc' := 73) (lv' := [(3, .int 0), (1, .int 1), (2, .ref 79), (0, .ref 50)]) (st' := [.int 0, .ref 61, .int 0, .ref 61]) (μ' := z_ui W3 79 3 0) (by rfl) ?_
          refine zq_iald hc hH (by rfl) 4 (oka_i (by decide +kernel)) (show vp_in (nI 0) 4 from vp_in_nI (by decide) (by decide)) ?_
          rw [show (0 : Int32).toNatClampNeg = 0 from rfl]
          refine zV1 (Z := Z) (Eq.trans (ui_o (by first | decide | omega)) (Eq.trans (hO3 61 0 (by omega)).1 (Eq.trans (ui_o (by first | decide | omega)) (Eq.trans (hO2 61 0 (by omega)).1 (Eq.trans (ui_o (by first | decide | omega)) (Eq.trans (hO1 61 0 (by omega)).1 (Eq.trans (ui_o (by first | decide | omega)) (hO0 61 0 (by omega)).1))))))) ?_
          rw [z_zero_o (by decide)]
          refine z_rcs hc hH 2 (pc' := 76) (lv' := [(3, .int 0), (1, .int 1), (2, .ref 79), (0, .ref 50)]) (st' := [.int 0, .ref 79, .int (μ.1 61 0), .int 0, .ref 61]) (μ' := z_ui W3 79 3 0) (by rfl) ?_
          refine zq_bald hc hH (by rfl) 4 (by decide +kernel) (show vp_in (nI 0) 4 from vp_in_nI (by decide) (by decide)) ?_
          rw [show (0 : Int32).toNatClampNeg = 0 from rfl]
          refine zV1 (Z := Z) (Eq.trans (ui_k (by first | decide | omega)) (Eq.trans (hO3 79 0 (by omega)).1 (Eq.trans (ui_k (by first | decide | omega)) (Eq.trans (hO2 79 0 (by omega)).1 (Eq.trans (ui_k (by first | decide | omega)) (Eq.trans (hO1 79 0 (by omega)).1 (ui_s))))))) ?_
          refine z_rcs hc hH 7 (pc' := 96) (lv' := [(3, .int 0), (1, .int 1), (2, .ref 79), (0, .ref 50)]) (st' := [.int ((μ.1 61 0) + (-1000)), .int 0, .ref 61]) (μ' := z_ui W3 79 3 0) (by rfl) ?_
          refine zq_iast hc hH (by rfl) 4 (oka_i (by decide +kernel)).2 (show vp_in (nI 0) 4 from vp_in_nI (by decide) (by decide)) ?_
          rw [show (0 : Int32).toNatClampNeg = 0 from rfl]
          show Z 1 97 [(3, .int 0), (1, .int 1), (2, .ref 79), (0, .ref 50)] [] (z_ui (z_ui W3 79 3 0) 61 0 ((μ.1 61 0) + (-1000)))
          refine z_rcs0 hc hH 6 (pc' := 68) (lv' := [(3, .int 1), (1, .int 1), (2, .ref 79), (0, .ref 50)]) (st' := [.ref 50]) (by rfl) ?_
          refine zq_gfr hc hH (by rfl) (ci := 6) (f := 29) (q := 61) (by rfl) (by decide +kernel) (by rfl) (by decide +kernel) ?_
          refine z_rcs0 hc hH 2 (pc' := 73) (lv' := [(3, .int 1), (1, .int 1), (2, .ref 79), (0, .ref 50)]) (st' := [.int 1, .ref 61, .int 1, .ref 61]) (by rfl) ?_
          refine zq_iald hc hH (by rfl) 4 (oka_i (by decide +kernel)) (show vp_in (nI 1) 4 from vp_in_nI (by decide) (by decide)) ?_
          rw [show (1 : Int32).toNatClampNeg = 1 from rfl]
          refine zV1 (Z := Z) (Eq.trans (ui_k (by first | decide | omega)) (Eq.trans (ui_o (by first | decide | omega)) (Eq.trans (hO3 61 1 (by omega)).1 (Eq.trans (ui_o (by first | decide | omega)) (Eq.trans (hO2 61 1 (by omega)).1 (Eq.trans (ui_o (by first | decide | omega)) (Eq.trans (hO1 61 1 (by omega)).1 (Eq.trans (ui_o (by first | decide | omega)) (hO0 61 1 (by omega)).1)))))))) ?_
          rw [z_zero_o (by decide)]
          refine z_rcs0 hc hH 2 (pc' := 76) (lv' := [(3, .int 1), (1, .int 1), (2, .ref 79), (0, .ref 50)]) (st' := [.int 1, .ref 79, .int (μ.1 61 1), .int 1, .ref 61]) (by rfl) ?_
          refine zq_bald hc hH (by rfl) 4 (by decide +kernel) (show vp_in (nI 1) 4 from vp_in_nI (by decide) (by decide)) ?_
          rw [show (1 : Int32).toNatClampNeg = 1 from rfl]
          refine zV1 (Z := Z) (Eq.trans (ui_o (by first | decide | omega)) (Eq.trans (ui_k (by first | decide | omega)) (Eq.trans (hO3 79 1 (by omega)).1 (Eq.trans (ui_k (by first | decide | omega)) (Eq.trans (hO2 79 1 (by omega)).1 (ui_s)))))) ?_
          refine z_rcs0 hc hH 6 (pc' := 96) (lv' := [(3, .int 1), (1, .int 1), (2, .ref 79), (0, .ref 50)]) (st' := [.int ((μ.1 61 1) + 3000), .int 1, .ref 61]) (by rfl) ?_
          refine zq_iast hc hH (by rfl) 4 (oka_i (by decide +kernel)).2 (show vp_in (nI 1) 4 from vp_in_nI (by decide) (by decide)) ?_
          rw [show (1 : Int32).toNatClampNeg = 1 from rfl]
          show Z 1 97 [(3, .int 1), (1, .int 1), (2, .ref 79), (0, .ref 50)] [] (z_ui (z_ui (z_ui W3 79 3 0) 61 0 ((μ.1 61 0) + (-1000))) 61 1 ((μ.1 61 1) + 3000))
          refine z_rcs0 hc hH 6 (pc' := 68) (lv' := [(3, .int 2), (1, .int 1), (2, .ref 79), (0, .ref 50)]) (st' := [.ref 50]) (by rfl) ?_
          refine zq_gfr hc hH (by rfl) (ci := 6) (f := 29) (q := 61) (by rfl) (by decide +kernel) (by rfl) (by decide +kernel) ?_
          refine z_rcs0 hc hH 2 (pc' := 73) (lv' := [(3, .int 2), (1, .int 1), (2, .ref 79), (0, .ref 50)]) (st' := [.int 2, .ref 61, .int 2, .ref 61]) (by rfl) ?_
          refine zq_iald hc hH (by rfl) 4 (oka_i (by decide +kernel)) (show vp_in (nI 2) 4 from vp_in_nI (by decide) (by decide)) ?_
          rw [show (2 : Int32).toNatClampNeg = 2 from rfl]
          refine zV1 (Z := Z) (Eq.trans (ui_k (by first | decide | omega)) (Eq.trans (ui_k (by first | decide | omega)) (Eq.trans (ui_o (by first | decide | omega)) (Eq.trans (hO3 61 2 (by omega)).1 (Eq.trans (ui_o (by first | decide | omega)) (Eq.trans (hO2 61 2 (by omega)).1 (Eq.trans (ui_o (by first | decide | omega)) (Eq.trans (hO1 61 2 (by omega)).1 (Eq.trans (ui_o (by first | decide | omega)) (hO0 61 2 (by omega)).1))))))))) ?_
          rw [z_zero_o (by decide)]
          refine z_rcs0 hc hH 2 (pc' := 76) (lv' := [(3, .int 2), (1, .int 1), (2, .ref 79), (0, .ref 50)]) (st' := [.int 2, .ref 79, .int (μ.1 61 2), .int 2, .ref 61]) (by rfl) ?_
          refine zq_bald hc hH (by rfl) 4 (by decide +kernel) (show vp_in (nI 2) 4 from vp_in_nI (by decide) (by decide)) ?_
          rw [show (2 : Int32).toNatClampNeg = 2 from rfl]
          refine zV1 (Z := Z) (Eq.trans (ui_o (by first | decide | omega)) (Eq.trans (ui_o (by first | decide | omega)) (Eq.trans (ui_k (by first | decide | omega)) (Eq.trans (hO3 79 2 (by omega)).1 (ui_s))))) ?_
          refine z_rcs0 hc hH 7 (pc' := 96) (lv' := [(3, .int 2), (1, .int 1), (2, .ref 79), (0, .ref 50)]) (st' := [.int ((μ.1 61 2) + (-1000)), .int 2, .ref 61]) (by rfl) ?_
          refine zq_iast hc hH (by rfl) 4 (oka_i (by decide +kernel)).2 (show vp_in (nI 2) 4 from vp_in_nI (by decide) (by decide)) ?_
          rw [show (2 : Int32).toNatClampNeg = 2 from rfl]
          show Z 1 97 [(3, .int 2), (1, .int 1), (2, .ref 79), (0, .ref 50)] [] (z_ui (z_ui (z_ui (z_ui W3 79 3 0) 61 0 ((μ.1 61 0) + (-1000))) 61 1 ((μ.1 61 1) + 3000)) 61 2 ((μ.1 61 2) + (-1000)))
          refine z_rcs0 hc hH 6 (pc' := 68) (lv' := [(3, .int 3), (1, .int 1), (2, .ref 79), (0, .ref 50)]) (st' := [.ref 50]) (by rfl) ?_
          refine zq_gfr hc hH (by rfl) (ci := 6) (f := 29) (q := 61) (by rfl) (by decide +kernel) (by rfl) (by decide +kernel) ?_
          refine z_rcs0 hc hH 2 (pc' := 73) (lv' := [(3, .int 3), (1, .int 1), (2, .ref 79), (0, .ref 50)]) (st' := [.int 3, .ref 61, .int 3, .ref 61]) (by rfl) ?_
          refine zq_iald hc hH (by rfl) 4 (oka_i (by decide +kernel)) (show vp_in (nI 3) 4 from vp_in_nI (by decide) (by decide)) ?_
          rw [show (3 : Int32).toNatClampNeg = 3 from rfl]
          refine zV1 (Z := Z) (Eq.trans (ui_k (by first | decide | omega)) (Eq.trans (ui_k (by first | decide | omega)) (Eq.trans (ui_k (by first | decide | omega)) (Eq.trans (ui_o (by first | decide | omega)) (Eq.trans (hO3 61 3 (by omega)).1 (Eq.trans (ui_o (by first | decide | omega)) (Eq.trans (hO2 61 3 (by omega)).1 (Eq.trans (ui_o (by first | decide | omega)) (Eq.trans (hO1 61 3 (by omega)).1 (Eq.trans (ui_o (by first | decide | omega)) (hO0 61 3 (by omega)).1)))))))))) ?_
          rw [z_zero_o (by decide)]
          refine z_rcs0 hc hH 2 (pc' := 76) (lv' := [(3, .int 3), (1, .int 1), (2, .ref 79), (0, .ref 50)]) (st' := [.int 3, .ref 79, .int (μ.1 61 3), .int 3, .ref 61]) (by rfl) ?_
          refine zq_bald hc hH (by rfl) 4 (by decide +kernel) (show vp_in (nI 3) 4 from vp_in_nI (by decide) (by decide)) ?_
          rw [show (3 : Int32).toNatClampNeg = 3 from rfl]
          refine zV1 (Z := Z) (Eq.trans (ui_o (by first | decide | omega)) (Eq.trans (ui_o (by first | decide | omega)) (Eq.trans (ui_o (by first | decide | omega)) (ui_s)))) ?_
          refine z_rcs0 hc hH 7 (pc' := 96) (lv' := [(3, .int 3), (1, .int 1), (2, .ref 79), (0, .ref 50)]) (st' := [.int ((μ.1 61 3) + (-1000)), .int 3, .ref 61]) (by rfl) ?_
          refine zq_iast hc hH (by rfl) 4 (oka_i (by decide +kernel)).2 (show vp_in (nI 3) 4 from vp_in_nI (by decide) (by decide)) ?_
          rw [show (3 : Int32).toNatClampNeg = 3 from rfl]
          show Z 1 97 [(3, .int 3), (1, .int 1), (2, .ref 79), (0, .ref 50)] [] (z_ui (z_ui (z_ui (z_ui (z_ui W3 79 3 0) 61 0 ((μ.1 61 0) + (-1000))) 61 1 ((μ.1 61 1) + 3000)) 61 2 ((μ.1 61 2) + (-1000))) 61 3 ((μ.1 61 3) + (-1000)))
          refine z_rcs0 hc hH 5 (pc' := 103) (lv' := [(3, .int 4), (1, .int 1), (2, .ref 79), (0, .ref 50)]) (st' := []) (by rfl) ?_
          obtain rfl | rfl | rfl | rfl : dl = 0 ∨ dl = 1 ∨ dl = 2 ∨ dl = 3 := by omega
          · skip
            refine z_rcs0 hc hH 3 (pc' := 106) (lv' := [(3, .int 4), (1, .int 1), (2, .ref 79), (0, .ref 50)]) (st' := [.ref 50, .ref 79, .ref 50]) (by rfl) ?_
            refine zq_gfi hc hH (by rfl) (ci := 6) (f := 40) (by rfl) (by decide +kernel) (by rfl) ?_
            refine zV1 (Z := Z) (Eq.trans (ui_o (by first | decide | omega)) (Eq.trans (ui_o (by first | decide | omega)) (Eq.trans (ui_o (by first | decide | omega)) (Eq.trans (ui_o (by first | decide | omega)) (Eq.trans (ui_o (by first | decide | omega)) (Eq.trans (hO3 50 40 (by omega)).1 (Eq.trans (ui_o (by first | decide | omega)) (Eq.trans (hO2 50 40 (by omega)).1 (Eq.trans (ui_o (by first | decide | omega)) (Eq.trans (hO1 50 40 (by omega)).1 (Eq.trans (ui_o (by first | decide | omega)) (hO0 50 40 (by omega)).1))))))))))) ?_
            rw [(z_zero_o (by decide)).trans hdl]
            refine zq_bald hc hH (by rfl) 4 (by decide +kernel) (vp_in_nI (by omega) (by decide)) ?_
            rw [nI_clamp (by omega)]
            refine zV1 (Z := Z) (Eq.trans (ui_o (by first | decide | omega)) (Eq.trans (ui_o (by first | decide | omega)) (Eq.trans (ui_o (by first | decide | omega)) (Eq.trans (ui_o (by first | decide | omega)) (Eq.trans (ui_k (by first | decide | omega)) (Eq.trans (hO3 79 0 (by omega)).1 (Eq.trans (ui_k (by first | decide | omega)) (Eq.trans (hO2 79 0 (by omega)).1 (Eq.trans (ui_k (by first | decide | omega)) (Eq.trans (hO1 79 0 (by omega)).1 (ui_s))))))))))) ?_
            refine z_rcs0 hc hH 1 (pc' := 111) (lv' := [(3, .int 4), (1, .int 1), (2, .ref 79), (0, .ref 50)]) (st' := [.int 1, .int 0, .ref 50]) (by rfl) ?_
            refine zq_call hc (z_cx_ok hH (by rfl)) (gm_endsB d' (by omega) (z_ui (z_ui (z_ui (z_ui (z_ui W3 79 3 0) 61 0 ((μ.1 61 0) + (-1000))) 61 1 ((μ.1 61 1) + 3000)) 61 2 ((μ.1 61 2) + (-1000))) 61 3 ((μ.1 61 3) + (-1000))) false true 0 e (by rw [ui_o (by first | decide | omega), ui_o (by first | decide | omega), ui_o (by first | decide | omega), ui_o (by first | decide | omega), ui_o (by first | decide | omega), (hO3 50 40 (by omega)).1, ui_o (by first | decide | omega), (hO2 50 40 (by omega)).1, ui_o (by first | decide | omega), (hO1 50 40 (by omega)).1, ui_o (by first | decide | omega), (hO0 50 40 (by omega)).1]; exact (z_zero_o (by decide)).trans hdl) hdl4 he) (by decide +kernel) (fun r9 μ9 hq => ?_)
            obtain ⟨hr9, hm9⟩ := hq
            rw [hr9, hm9]
            clear hr9 hm9
            show Z 1 114 [(3, .int 4), (1, .int 1), (2, .ref 79), (0, .ref 50)] [] (eMB (z_ui (z_ui (z_ui (z_ui (z_ui W3 79 3 0) 61 0 ((μ.1 61 0) + (-1000))) 61 1 ((μ.1 61 1) + 3000)) 61 2 ((μ.1 61 2) + (-1000))) 61 3 ((μ.1 61 3) + (-1000))) false true 0 e)
            exact hr 1 114 _ _ _ none (by decide +kernel) (by rfl) (by refine ⟨rfl, ?_⟩; unfold nM0100; exact SM_eMB (SM_ui (SM_ui (SM_ui (SM_ui (SM_ui (SM_tr (SM_ui (SM_tr (SM_ui (SM_tr (SM_ui (SM_tr (SM_rf _) hO0)) hO1)) hO2)) hO3)))))))
          · skip
            refine z_rcs hc hH 3 (pc' := 106) (lv' := [(3, .int 4), (1, .int 1), (2, .ref 79), (0, .ref 50)]) (st' := [.ref 50, .ref 79, .ref 50]) (μ' := z_ui (z_ui (z_ui (z_ui (z_ui W3 79 3 0) 61 0 ((μ.1 61 0) + (-1000))) 61 1 ((μ.1 61 1) + 3000)) 61 2 ((μ.1 61 2) + (-1000))) 61 3 ((μ.1 61 3) + (-1000))) (by rfl) ?_
            refine zq_gfi hc hH (by rfl) (ci := 6) (f := 40) (by rfl) (by decide +kernel) (by rfl) ?_
            refine zV1 (Z := Z) (Eq.trans (ui_o (by first | decide | omega)) (Eq.trans (ui_o (by first | decide | omega)) (Eq.trans (ui_o (by first | decide | omega)) (Eq.trans (ui_o (by first | decide | omega)) (Eq.trans (ui_o (by first | decide | omega)) (Eq.trans (hO3 50 40 (by omega)).1 (Eq.trans (ui_o (by first | decide | omega)) (Eq.trans (hO2 50 40 (by omega)).1 (Eq.trans (ui_o (by first | decide | omega)) (Eq.trans (hO1 50 40 (by omega)).1 (Eq.trans (ui_o (by first | decide | omega)) (hO0 50 40 (by omega)).1))))))))))) ?_
            rw [(z_zero_o (by decide)).trans hdl]
            refine zq_bald hc hH (by rfl) 4 (by decide +kernel) (vp_in_nI (by omega) (by decide)) ?_
            rw [nI_clamp (by omega)]
            refine zV1 (Z := Z) (Eq.trans (ui_o (by first | decide | omega)) (Eq.trans (ui_o (by first | decide | omega)) (Eq.trans (ui_o (by first | decide | omega)) (Eq.trans (ui_o (by first | decide | omega)) (Eq.trans (ui_k (by first | decide | omega)) (Eq.trans (hO3 79 1 (by omega)).1 (Eq.trans (ui_k (by first | decide | omega)) (Eq.trans (hO2 79 1 (by omega)).1 (ui_s))))))))) ?_
            refine z_rcs0 hc hH 1 (pc' := 111) (lv' := [(3, .int 4), (1, .int 1), (2, .ref 79), (0, .ref 50)]) (st' := [.int 1, .int 1, .ref 50]) (by rfl) ?_
            refine zq_call hc (z_cx_ok hH (by rfl)) (gm_endsB d' (by omega) (z_ui (z_ui (z_ui (z_ui (z_ui W3 79 3 0) 61 0 ((μ.1 61 0) + (-1000))) 61 1 ((μ.1 61 1) + 3000)) 61 2 ((μ.1 61 2) + (-1000))) 61 3 ((μ.1 61 3) + (-1000))) true true 1 e (by rw [ui_o (by first | decide | omega), ui_o (by first | decide | omega), ui_o (by first | decide | omega), ui_o (by first | decide | omega), ui_o (by first | decide | omega), (hO3 50 40 (by omega)).1, ui_o (by first | decide | omega), (hO2 50 40 (by omega)).1, ui_o (by first | decide | omega), (hO1 50 40 (by omega)).1, ui_o (by first | decide | omega), (hO0 50 40 (by omega)).1]; exact (z_zero_o (by decide)).trans hdl) hdl4 he) (by decide +kernel) (fun r9 μ9 hq => ?_)
            obtain ⟨hr9, hm9⟩ := hq
            rw [hr9, hm9]
            clear hr9 hm9
            show Z 1 114 [(3, .int 4), (1, .int 1), (2, .ref 79), (0, .ref 50)] [] (eMB (z_ui (z_ui (z_ui (z_ui (z_ui W3 79 3 0) 61 0 ((μ.1 61 0) + (-1000))) 61 1 ((μ.1 61 1) + 3000)) 61 2 ((μ.1 61 2) + (-1000))) 61 3 ((μ.1 61 3) + (-1000))) true true 1 e)
            exact hr 1 114 _ _ _ none (by decide +kernel) (by rfl) (by refine ⟨rfl, ?_⟩; unfold nM0100; exact SM_eMB (SM_ui (SM_ui (SM_ui (SM_ui (SM_ui (SM_tr (SM_ui (SM_tr (SM_ui (SM_tr (SM_ui (SM_tr (SM_rf _) hO0)) hO1)) hO2)) hO3)))))))
          · skip
            refine z_rcs hc hH 3 (pc' := 106) (lv' := [(3, .int 4), (1, .int 1), (2, .ref 79), (0, .ref 50)]) (st' := [.ref 50, .ref 79, .ref 50]) (μ' := z_ui (z_ui (z_ui (z_ui (z_ui W3 79 3 0) 61 0 ((μ.1 61 0) + (-1000))) 61 1 ((μ.1 61 1) + 3000)) 61 2 ((μ.1 61 2) + (-1000))) 61 3 ((μ.1 61 3) + (-1000))) (by rfl) ?_
            refine zq_gfi hc hH (by rfl) (ci := 6) (f := 40) (by rfl) (by decide +kernel) (by rfl) ?_
            refine zV1 (Z := Z) (Eq.trans (ui_o (by first | decide | omega)) (Eq.trans (ui_o (by first | decide | omega)) (Eq.trans (ui_o (by first | decide | omega)) (Eq.trans (ui_o (by first | decide | omega)) (Eq.trans (ui_o (by first | decide | omega)) (Eq.trans (hO3 50 40 (by omega)).1 (Eq.trans (ui_o (by first | decide | omega)) (Eq.trans (hO2 50 40 (by omega)).1 (Eq.trans (ui_o (by first | decide | omega)) (Eq.trans (hO1 50 40 (by omega)).1 (Eq.trans (ui_o (by first | decide | omega)) (hO0 50 40 (by omega)).1))))))))))) ?_
            rw [(z_zero_o (by decide)).trans hdl]
            refine zq_bald hc hH (by rfl) 4 (by decide +kernel) (vp_in_nI (by omega) (by decide)) ?_
            rw [nI_clamp (by omega)]
            refine zV1 (Z := Z) (Eq.trans (ui_o (by first | decide | omega)) (Eq.trans (ui_o (by first | decide | omega)) (Eq.trans (ui_o (by first | decide | omega)) (Eq.trans (ui_o (by first | decide | omega)) (Eq.trans (ui_k (by first | decide | omega)) (Eq.trans (hO3 79 2 (by omega)).1 (ui_s))))))) ?_
            refine z_rcs0 hc hH 1 (pc' := 111) (lv' := [(3, .int 4), (1, .int 1), (2, .ref 79), (0, .ref 50)]) (st' := [.int 1, .int 0, .ref 50]) (by rfl) ?_
            refine zq_call hc (z_cx_ok hH (by rfl)) (gm_endsB d' (by omega) (z_ui (z_ui (z_ui (z_ui (z_ui W3 79 3 0) 61 0 ((μ.1 61 0) + (-1000))) 61 1 ((μ.1 61 1) + 3000)) 61 2 ((μ.1 61 2) + (-1000))) 61 3 ((μ.1 61 3) + (-1000))) false true 2 e (by rw [ui_o (by first | decide | omega), ui_o (by first | decide | omega), ui_o (by first | decide | omega), ui_o (by first | decide | omega), ui_o (by first | decide | omega), (hO3 50 40 (by omega)).1, ui_o (by first | decide | omega), (hO2 50 40 (by omega)).1, ui_o (by first | decide | omega), (hO1 50 40 (by omega)).1, ui_o (by first | decide | omega), (hO0 50 40 (by omega)).1]; exact (z_zero_o (by decide)).trans hdl) hdl4 he) (by decide +kernel) (fun r9 μ9 hq => ?_)
            obtain ⟨hr9, hm9⟩ := hq
            rw [hr9, hm9]
            clear hr9 hm9
            show Z 1 114 [(3, .int 4), (1, .int 1), (2, .ref 79), (0, .ref 50)] [] (eMB (z_ui (z_ui (z_ui (z_ui (z_ui W3 79 3 0) 61 0 ((μ.1 61 0) + (-1000))) 61 1 ((μ.1 61 1) + 3000)) 61 2 ((μ.1 61 2) + (-1000))) 61 3 ((μ.1 61 3) + (-1000))) false true 2 e)
            exact hr 1 114 _ _ _ none (by decide +kernel) (by rfl) (by refine ⟨rfl, ?_⟩; unfold nM0100; exact SM_eMB (SM_ui (SM_ui (SM_ui (SM_ui (SM_ui (SM_tr (SM_ui (SM_tr (SM_ui (SM_tr (SM_ui (SM_tr (SM_rf _) hO0)) hO1)) hO2)) hO3)))))))
          · skip
            refine z_rcs hc hH 3 (pc' := 106) (lv' := [(3, .int 4), (1, .int 1), (2, .ref 79), (0, .ref 50)]) (st' := [.ref 50, .ref 79, .ref 50]) (μ' := z_ui (z_ui (z_ui (z_ui (z_ui W3 79 3 0) 61 0 ((μ.1 61 0) + (-1000))) 61 1 ((μ.1 61 1) + 3000)) 61 2 ((μ.1 61 2) + (-1000))) 61 3 ((μ.1 61 3) + (-1000))) (by rfl) ?_
            refine zq_gfi hc hH (by rfl) (ci := 6) (f := 40) (by rfl) (by decide +kernel) (by rfl) ?_
            refine zV1 (Z := Z) (Eq.trans (ui_o (by first | decide | omega)) (Eq.trans (ui_o (by first | decide | omega)) (Eq.trans (ui_o (by first | decide | omega)) (Eq.trans (ui_o (by first | decide | omega)) (Eq.trans (ui_o (by first | decide | omega)) (Eq.trans (hO3 50 40 (by omega)).1 (Eq.trans (ui_o (by first | decide | omega)) (Eq.trans (hO2 50 40 (by omega)).1 (Eq.trans (ui_o (by first | decide | omega)) (Eq.trans (hO1 50 40 (by omega)).1 (Eq.trans (ui_o (by first | decide | omega)) (hO0 50 40 (by omega)).1))))))))))) ?_
            rw [(z_zero_o (by decide)).trans hdl]
            refine zq_bald hc hH (by rfl) 4 (by decide +kernel) (vp_in_nI (by omega) (by decide)) ?_
            rw [nI_clamp (by omega)]
            refine zV1 (Z := Z) (Eq.trans (ui_o (by first | decide | omega)) (Eq.trans (ui_o (by first | decide | omega)) (Eq.trans (ui_o (by first | decide | omega)) (Eq.trans (ui_o (by first | decide | omega)) (ui_s))))) ?_
            refine z_rcs0 hc hH 1 (pc' := 111) (lv' := [(3, .int 4), (1, .int 1), (2, .ref 79), (0, .ref 50)]) (st' := [.int 1, .int 0, .ref 50]) (by rfl) ?_
            refine zq_call hc (z_cx_ok hH (by rfl)) (gm_endsB d' (by omega) (z_ui (z_ui (z_ui (z_ui (z_ui W3 79 3 0) 61 0 ((μ.1 61 0) + (-1000))) 61 1 ((μ.1 61 1) + 3000)) 61 2 ((μ.1 61 2) + (-1000))) 61 3 ((μ.1 61 3) + (-1000))) false true 3 e (by rw [ui_o (by first | decide | omega), ui_o (by first | decide | omega), ui_o (by first | decide | omega), ui_o (by first | decide | omega), ui_o (by first | decide | omega), (hO3 50 40 (by omega)).1, ui_o (by first | decide | omega), (hO2 50 40 (by omega)).1, ui_o (by first | decide | omega), (hO1 50 40 (by omega)).1, ui_o (by first | decide | omega), (hO0 50 40 (by omega)).1]; exact (z_zero_o (by decide)).trans hdl) hdl4 he) (by decide +kernel) (fun r9 μ9 hq => ?_)
            obtain ⟨hr9, hm9⟩ := hq
            rw [hr9, hm9]
            clear hr9 hm9
            show Z 1 114 [(3, .int 4), (1, .int 1), (2, .ref 79), (0, .ref 50)] [] (eMB (z_ui (z_ui (z_ui (z_ui (z_ui W3 79 3 0) 61 0 ((μ.1 61 0) + (-1000))) 61 1 ((μ.1 61 1) + 3000)) 61 2 ((μ.1 61 2) + (-1000))) 61 3 ((μ.1 61 3) + (-1000))) false true 3 e)
            exact hr 1 114 _ _ _ none (by decide +kernel) (by rfl) (by refine ⟨rfl, ?_⟩; unfold nM0100; exact SM_eMB (SM_ui (SM_ui (SM_ui (SM_ui (SM_ui (SM_tr (SM_ui (SM_tr (SM_ui (SM_tr (SM_ui (SM_tr (SM_rf _) hO0)) hO1)) hO2)) hO3)))))))
        · have h4 : (decide ((lg_cmp w3 0) = 0)) = false := decide_eq_false (cn_eq.mp h4)
          exact absurd (Eq.trans (Eq.symm (hb3)) h4) (by decide)
      · have h3 : (decide ((lg_cmp w2 0) = 0)) = false := decide_eq_false (cn_eq.mp h3)
        exact absurd (Eq.trans (Eq.symm (hb2)) h3) (by decide)
  · have h1 : (decide ((lg_cmp w0 0) = 0)) = false := decide_eq_false (cn_eq.mp h1)
    exact absurd (Eq.trans (Eq.symm (hb0)) h1) (by decide)
noncomputable def nM0101 (μ : zM) : zM := z_ui (z_ui (z_ui (z_ui (z_ui (z_ui (z_ui (z_ui (z_zero μ) 79 0 0) 79 1 1) 79 2 0) 79 3 1) 61 0 ((μ.1 61 0) + (-1500))) 61 1 ((μ.1 61 1) + 1500)) 61 2 ((μ.1 61 2) + (-1500))) 61 3 ((μ.1 61 3) + 1500)
theorem gm_nobody0101 (d : Nat) (hd : 700 ≤ d) (μ : zM) (hH0 : a_H μ) (dl e : Nat) (hdl : μ.1 50 40 = nI dl) (hdl4 : dl < 4) (he : (dl + 1) % 4 = e) (w0 : Int64) (hw0 : ∀ M, SE μ M → a_H M → ∀ d, 699 ≤ d → z_C d mi_X7_waitsAt [.ref 50, .int 0] M (fun r W => r = some (.long w0) ∧ SMj M W ∧ a_H W)) (hb0 : decide (lg_cmp w0 0 = 0) = true) (w1 : Int64) (hw1 : ∀ M, SE μ M → a_H M → ∀ d, 699 ≤ d → z_C d mi_X7_waitsAt [.ref 50, .int 1] M (fun r W => r = some (.long w1) ∧ SMj M W ∧ a_H W)) (hb1 : decide (lg_cmp w1 0 = 0) = false) (w2 : Int64) (hw2 : ∀ M, SE μ M → a_H M → ∀ d, 699 ≤ d → z_C d mi_X7_waitsAt [.ref 50, .int 2] M (fun r W => r = some (.long w2) ∧ SMj M W ∧ a_H W)) (hb2 : decide (lg_cmp w2 0 = 0) = true) (w3 : Int64) (hw3 : ∀ M, SE μ M → a_H M → ∀ d, 699 ≤ d → z_C d mi_X7_waitsAt [.ref 50, .int 3] M (fun r W => r = some (.long w3) ∧ SMj M W ∧ a_H W)) (hb3 : decide (lg_cmp w3 0 = 0) = false) : z_C d mi_X7_nobodyWins [.ref 50] μ (fun r μ' => r = none ∧ SMj (eMB (nM0101 μ) (nbS false true false true dl) true dl e) μ') := by
  obtain ⟨d', rfl⟩ : ∃ d', d = d' + 1 := ⟨d - 1, by omega⟩
  intro Z hc hr
  refine ⟨rfl, ?_⟩
  have hH := zh_X7_nobodyWins
  refine z_rcs hc hH 9 (pc' := 17) (lv' := [(3, .int 0), (2, .ref 79), (1, .int 0), (0, .ref 50)]) (st' := [.int 0, .ref 50, .int 0, .ref 79]) (μ' := z_zero μ) (by rfl) ?_
  refine zq_call hc (z_cx_ok hH (by rfl)) (hw0 _ (SE_zr _) (a_H_zero hH0) d' (by omega)) (by decide +kernel) (fun r9 W0 hq => ?_)
  obtain ⟨rfl, hO0, hA0⟩ := hq
  show Z 1 20 [(3, .int 0), (2, .ref 79), (1, .int 0), (0, .ref 50)] [.long w0, .int 0, .ref 79] W0
  refine z_rcs hc hH 2 (pc' := 22) (lv' := [(3, .int 0), (2, .ref 79), (1, .int 0), (0, .ref 50)]) (st' := [.int (lg_cmp w0 0), .int 0, .ref 79]) (μ' := W0) (by rfl) ?_
  refine zq_if hc hH (by rfl) (tg := 29) (by rfl) (fun h1 => ?_) (fun h1 => ?_)
  · have h1 : (decide ((lg_cmp w0 0) = 0)) = true := decide_eq_true (cm_eq9.mp h1)
    refine z_rcs hc hH 1 (pc' := 30) (lv' := [(3, .int 0), (2, .ref 79), (1, .int 0), (0, .ref 50)]) (st' := [.int 0, .int 0, .ref 79]) (μ' := W0) (by rfl) ?_
    refine zq_bast hc hH (by rfl) 4 (by decide +kernel) (show vp_in (nI 0) 4 from vp_in_nI (by decide) (by decide)) (by decide) ?_
    rw [show (0 : Int32).toNatClampNeg = 0 from rfl]
    show Z 1 31 [(3, .int 0), (2, .ref 79), (1, .int 0), (0, .ref 50)] [] (z_ui W0 79 0 0)
    refine z_rcs hc hH 3 (pc' := 34) (lv' := [(3, .int 0), (2, .ref 79), (1, .int 0), (0, .ref 50)]) (st' := [.int 0, .ref 79, .int 0]) (μ' := z_ui W0 79 0 0) (by rfl) ?_
    refine zq_bald hc hH (by rfl) 4 (by decide +kernel) (show vp_in (nI 0) 4 from vp_in_nI (by decide) (by decide)) ?_
    rw [show (0 : Int32).toNatClampNeg = 0 from rfl]
    rw [ui_s]
    refine z_rcs hc hH 13 (pc' := 17) (lv' := [(3, .int 1), (1, .int 0), (2, .ref 79), (0, .ref 50)]) (st' := [.int 1, .ref 50, .int 1, .ref 79]) (μ' := z_ui W0 79 0 0) (by rfl) ?_
    refine zq_call hc (z_cx_ok hH (by rfl)) (hw1 _ (SE_ui (SE_sm (SE_zr _) hO0) (by omega)) (a_H_ui (r := 79) (k := 0) (hA0) ⟨by decide, by decide⟩) d' (by omega)) (by decide +kernel) (fun r9 W1 hq => ?_)
    obtain ⟨rfl, hO1, hA1⟩ := hq
    show Z 1 20 [(3, .int 1), (1, .int 0), (2, .ref 79), (0, .ref 50)] [.long w1, .int 1, .ref 79] W1
    refine z_rcs hc hH 2 (pc' := 22) (lv' := [(3, .int 1), (1, .int 0), (2, .ref 79), (0, .ref 50)]) (st' := [.int (lg_cmp w1 0), .int 1, .ref 79]) (μ' := W1) (by rfl) ?_
    refine zq_if hc hH (by rfl) (tg := 29) (by rfl) (fun h2 => ?_) (fun h2 => ?_)
    · have h2 : (decide ((lg_cmp w1 0) = 0)) = true := decide_eq_true (cm_eq9.mp h2)
      exact absurd (Eq.trans (Eq.symm (hb1)) h2) (by decide)
    · have h2 : (decide ((lg_cmp w1 0) = 0)) = false := decide_eq_false (cn_eq.mp h2)
      refine z_rcs hc hH 2 (pc' := 30) (lv' := [(3, .int 1), (1, .int 0), (2, .ref 79), (0, .ref 50)]) (st' := [.int 1, .int 1, .ref 79]) (μ' := W1) (by rfl) ?_
      refine zq_bast hc hH (by rfl) 4 (by decide +kernel) (show vp_in (nI 1) 4 from vp_in_nI (by decide) (by decide)) (by decide) ?_
      rw [show (1 : Int32).toNatClampNeg = 1 from rfl]
      show Z 1 31 [(3, .int 1), (1, .int 0), (2, .ref 79), (0, .ref 50)] [] (z_ui W1 79 1 1)
      refine z_rcs hc hH 3 (pc' := 34) (lv' := [(3, .int 1), (1, .int 0), (2, .ref 79), (0, .ref 50)]) (st' := [.int 1, .ref 79, .int 0]) (μ' := z_ui W1 79 1 1) (by rfl) ?_
      refine zq_bald hc hH (by rfl) 4 (by decide +kernel) (show vp_in (nI 1) 4 from vp_in_nI (by decide) (by decide)) ?_
      rw [show (1 : Int32).toNatClampNeg = 1 from rfl]
      rw [ui_s]
      refine z_rcs hc hH 14 (pc' := 17) (lv' := [(3, .int 2), (1, .int 1), (2, .ref 79), (0, .ref 50)]) (st' := [.int 2, .ref 50, .int 2, .ref 79]) (μ' := z_ui W1 79 1 1) (by rfl) ?_
      refine zq_call hc (z_cx_ok hH (by rfl)) (hw2 _ (SE_ui (SE_sm (SE_ui (SE_sm (SE_zr _) hO0) (by omega)) hO1) (by omega)) (a_H_ui (r := 79) (k := 1) (hA1) ⟨by decide, by decide⟩) d' (by omega)) (by decide +kernel) (fun r9 W2 hq => ?_)
      obtain ⟨rfl, hO2, hA2⟩ := hq
      show Z 1 20 [(3, .int 2), (1, .int 1), (2, .ref 79), (0, .ref 50)] [.long w2, .int 2, .ref 79] W2
      refine z_rcs hc hH 2 (pc' := 22) (lv' := [(3, .int 2), (1, .int 1), (2, .ref 79), (0, .ref 50)]) (st' := [.int (lg_cmp w2 0), .int 2, .ref 79]) (μ' := W2) (by rfl) ?_
      refine zq_if hc hH (by rfl) (tg := 29) (by rfl) (fun h3 => ?_) (fun h3 => ?_)
      · have h3 : (decide ((lg_cmp w2 0) = 0)) = true := decide_eq_true (cm_eq9.mp h3)
        refine z_rcs hc hH 1 (pc' := 30) (lv' := [(3, .int 2), (1, .int 1), (2, .ref 79), (0, .ref 50)]) (st' := [.int 0, .int 2, .ref 79]) (μ' := W2) (by rfl) ?_
        refine zq_bast hc hH (by rfl) 4 (by decide +kernel) (show vp_in (nI 2) 4 from vp_in_nI (by decide) (by decide)) (by decide) ?_
        rw [show (2 : Int32).toNatClampNeg = 2 from rfl]
        show Z 1 31 [(3, .int 2), (1, .int 1), (2, .ref 79), (0, .ref 50)] [] (z_ui W2 79 2 0)
        refine z_rcs hc hH 3 (pc' := 34) (lv' := [(3, .int 2), (1, .int 1), (2, .ref 79), (0, .ref 50)]) (st' := [.int 2, .ref 79, .int 1]) (μ' := z_ui W2 79 2 0) (by rfl) ?_
        refine zq_bald hc hH (by rfl) 4 (by decide +kernel) (show vp_in (nI 2) 4 from vp_in_nI (by decide) (by decide)) ?_
        rw [show (2 : Int32).toNatClampNeg = 2 from rfl]
        rw [ui_s]
        refine z_rcs hc hH 13 (pc' := 17) (lv' := [(3, .int 3), (1, .int 1), (2, .ref 79), (0, .ref 50)]) (st' := [.int 3, .ref 50, .int 3, .ref 79]) (μ' := z_ui W2 79 2 0) (by rfl) ?_
        refine zq_call hc (z_cx_ok hH (by rfl)) (hw3 _ (SE_ui (SE_sm (SE_ui (SE_sm (SE_ui (SE_sm (SE_zr _) hO0) (by omega)) hO1) (by omega)) hO2) (by omega)) (a_H_ui (r := 79) (k := 2) (hA2) ⟨by decide, by decide⟩) d' (by omega)) (by decide +kernel) (fun r9 W3 hq => ?_)
        obtain ⟨rfl, hO3, hA3⟩ := hq
        show Z 1 20 [(3, .int 3), (1, .int 1), (2, .ref 79), (0, .ref 50)] [.long w3, .int 3, .ref 79] W3
        refine z_rcs hc hH 2 (pc' := 22) (lv' := [(3, .int 3), (1, .int 1), (2, .ref 79), (0, .ref 50)]) (st' := [.int (lg_cmp w3 0), .int 3, .ref 79]) (μ' := W3) (by rfl) ?_
        refine zq_if hc hH (by rfl) (tg := 29) (by rfl) (fun h4 => ?_) (fun h4 => ?_)
        · have h4 : (decide ((lg_cmp w3 0) = 0)) = true := decide_eq_true (cm_eq9.mp h4)
          exact absurd (Eq.trans (Eq.symm (hb3)) h4) (by decide)
        · have h4 : (decide ((lg_cmp w3 0) = 0)) = false := decide_eq_false (cn_eq.mp h4)
          refine z_rcs hc hH 2 (pc' := 30) (lv' := [(3, .int 3), (1, .int 1), (2, .ref 79), (0, .ref 50)]) (st' := [.int 1, .int 3, .ref 79]) (μ' := W3) (by rfl) ?_
          refine zq_bast hc hH (by rfl) 4 (by decide +kernel) (show vp_in (nI 3) 4 from vp_in_nI (by decide) (by decide)) (by decide) ?_
          rw [show (3 : Int32).toNatClampNeg = 3 from rfl]
          show Z 1 31 [(3, .int 3), (1, .int 1), (2, .ref 79), (0, .ref 50)] [] (z_ui W3 79 3 1)
          refine z_rcs hc hH 3 (pc' := 34) (lv' := [(3, .int 3), (1, .int 1), (2, .ref 79), (0, .ref 50)]) (st' := [.int 3, .ref 79, .int 1]) (μ' := z_ui W3 79 3 1) (by rfl) ?_
          refine zq_bald hc hH (by rfl) 4 (by decide +kernel) (show vp_in (nI 3) 4 from vp_in_nI (by decide) (by decide)) ?_
          rw [show (3 : Int32).toNatClampNeg = 3 from rfl]
          rw [ui_s]
          refine z_rcs hc hH 21 (pc' := 68) (lv' := [(3, .int 0), (1, .int 2), (2, .ref 79), (0, .ref 50)]) (st' := [.ref 50]) (μ' := z_ui W3 79 3 1) (by rfl) ?_
          refine zq_gfr hc hH (by rfl) (ci := 6) (f := 29) (q := 61) (by rfl) (by decide +kernel) (by rfl) (by decide +kernel) ?_
          refine z_rcs hc hH 2 (pc' := 73) (lv' := [(3, .int 0), (1, .int 2), (2, .ref 79), (0, .ref 50)]) (st' := [.int 0, .ref 61, .int 0, .ref 61]) (μ' := z_ui W3 79 3 1) (by rfl) ?_
          refine zq_iald hc hH (by rfl) 4 (oka_i (by decide +kernel)) (show vp_in (nI 0) 4 from vp_in_nI (by decide) (by decide)) ?_
          rw [show (0 : Int32).toNatClampNeg = 0 from rfl]
          refine zV1 (Z := Z) (Eq.trans (ui_o (by first | decide | omega)) (Eq.trans (hO3 61 0 (by omega)).1 (Eq.trans (ui_o (by first | decide | omega)) (Eq.trans (hO2 61 0 (by omega)).1 (Eq.trans (ui_o (by first | decide | omega)) (Eq.trans (hO1 61 0 (by omega)).1 (Eq.trans (ui_o (by first | decide | omega)) (hO0 61 0 (by omega)).1))))))) ?_
          rw [z_zero_o (by decide)]
          refine z_rcs hc hH 2 (pc' := 76) (lv' := [(3, .int 0), (1, .int 2), (2, .ref 79), (0, .ref 50)]) (st' := [.int 0, .ref 79, .int (μ.1 61 0), .int 0, .ref 61]) (μ' := z_ui W3 79 3 1) (by rfl) ?_
          refine zq_bald hc hH (by rfl) 4 (by decide +kernel) (show vp_in (nI 0) 4 from vp_in_nI (by decide) (by decide)) ?_
          rw [show (0 : Int32).toNatClampNeg = 0 from rfl]
          refine zV1 (Z := Z) (Eq.trans (ui_k (by first | decide | omega)) (Eq.trans (hO3 79 0 (by omega)).1 (Eq.trans (ui_k (by first | decide | omega)) (Eq.trans (hO2 79 0 (by omega)).1 (Eq.trans (ui_k (by first | decide | omega)) (Eq.trans (hO1 79 0 (by omega)).1 (ui_s))))))) ?_
          refine z_rcs hc hH 7 (pc' := 96) (lv' := [(3, .int 0), (1, .int 2), (2, .ref 79), (0, .ref 50)]) (st' := [.int ((μ.1 61 0) + (-1500)), .int 0, .ref 61]) (μ' := z_ui W3 79 3 1) (by rfl) ?_
          refine zq_iast hc hH (by rfl) 4 (oka_i (by decide +kernel)).2 (show vp_in (nI 0) 4 from vp_in_nI (by decide) (by decide)) ?_
          rw [show (0 : Int32).toNatClampNeg = 0 from rfl]
          show Z 1 97 [(3, .int 0), (1, .int 2), (2, .ref 79), (0, .ref 50)] [] (z_ui (z_ui W3 79 3 1) 61 0 ((μ.1 61 0) + (-1500)))
          refine z_rcs0 hc hH 6 (pc' := 68) (lv' := [(3, .int 1), (1, .int 2), (2, .ref 79), (0, .ref 50)]) (st' := [.ref 50]) (by rfl) ?_
          refine zq_gfr hc hH (by rfl) (ci := 6) (f := 29) (q := 61) (by rfl) (by decide +kernel) (by rfl) (by decide +kernel) ?_
          refine z_rcs0 hc hH 2 (pc' := 73) (lv' := [(3, .int 1), (1, .int 2), (2, .ref 79), (0, .ref 50)]) (st' := [.int 1, .ref 61, .int 1, .ref 61]) (by rfl) ?_
          refine zq_iald hc hH (by rfl) 4 (oka_i (by decide +kernel)) (show vp_in (nI 1) 4 from vp_in_nI (by decide) (by decide)) ?_
          rw [show (1 : Int32).toNatClampNeg = 1 from rfl]
          refine zV1 (Z := Z) (Eq.trans (ui_k (by first | decide | omega)) (Eq.trans (ui_o (by first | decide | omega)) (Eq.trans (hO3 61 1 (by omega)).1 (Eq.trans (ui_o (by first | decide | omega)) (Eq.trans (hO2 61 1 (by omega)).1 (Eq.trans (ui_o (by first | decide | omega)) (Eq.trans (hO1 61 1 (by omega)).1 (Eq.trans (ui_o (by first | decide | omega)) (hO0 61 1 (by omega)).1)))))))) ?_
          rw [z_zero_o (by decide)]
          refine z_rcs0 hc hH 2 (pc' := 76) (lv' := [(3, .int 1), (1, .int 2), (2, .ref 79), (0, .ref 50)]) (st' := [.int 1, .ref 79, .int (μ.1 61 1), .int 1, .ref 61]) (by rfl) ?_
          refine zq_bald hc hH (by rfl) 4 (by decide +kernel) (show vp_in (nI 1) 4 from vp_in_nI (by decide) (by decide)) ?_
          rw [show (1 : Int32).toNatClampNeg = 1 from rfl]
          refine zV1 (Z := Z) (Eq.trans (ui_o (by first | decide | omega)) (Eq.trans (ui_k (by first | decide | omega)) (Eq.trans (hO3 79 1 (by omega)).1 (Eq.trans (ui_k (by first | decide | omega)) (Eq.trans (hO2 79 1 (by omega)).1 (ui_s)))))) ?_
          refine z_rcs0 hc hH 6 (pc' := 96) (lv' := [(3, .int 1), (1, .int 2), (2, .ref 79), (0, .ref 50)]) (st' := [.int ((μ.1 61 1) + 1500), .int 1, .ref 61]) (by rfl) ?_
          refine zq_iast hc hH (by rfl) 4 (oka_i (by decide +kernel)).2 (show vp_in (nI 1) 4 from vp_in_nI (by decide) (by decide)) ?_
          rw [show (1 : Int32).toNatClampNeg = 1 from rfl]
          show Z 1 97 [(3, .int 1), (1, .int 2), (2, .ref 79), (0, .ref 50)] [] (z_ui (z_ui (z_ui W3 79 3 1) 61 0 ((μ.1 61 0) + (-1500))) 61 1 ((μ.1 61 1) + 1500))
          refine z_rcs0 hc hH 6 (pc' := 68) (lv' := [(3, .int 2), (1, .int 2), (2, .ref 79), (0, .ref 50)]) (st' := [.ref 50]) (by rfl) ?_
          refine zq_gfr hc hH (by rfl) (ci := 6) (f := 29) (q := 61) (by rfl) (by decide +kernel) (by rfl) (by decide +kernel) ?_
          refine z_rcs0 hc hH 2 (pc' := 73) (lv' := [(3, .int 2), (1, .int 2), (2, .ref 79), (0, .ref 50)]) (st' := [.int 2, .ref 61, .int 2, .ref 61]) (by rfl) ?_
          refine zq_iald hc hH (by rfl) 4 (oka_i (by decide +kernel)) (show vp_in (nI 2) 4 from vp_in_nI (by decide) (by decide)) ?_
          rw [show (2 : Int32).toNatClampNeg = 2 from rfl]
          refine zV1 (Z := Z) (Eq.trans (ui_k (by first | decide | omega)) (Eq.trans (ui_k (by first | decide | omega)) (Eq.trans (ui_o (by first | decide | omega)) (Eq.trans (hO3 61 2 (by omega)).1 (Eq.trans (ui_o (by first | decide | omega)) (Eq.trans (hO2 61 2 (by omega)).1 (Eq.trans (ui_o (by first | decide | omega)) (Eq.trans (hO1 61 2 (by omega)).1 (Eq.trans (ui_o (by first | decide | omega)) (hO0 61 2 (by omega)).1))))))))) ?_
          rw [z_zero_o (by decide)]
          refine z_rcs0 hc hH 2 (pc' := 76) (lv' := [(3, .int 2), (1, .int 2), (2, .ref 79), (0, .ref 50)]) (st' := [.int 2, .ref 79, .int (μ.1 61 2), .int 2, .ref 61]) (by rfl) ?_
          refine zq_bald hc hH (by rfl) 4 (by decide +kernel) (show vp_in (nI 2) 4 from vp_in_nI (by decide) (by decide)) ?_
          rw [show (2 : Int32).toNatClampNeg = 2 from rfl]
          refine zV1 (Z := Z) (Eq.trans (ui_o (by first | decide | omega)) (Eq.trans (ui_o (by first | decide | omega)) (Eq.trans (ui_k (by first | decide | omega)) (Eq.trans (hO3 79 2 (by omega)).1 (ui_s))))) ?_
          refine z_rcs0 hc hH 7 (pc' := 96) (lv' := [(3, .int 2), (1, .int 2), (2, .ref 79), (0, .ref 50)]) (st' := [.int ((μ.1 61 2) + (-1500)), .int 2, .ref 61]) (by rfl) ?_
          refine zq_iast hc hH (by rfl) 4 (oka_i (by decide +kernel)).2 (show vp_in (nI 2) 4 from vp_in_nI (by decide) (by decide)) ?_
          rw [show (2 : Int32).toNatClampNeg = 2 from rfl]
          show Z 1 97 [(3, .int 2), (1, .int 2), (2, .ref 79), (0, .ref 50)] [] (z_ui (z_ui (z_ui (z_ui W3 79 3 1) 61 0 ((μ.1 61 0) + (-1500))) 61 1 ((μ.1 61 1) + 1500)) 61 2 ((μ.1 61 2) + (-1500)))
          refine z_rcs0 hc hH 6 (pc' := 68) (lv' := [(3, .int 3), (1, .int 2), (2, .ref 79), (0, .ref 50)]) (st' := [.ref 50]) (by rfl) ?_
          refine zq_gfr hc hH (by rfl) (ci := 6) (f := 29) (q := 61) (by rfl) (by decide +kernel) (by rfl) (by decide +kernel) ?_
          refine z_rcs0 hc hH 2 (pc' := 73) (lv' := [(3, .int 3), (1, .int 2), (2, .ref 79), (0, .ref 50)]) (st' := [.int 3, .ref 61, .int 3, .ref 61]) (by rfl) ?_
          refine zq_iald hc hH (by rfl) 4 (oka_i (by decide +kernel)) (show vp_in (nI 3) 4 from vp_in_nI (by decide) (by decide)) ?_
          rw [show (3 : Int32).toNatClampNeg = 3 from rfl]
          refine zV1 (Z := Z) (Eq.trans (ui_k (by first | decide | omega)) (Eq.trans (ui_k (by first | decide | omega)) (Eq.trans (ui_k (by first | decide | omega)) (Eq.trans (ui_o (by first | decide | omega)) (Eq.trans (hO3 61 3 (by omega)).1 (Eq.trans (ui_o (by first | decide | omega)) (Eq.trans (hO2 61 3 (by omega)).1 (Eq.trans (ui_o (by first | decide | omega)) (Eq.trans (hO1 61 3 (by omega)).1 (Eq.trans (ui_o (by first | decide | omega)) (hO0 61 3 (by omega)).1)))))))))) ?_
          rw [z_zero_o (by decide)]
          refine z_rcs0 hc hH 2 (pc' := 76) (lv' := [(3, .int 3), (1, .int 2), (2, .ref 79), (0, .ref 50)]) (st' := [.int 3, .ref 79, .int (μ.1 61 3), .int 3, .ref 61]) (by rfl) ?_
          refine zq_bald hc hH (by rfl) 4 (by decide +kernel) (show vp_in (nI 3) 4 from vp_in_nI (by decide) (by decide)) ?_
          rw [show (3 : Int32).toNatClampNeg = 3 from rfl]
          refine zV1 (Z := Z) (Eq.trans (ui_o (by first | decide | omega)) (Eq.trans (ui_o (by first | decide | omega)) (Eq.trans (ui_o (by first | decide | omega)) (ui_s)))) ?_
          refine z_rcs0 hc hH 6 (pc' := 96) (lv' := [(3, .int 3), (1, .int 2), (2, .ref 79), (0, .ref 50)]) (st' := [.int ((μ.1 61 3) + 1500), .int 3, .ref 61]) (by rfl) ?_
          refine zq_iast hc hH (by rfl) 4 (oka_i (by decide +kernel)).2 (show vp_in (nI 3) 4 from vp_in_nI (by decide) (by decide)) ?_
          rw [show (3 : Int32).toNatClampNeg = 3 from rfl]
          show Z 1 97 [(3, .int 3), (1, .int 2), (2, .ref 79), (0, .ref 50)] [] (z_ui (z_ui (z_ui (z_ui (z_ui W3 79 3 1) 61 0 ((μ.1 61 0) + (-1500))) 61 1 ((μ.1 61 1) + 1500)) 61 2 ((μ.1 61 2) + (-1500))) 61 3 ((μ.1 61 3) + 1500))
          refine z_rcs0 hc hH 5 (pc' := 103) (lv' := [(3, .int 4), (1, .int 2), (2, .ref 79), (0, .ref 50)]) (st' := []) (by rfl) ?_
          obtain rfl | rfl | rfl | rfl : dl = 0 ∨ dl = 1 ∨ dl = 2 ∨ dl = 3 := by omega
          · skip
            refine z_rcs0 hc hH 3 (pc' := 106) (lv' := [(3, .int 4), (1, .int 2), (2, .ref 79), (0, .ref 50)]) (st' := [.ref 50, .ref 79, .ref 50]) (by rfl) ?_
            refine zq_gfi hc hH (by rfl) (ci := 6) (f := 40) (by rfl) (by decide +kernel) (by rfl) ?_
            refine zV1 (Z := Z) (Eq.trans (ui_o (by first | decide | omega)) (Eq.trans (ui_o (by first | decide | omega)) (Eq.trans (ui_o (by first | decide | omega)) (Eq.trans (ui_o (by first | decide | omega)) (Eq.trans (ui_o (by first | decide | omega)) (Eq.trans (hO3 50 40 (by omega)).1 (Eq.trans (ui_o (by first | decide | omega)) (Eq.trans (hO2 50 40 (by omega)).1 (Eq.trans (ui_o (by first | decide | omega)) (Eq.trans (hO1 50 40 (by omega)).1 (Eq.trans (ui_o (by first | decide | omega)) (hO0 50 40 (by omega)).1))))))))))) ?_
            rw [(z_zero_o (by decide)).trans hdl]
            refine zq_bald hc hH (by rfl) 4 (by decide +kernel) (vp_in_nI (by omega) (by decide)) ?_
            rw [nI_clamp (by omega)]
            refine zV1 (Z := Z) (Eq.trans (ui_o (by first | decide | omega)) (Eq.trans (ui_o (by first | decide | omega)) (Eq.trans (ui_o (by first | decide | omega)) (Eq.trans (ui_o (by first | decide | omega)) (Eq.trans (ui_k (by first | decide | omega)) (Eq.trans (hO3 79 0 (by omega)).1 (Eq.trans (ui_k (by first | decide | omega)) (Eq.trans (hO2 79 0 (by omega)).1 (Eq.trans (ui_k (by first | decide | omega)) (Eq.trans (hO1 79 0 (by omega)).1 (ui_s))))))))))) ?_
            refine z_rcs0 hc hH 1 (pc' := 111) (lv' := [(3, .int 4), (1, .int 2), (2, .ref 79), (0, .ref 50)]) (st' := [.int 1, .int 0, .ref 50]) (by rfl) ?_
            refine zq_call hc (z_cx_ok hH (by rfl)) (gm_endsB d' (by omega) (z_ui (z_ui (z_ui (z_ui (z_ui W3 79 3 1) 61 0 ((μ.1 61 0) + (-1500))) 61 1 ((μ.1 61 1) + 1500)) 61 2 ((μ.1 61 2) + (-1500))) 61 3 ((μ.1 61 3) + 1500)) false true 0 e (by rw [ui_o (by first | decide | omega), ui_o (by first | decide | omega), ui_o (by first | decide | omega), ui_o (by first | decide | omega), ui_o (by first | decide | omega), (hO3 50 40 (by omega)).1, ui_o (by first | decide | omega), (hO2 50 40 (by omega)).1, ui_o (by first | decide | omega), (hO1 50 40 (by omega)).1, ui_o (by first | decide | omega), (hO0 50 40 (by omega)).1]; exact (z_zero_o (by decide)).trans hdl) hdl4 he) (by decide +kernel) (fun r9 μ9 hq => ?_)
            obtain ⟨hr9, hm9⟩ := hq
            rw [hr9, hm9]
            clear hr9 hm9
            show Z 1 114 [(3, .int 4), (1, .int 2), (2, .ref 79), (0, .ref 50)] [] (eMB (z_ui (z_ui (z_ui (z_ui (z_ui W3 79 3 1) 61 0 ((μ.1 61 0) + (-1500))) 61 1 ((μ.1 61 1) + 1500)) 61 2 ((μ.1 61 2) + (-1500))) 61 3 ((μ.1 61 3) + 1500)) false true 0 e)
            exact hr 1 114 _ _ _ none (by decide +kernel) (by rfl) (by refine ⟨rfl, ?_⟩; unfold nM0101; exact SM_eMB (SM_ui (SM_ui (SM_ui (SM_ui (SM_ui (SM_tr (SM_ui (SM_tr (SM_ui (SM_tr (SM_ui (SM_tr (SM_rf _) hO0)) hO1)) hO2)) hO3)))))))
          · skip
            refine z_rcs hc hH 3 (pc' := 106) (lv' := [(3, .int 4), (1, .int 2), (2, .ref 79), (0, .ref 50)]) (st' := [.ref 50, .ref 79, .ref 50]) (μ' := z_ui (z_ui (z_ui (z_ui (z_ui W3 79 3 1) 61 0 ((μ.1 61 0) + (-1500))) 61 1 ((μ.1 61 1) + 1500)) 61 2 ((μ.1 61 2) + (-1500))) 61 3 ((μ.1 61 3) + 1500)) (by rfl) ?_
            refine zq_gfi hc hH (by rfl) (ci := 6) (f := 40) (by rfl) (by decide +kernel) (by rfl) ?_
            refine zV1 (Z := Z) (Eq.trans (ui_o (by first | decide | omega)) (Eq.trans (ui_o (by first | decide | omega)) (Eq.trans (ui_o (by first | decide | omega)) (Eq.trans (ui_o (by first | decide | omega)) (Eq.trans (ui_o (by first | decide | omega)) (Eq.trans (hO3 50 40 (by omega)).1 (Eq.trans (ui_o (by first | decide | omega)) (Eq.trans (hO2 50 40 (by omega)).1 (Eq.trans (ui_o (by first | decide | omega)) (Eq.trans (hO1 50 40 (by omega)).1 (Eq.trans (ui_o (by first | decide | omega)) (hO0 50 40 (by omega)).1))))))))))) ?_
            rw [(z_zero_o (by decide)).trans hdl]
            refine zq_bald hc hH (by rfl) 4 (by decide +kernel) (vp_in_nI (by omega) (by decide)) ?_
            rw [nI_clamp (by omega)]
            refine zV1 (Z := Z) (Eq.trans (ui_o (by first | decide | omega)) (Eq.trans (ui_o (by first | decide | omega)) (Eq.trans (ui_o (by first | decide | omega)) (Eq.trans (ui_o (by first | decide | omega)) (Eq.trans (ui_k (by first | decide | omega)) (Eq.trans (hO3 79 1 (by omega)).1 (Eq.trans (ui_k (by first | decide | omega)) (Eq.trans (hO2 79 1 (by omega)).1 (ui_s))))))))) ?_
            refine z_rcs0 hc hH 1 (pc' := 111) (lv' := [(3, .int 4), (1, .int 2), (2, .ref 79), (0, .ref 50)]) (st' := [.int 1, .int 1, .ref 50]) (by rfl) ?_
            refine zq_call hc (z_cx_ok hH (by rfl)) (gm_endsB d' (by omega) (z_ui (z_ui (z_ui (z_ui (z_ui W3 79 3 1) 61 0 ((μ.1 61 0) + (-1500))) 61 1 ((μ.1 61 1) + 1500)) 61 2 ((μ.1 61 2) + (-1500))) 61 3 ((μ.1 61 3) + 1500)) true true 1 e (by rw [ui_o (by first | decide | omega), ui_o (by first | decide | omega), ui_o (by first | decide | omega), ui_o (by first | decide | omega), ui_o (by first | decide | omega), (hO3 50 40 (by omega)).1, ui_o (by first | decide | omega), (hO2 50 40 (by omega)).1, ui_o (by first | decide | omega), (hO1 50 40 (by omega)).1, ui_o (by first | decide | omega), (hO0 50 40 (by omega)).1]; exact (z_zero_o (by decide)).trans hdl) hdl4 he) (by decide +kernel) (fun r9 μ9 hq => ?_)
            obtain ⟨hr9, hm9⟩ := hq
            rw [hr9, hm9]
            clear hr9 hm9
            show Z 1 114 [(3, .int 4), (1, .int 2), (2, .ref 79), (0, .ref 50)] [] (eMB (z_ui (z_ui (z_ui (z_ui (z_ui W3 79 3 1) 61 0 ((μ.1 61 0) + (-1500))) 61 1 ((μ.1 61 1) + 1500)) 61 2 ((μ.1 61 2) + (-1500))) 61 3 ((μ.1 61 3) + 1500)) true true 1 e)
            exact hr 1 114 _ _ _ none (by decide +kernel) (by rfl) (by refine ⟨rfl, ?_⟩; unfold nM0101; exact SM_eMB (SM_ui (SM_ui (SM_ui (SM_ui (SM_ui (SM_tr (SM_ui (SM_tr (SM_ui (SM_tr (SM_ui (SM_tr (SM_rf _) hO0)) hO1)) hO2)) hO3)))))))
          · skip
            refine z_rcs hc hH 3 (pc' := 106) (lv' := [(3, .int 4), (1, .int 2), (2, .ref 79), (0, .ref 50)]) (st' := [.ref 50, .ref 79, .ref 50]) (μ' := z_ui (z_ui (z_ui (z_ui (z_ui W3 79 3 1) 61 0 ((μ.1 61 0) + (-1500))) 61 1 ((μ.1 61 1) + 1500)) 61 2 ((μ.1 61 2) + (-1500))) 61 3 ((μ.1 61 3) + 1500)) (by rfl) ?_
            refine zq_gfi hc hH (by rfl) (ci := 6) (f := 40) (by rfl) (by decide +kernel) (by rfl) ?_
            refine zV1 (Z := Z) (Eq.trans (ui_o (by first | decide | omega)) (Eq.trans (ui_o (by first | decide | omega)) (Eq.trans (ui_o (by first | decide | omega)) (Eq.trans (ui_o (by first | decide | omega)) (Eq.trans (ui_o (by first | decide | omega)) (Eq.trans (hO3 50 40 (by omega)).1 (Eq.trans (ui_o (by first | decide | omega)) (Eq.trans (hO2 50 40 (by omega)).1 (Eq.trans (ui_o (by first | decide | omega)) (Eq.trans (hO1 50 40 (by omega)).1 (Eq.trans (ui_o (by first | decide | omega)) (hO0 50 40 (by omega)).1))))))))))) ?_
            rw [(z_zero_o (by decide)).trans hdl]
            refine zq_bald hc hH (by rfl) 4 (by decide +kernel) (vp_in_nI (by omega) (by decide)) ?_
            rw [nI_clamp (by omega)]
            refine zV1 (Z := Z) (Eq.trans (ui_o (by first | decide | omega)) (Eq.trans (ui_o (by first | decide | omega)) (Eq.trans (ui_o (by first | decide | omega)) (Eq.trans (ui_o (by first | decide | omega)) (Eq.trans (ui_k (by first | decide | omega)) (Eq.trans (hO3 79 2 (by omega)).1 (ui_s))))))) ?_
            refine z_rcs0 hc hH 1 (pc' := 111) (lv' := [(3, .int 4), (1, .int 2), (2, .ref 79), (0, .ref 50)]) (st' := [.int 1, .int 0, .ref 50]) (by rfl) ?_
            refine zq_call hc (z_cx_ok hH (by rfl)) (gm_endsB d' (by omega) (z_ui (z_ui (z_ui (z_ui (z_ui W3 79 3 1) 61 0 ((μ.1 61 0) + (-1500))) 61 1 ((μ.1 61 1) + 1500)) 61 2 ((μ.1 61 2) + (-1500))) 61 3 ((μ.1 61 3) + 1500)) false true 2 e (by rw [ui_o (by first | decide | omega), ui_o (by first | decide | omega), ui_o (by first | decide | omega), ui_o (by first | decide | omega), ui_o (by first | decide | omega), (hO3 50 40 (by omega)).1, ui_o (by first | decide | omega), (hO2 50 40 (by omega)).1, ui_o (by first | decide | omega), (hO1 50 40 (by omega)).1, ui_o (by first | decide | omega), (hO0 50 40 (by omega)).1]; exact (z_zero_o (by decide)).trans hdl) hdl4 he) (by decide +kernel) (fun r9 μ9 hq => ?_)
            obtain ⟨hr9, hm9⟩ := hq
            rw [hr9, hm9]
            clear hr9 hm9
            show Z 1 114 [(3, .int 4), (1, .int 2), (2, .ref 79), (0, .ref 50)] [] (eMB (z_ui (z_ui (z_ui (z_ui (z_ui W3 79 3 1) 61 0 ((μ.1 61 0) + (-1500))) 61 1 ((μ.1 61 1) + 1500)) 61 2 ((μ.1 61 2) + (-1500))) 61 3 ((μ.1 61 3) + 1500)) false true 2 e)
            exact hr 1 114 _ _ _ none (by decide +kernel) (by rfl) (by refine ⟨rfl, ?_⟩; unfold nM0101; exact SM_eMB (SM_ui (SM_ui (SM_ui (SM_ui (SM_ui (SM_tr (SM_ui (SM_tr (SM_ui (SM_tr (SM_ui (SM_tr (SM_rf _) hO0)) hO1)) hO2)) hO3)))))))
          · skip
            refine z_rcs hc hH 3 (pc' := 106) (lv' := [(3, .int 4), (1, .int 2), (2, .ref 79), (0, .ref 50)]) (st' := [.ref 50, .ref 79, .ref 50]) (μ' := z_ui (z_ui (z_ui (z_ui (z_ui W3 79 3 1) 61 0 ((μ.1 61 0) + (-1500))) 61 1 ((μ.1 61 1) + 1500)) 61 2 ((μ.1 61 2) + (-1500))) 61 3 ((μ.1 61 3) + 1500)) (by rfl) ?_
            refine zq_gfi hc hH (by rfl) (ci := 6) (f := 40) (by rfl) (by decide +kernel) (by rfl) ?_
            refine zV1 (Z := Z) (Eq.trans (ui_o (by first | decide | omega)) (Eq.trans (ui_o (by first | decide | omega)) (Eq.trans (ui_o (by first | decide | omega)) (Eq.trans (ui_o (by first | decide | omega)) (Eq.trans (ui_o (by first | decide | omega)) (Eq.trans (hO3 50 40 (by omega)).1 (Eq.trans (ui_o (by first | decide | omega)) (Eq.trans (hO2 50 40 (by omega)).1 (Eq.trans (ui_o (by first | decide | omega)) (Eq.trans (hO1 50 40 (by omega)).1 (Eq.trans (ui_o (by first | decide | omega)) (hO0 50 40 (by omega)).1))))))))))) ?_
            rw [(z_zero_o (by decide)).trans hdl]
            refine zq_bald hc hH (by rfl) 4 (by decide +kernel) (vp_in_nI (by omega) (by decide)) ?_
            rw [nI_clamp (by omega)]
            refine zV1 (Z := Z) (Eq.trans (ui_o (by first | decide | omega)) (Eq.trans (ui_o (by first | decide | omega)) (Eq.trans (ui_o (by first | decide | omega)) (Eq.trans (ui_o (by first | decide | omega)) (ui_s))))) ?_
            refine z_rcs0 hc hH 1 (pc' := 111) (lv' := [(3, .int 4), (1, .int 2), (2, .ref 79), (0, .ref 50)]) (st' := [.int 1, .int 1, .ref 50]) (by rfl) ?_
            refine zq_call hc (z_cx_ok hH (by rfl)) (gm_endsB d' (by omega) (z_ui (z_ui (z_ui (z_ui (z_ui W3 79 3 1) 61 0 ((μ.1 61 0) + (-1500))) 61 1 ((μ.1 61 1) + 1500)) 61 2 ((μ.1 61 2) + (-1500))) 61 3 ((μ.1 61 3) + 1500)) true true 3 e (by rw [ui_o (by first | decide | omega), ui_o (by first | decide | omega), ui_o (by first | decide | omega), ui_o (by first | decide | omega), ui_o (by first | decide | omega), (hO3 50 40 (by omega)).1, ui_o (by first | decide | omega), (hO2 50 40 (by omega)).1, ui_o (by first | decide | omega), (hO1 50 40 (by omega)).1, ui_o (by first | decide | omega), (hO0 50 40 (by omega)).1]; exact (z_zero_o (by decide)).trans hdl) hdl4 he) (by decide +kernel) (fun r9 μ9 hq => ?_)
            obtain ⟨hr9, hm9⟩ := hq
            rw [hr9, hm9]
            clear hr9 hm9
            show Z 1 114 [(3, .int 4), (1, .int 2), (2, .ref 79), (0, .ref 50)] [] (eMB (z_ui (z_ui (z_ui (z_ui (z_ui W3 79 3 1) 61 0 ((μ.1 61 0) + (-1500))) 61 1 ((μ.1 61 1) + 1500)) 61 2 ((μ.1 61 2) + (-1500))) 61 3 ((μ.1 61 3) + 1500)) true true 3 e)
            exact hr 1 114 _ _ _ none (by decide +kernel) (by rfl) (by refine ⟨rfl, ?_⟩; unfold nM0101; exact SM_eMB (SM_ui (SM_ui (SM_ui (SM_ui (SM_ui (SM_tr (SM_ui (SM_tr (SM_ui (SM_tr (SM_ui (SM_tr (SM_rf _) hO0)) hO1)) hO2)) hO3)))))))
      · have h3 : (decide ((lg_cmp w2 0) = 0)) = false := decide_eq_false (cn_eq.mp h3)
        exact absurd (Eq.trans (Eq.symm (hb2)) h3) (by decide)
  · have h1 : (decide ((lg_cmp w0 0) = 0)) = false := decide_eq_false (cn_eq.mp h1)
    exact absurd (Eq.trans (Eq.symm (hb0)) h1) (by decide)
noncomputable def nM0110 (μ : zM) : zM := z_ui (z_ui (z_ui (z_ui (z_ui (z_ui (z_ui (z_ui (z_zero μ) 79 0 0) 79 1 1) 79 2 1) 79 3 0) 61 0 ((μ.1 61 0) + (-1500))) 61 1 ((μ.1 61 1) + 1500)) 61 2 ((μ.1 61 2) + 1500)) 61 3 ((μ.1 61 3) + (-1500))
theorem gm_nobody0110 (d : Nat) (hd : 700 ≤ d) (μ : zM) (hH0 : a_H μ) (dl e : Nat) (hdl : μ.1 50 40 = nI dl) (hdl4 : dl < 4) (he : (dl + 1) % 4 = e) (w0 : Int64) (hw0 : ∀ M, SE μ M → a_H M → ∀ d, 699 ≤ d → z_C d mi_X7_waitsAt [.ref 50, .int 0] M (fun r W => r = some (.long w0) ∧ SMj M W ∧ a_H W)) (hb0 : decide (lg_cmp w0 0 = 0) = true) (w1 : Int64) (hw1 : ∀ M, SE μ M → a_H M → ∀ d, 699 ≤ d → z_C d mi_X7_waitsAt [.ref 50, .int 1] M (fun r W => r = some (.long w1) ∧ SMj M W ∧ a_H W)) (hb1 : decide (lg_cmp w1 0 = 0) = false) (w2 : Int64) (hw2 : ∀ M, SE μ M → a_H M → ∀ d, 699 ≤ d → z_C d mi_X7_waitsAt [.ref 50, .int 2] M (fun r W => r = some (.long w2) ∧ SMj M W ∧ a_H W)) (hb2 : decide (lg_cmp w2 0 = 0) = false) (w3 : Int64) (hw3 : ∀ M, SE μ M → a_H M → ∀ d, 699 ≤ d → z_C d mi_X7_waitsAt [.ref 50, .int 3] M (fun r W => r = some (.long w3) ∧ SMj M W ∧ a_H W)) (hb3 : decide (lg_cmp w3 0 = 0) = true) : z_C d mi_X7_nobodyWins [.ref 50] μ (fun r μ' => r = none ∧ SMj (eMB (nM0110 μ) (nbS false true true false dl) true dl e) μ') := by
  obtain ⟨d', rfl⟩ : ∃ d', d = d' + 1 := ⟨d - 1, by omega⟩
  intro Z hc hr
  refine ⟨rfl, ?_⟩
  have hH := zh_X7_nobodyWins
  refine z_rcs hc hH 9 (pc' := 17) (lv' := [(3, .int 0), (2, .ref 79), (1, .int 0), (0, .ref 50)]) (st' := [.int 0, .ref 50, .int 0, .ref 79]) (μ' := z_zero μ) (by rfl) ?_
  refine zq_call hc (z_cx_ok hH (by rfl)) (hw0 _ (SE_zr _) (a_H_zero hH0) d' (by omega)) (by decide +kernel) (fun r9 W0 hq => ?_)
  obtain ⟨rfl, hO0, hA0⟩ := hq
  show Z 1 20 [(3, .int 0), (2, .ref 79), (1, .int 0), (0, .ref 50)] [.long w0, .int 0, .ref 79] W0
  refine z_rcs hc hH 2 (pc' := 22) (lv' := [(3, .int 0), (2, .ref 79), (1, .int 0), (0, .ref 50)]) (st' := [.int (lg_cmp w0 0), .int 0, .ref 79]) (μ' := W0) (by rfl) ?_
  refine zq_if hc hH (by rfl) (tg := 29) (by rfl) (fun h1 => ?_) (fun h1 => ?_)
  · have h1 : (decide ((lg_cmp w0 0) = 0)) = true := decide_eq_true (cm_eq9.mp h1)
    refine z_rcs hc hH 1 (pc' := 30) (lv' := [(3, .int 0), (2, .ref 79), (1, .int 0), (0, .ref 50)]) (st' := [.int 0, .int 0, .ref 79]) (μ' := W0) (by rfl) ?_
    refine zq_bast hc hH (by rfl) 4 (by decide +kernel) (show vp_in (nI 0) 4 from vp_in_nI (by decide) (by decide)) (by decide) ?_
    rw [show (0 : Int32).toNatClampNeg = 0 from rfl]
    show Z 1 31 [(3, .int 0), (2, .ref 79), (1, .int 0), (0, .ref 50)] [] (z_ui W0 79 0 0)
    refine z_rcs hc hH 3 (pc' := 34) (lv' := [(3, .int 0), (2, .ref 79), (1, .int 0), (0, .ref 50)]) (st' := [.int 0, .ref 79, .int 0]) (μ' := z_ui W0 79 0 0) (by rfl) ?_
    refine zq_bald hc hH (by rfl) 4 (by decide +kernel) (show vp_in (nI 0) 4 from vp_in_nI (by decide) (by decide)) ?_
    rw [show (0 : Int32).toNatClampNeg = 0 from rfl]
    rw [ui_s]
    refine z_rcs hc hH 13 (pc' := 17) (lv' := [(3, .int 1), (1, .int 0), (2, .ref 79), (0, .ref 50)]) (st' := [.int 1, .ref 50, .int 1, .ref 79]) (μ' := z_ui W0 79 0 0) (by rfl) ?_
    refine zq_call hc (z_cx_ok hH (by rfl)) (hw1 _ (SE_ui (SE_sm (SE_zr _) hO0) (by omega)) (a_H_ui (r := 79) (k := 0) (hA0) ⟨by decide, by decide⟩) d' (by omega)) (by decide +kernel) (fun r9 W1 hq => ?_)
    obtain ⟨rfl, hO1, hA1⟩ := hq
    show Z 1 20 [(3, .int 1), (1, .int 0), (2, .ref 79), (0, .ref 50)] [.long w1, .int 1, .ref 79] W1
    refine z_rcs hc hH 2 (pc' := 22) (lv' := [(3, .int 1), (1, .int 0), (2, .ref 79), (0, .ref 50)]) (st' := [.int (lg_cmp w1 0), .int 1, .ref 79]) (μ' := W1) (by rfl) ?_
    refine zq_if hc hH (by rfl) (tg := 29) (by rfl) (fun h2 => ?_) (fun h2 => ?_)
    · have h2 : (decide ((lg_cmp w1 0) = 0)) = true := decide_eq_true (cm_eq9.mp h2)
      exact absurd (Eq.trans (Eq.symm (hb1)) h2) (by decide)
    · have h2 : (decide ((lg_cmp w1 0) = 0)) = false := decide_eq_false (cn_eq.mp h2)
      refine z_rcs hc hH 2 (pc' := 30) (lv' := [(3, .int 1), (1, .int 0), (2, .ref 79), (0, .ref 50)]) (st' := [.int 1, .int 1, .ref 79]) (μ' := W1) (by rfl) ?_
      refine zq_bast hc hH (by rfl) 4 (by decide +kernel) (show vp_in (nI 1) 4 from vp_in_nI (by decide) (by decide)) (by decide) ?_
      rw [show (1 : Int32).toNatClampNeg = 1 from rfl]
      show Z 1 31 [(3, .int 1), (1, .int 0), (2, .ref 79), (0, .ref 50)] [] (z_ui W1 79 1 1)
      refine z_rcs hc hH 3 (pc' := 34) (lv' := [(3, .int 1), (1, .int 0), (2, .ref 79), (0, .ref 50)]) (st' := [.int 1, .ref 79, .int 0]) (μ' := z_ui W1 79 1 1) (by rfl) ?_
      refine zq_bald hc hH (by rfl) 4 (by decide +kernel) (show vp_in (nI 1) 4 from vp_in_nI (by decide) (by decide)) ?_
      rw [show (1 : Int32).toNatClampNeg = 1 from rfl]
      rw [ui_s]
      refine z_rcs hc hH 14 (pc' := 17) (lv' := [(3, .int 2), (1, .int 1), (2, .ref 79), (0, .ref 50)]) (st' := [.int 2, .ref 50, .int 2, .ref 79]) (μ' := z_ui W1 79 1 1) (by rfl) ?_
      refine zq_call hc (z_cx_ok hH (by rfl)) (hw2 _ (SE_ui (SE_sm (SE_ui (SE_sm (SE_zr _) hO0) (by omega)) hO1) (by omega)) (a_H_ui (r := 79) (k := 1) (hA1) ⟨by decide, by decide⟩) d' (by omega)) (by decide +kernel) (fun r9 W2 hq => ?_)
      obtain ⟨rfl, hO2, hA2⟩ := hq
      show Z 1 20 [(3, .int 2), (1, .int 1), (2, .ref 79), (0, .ref 50)] [.long w2, .int 2, .ref 79] W2
      refine z_rcs hc hH 2 (pc' := 22) (lv' := [(3, .int 2), (1, .int 1), (2, .ref 79), (0, .ref 50)]) (st' := [.int (lg_cmp w2 0), .int 2, .ref 79]) (μ' := W2) (by rfl) ?_
      refine zq_if hc hH (by rfl) (tg := 29) (by rfl) (fun h3 => ?_) (fun h3 => ?_)
      · have h3 : (decide ((lg_cmp w2 0) = 0)) = true := decide_eq_true (cm_eq9.mp h3)
        exact absurd (Eq.trans (Eq.symm (hb2)) h3) (by decide)
      · have h3 : (decide ((lg_cmp w2 0) = 0)) = false := decide_eq_false (cn_eq.mp h3)
        refine z_rcs hc hH 2 (pc' := 30) (lv' := [(3, .int 2), (1, .int 1), (2, .ref 79), (0, .ref 50)]) (st' := [.int 1, .int 2, .ref 79]) (μ' := W2) (by rfl) ?_
        refine zq_bast hc hH (by rfl) 4 (by decide +kernel) (show vp_in (nI 2) 4 from vp_in_nI (by decide) (by decide)) (by decide) ?_
        rw [show (2 : Int32).toNatClampNeg = 2 from rfl]
        show Z 1 31 [(3, .int 2), (1, .int 1), (2, .ref 79), (0, .ref 50)] [] (z_ui W2 79 2 1)
        refine z_rcs hc hH 3 (pc' := 34) (lv' := [(3, .int 2), (1, .int 1), (2, .ref 79), (0, .ref 50)]) (st' := [.int 2, .ref 79, .int 1]) (μ' := z_ui W2 79 2 1) (by rfl) ?_
        refine zq_bald hc hH (by rfl) 4 (by decide +kernel) (show vp_in (nI 2) 4 from vp_in_nI (by decide) (by decide)) ?_
        rw [show (2 : Int32).toNatClampNeg = 2 from rfl]
        rw [ui_s]
        refine z_rcs hc hH 14 (pc' := 17) (lv' := [(3, .int 3), (1, .int 2), (2, .ref 79), (0, .ref 50)]) (st' := [.int 3, .ref 50, .int 3, .ref 79]) (μ' := z_ui W2 79 2 1) (by rfl) ?_
        refine zq_call hc (z_cx_ok hH (by rfl)) (hw3 _ (SE_ui (SE_sm (SE_ui (SE_sm (SE_ui (SE_sm (SE_zr _) hO0) (by omega)) hO1) (by omega)) hO2) (by omega)) (a_H_ui (r := 79) (k := 2) (hA2) ⟨by decide, by decide⟩) d' (by omega)) (by decide +kernel) (fun r9 W3 hq => ?_)
        obtain ⟨rfl, hO3, hA3⟩ := hq
        show Z 1 20 [(3, .int 3), (1, .int 2), (2, .ref 79), (0, .ref 50)] [.long w3, .int 3, .ref 79] W3
        refine z_rcs hc hH 2 (pc' := 22) (lv' := [(3, .int 3), (1, .int 2), (2, .ref 79), (0, .ref 50)]) (st' := [.int (lg_cmp w3 0), .int 3, .ref 79]) (μ' := W3) (by rfl) ?_
        refine zq_if hc hH (by rfl) (tg := 29) (by rfl) (fun h4 => ?_) (fun h4 => ?_)
        · have h4 : (decide ((lg_cmp w3 0) = 0)) = true := decide_eq_true (cm_eq9.mp h4)
          refine z_rcs hc hH 1 (pc' := 30) (lv' := [(3, .int 3), (1, .int 2), (2, .ref 79), (0, .ref 50)]) (st' := [.int 0, .int 3, .ref 79]) (μ' := W3) (by rfl) ?_
          refine zq_bast hc hH (by rfl) 4 (by decide +kernel) (show vp_in (nI 3) 4 from vp_in_nI (by decide) (by decide)) (by decide) ?_
          rw [show (3 : Int32).toNatClampNeg = 3 from rfl]
          show Z 1 31 [(3, .int 3), (1, .int 2), (2, .ref 79), (0, .ref 50)] [] (z_ui W3 79 3 0)
          refine z_rcs hc hH 3 (pc' := 34) (lv' := [(3, .int 3), (1, .int 2), (2, .ref 79), (0, .ref 50)]) (st' := [.int 3, .ref 79, .int 2]) (μ' := z_ui W3 79 3 0) (by rfl) ?_
          refine zq_bald hc hH (by rfl) 4 (by decide +kernel) (show vp_in (nI 3) 4 from vp_in_nI (by decide) (by decide)) ?_
          rw [show (3 : Int32).toNatClampNeg = 3 from rfl]
          rw [ui_s]
          refine z_rcs hc hH 20 (pc' := 68) (lv' := [(3, .int 0), (1, .int 2), (2, .ref 79), (0, .ref 50)]) (st' := [.ref 50]) (μ' := z_ui W3 79 3 0) (by rfl) ?_
          refine zq_gfr hc hH (by rfl) (ci := 6) (f := 29) (q := 61) (by rfl) (by decide +kernel) (by rfl) (by decide +kernel) ?_
          refine z_rcs hc hH 2 (pc' := 73) (lv' := [(3, .int 0), (1, .int 2), (2, .ref 79), (0, .ref 50)]) (st' := [.int 0, .ref 61, .int 0, .ref 61]) (μ' := z_ui W3 79 3 0) (by rfl) ?_
          refine zq_iald hc hH (by rfl) 4 (oka_i (by decide +kernel)) (show vp_in (nI 0) 4 from vp_in_nI (by decide) (by decide)) ?_
          rw [show (0 : Int32).toNatClampNeg = 0 from rfl]
          refine zV1 (Z := Z) (Eq.trans (ui_o (by first | decide | omega)) (Eq.trans (hO3 61 0 (by omega)).1 (Eq.trans (ui_o (by first | decide | omega)) (Eq.trans (hO2 61 0 (by omega)).1 (Eq.trans (ui_o (by first | decide | omega)) (Eq.trans (hO1 61 0 (by omega)).1 (Eq.trans (ui_o (by first | decide | omega)) (hO0 61 0 (by omega)).1))))))) ?_
          rw [z_zero_o (by decide)]
          refine z_rcs hc hH 2 (pc' := 76) (lv' := [(3, .int 0), (1, .int 2), (2, .ref 79), (0, .ref 50)]) (st' := [.int 0, .ref 79, .int (μ.1 61 0), .int 0, .ref 61]) (μ' := z_ui W3 79 3 0) (by rfl) ?_
          refine zq_bald hc hH (by rfl) 4 (by decide +kernel) (show vp_in (nI 0) 4 from vp_in_nI (by decide) (by decide)) ?_
          rw [show (0 : Int32).toNatClampNeg = 0 from rfl]
          refine zV1 (Z := Z) (Eq.trans (ui_k (by first | decide | omega)) (Eq.trans (hO3 79 0 (by omega)).1 (Eq.trans (ui_k (by first | decide | omega)) (Eq.trans (hO2 79 0 (by omega)).1 (Eq.trans (ui_k (by first | decide | omega)) (Eq.trans (hO1 79 0 (by omega)).1 (ui_s))))))) ?_
          refine z_rcs hc hH 7 (pc' := 96) (lv' := [(3, .int 0), (1, .int 2), (2, .ref 79), (0, .ref 50)]) (st' := [.int ((μ.1 61 0) + (-1500)), .int 0, .ref 61]) (μ' := z_ui W3 79 3 0) (by rfl) ?_
          refine zq_iast hc hH (by rfl) 4 (oka_i (by decide +kernel)).2 (show vp_in (nI 0) 4 from vp_in_nI (by decide) (by decide)) ?_
          rw [show (0 : Int32).toNatClampNeg = 0 from rfl]
          show Z 1 97 [(3, .int 0), (1, .int 2), (2, .ref 79), (0, .ref 50)] [] (z_ui (z_ui W3 79 3 0) 61 0 ((μ.1 61 0) + (-1500)))
          refine z_rcs0 hc hH 6 (pc' := 68) (lv' := [(3, .int 1), (1, .int 2), (2, .ref 79), (0, .ref 50)]) (st' := [.ref 50]) (by rfl) ?_
          refine zq_gfr hc hH (by rfl) (ci := 6) (f := 29) (q := 61) (by rfl) (by decide +kernel) (by rfl) (by decide +kernel) ?_
          refine z_rcs0 hc hH 2 (pc' := 73) (lv' := [(3, .int 1), (1, .int 2), (2, .ref 79), (0, .ref 50)]) (st' := [.int 1, .ref 61, .int 1, .ref 61]) (by rfl) ?_
          refine zq_iald hc hH (by rfl) 4 (oka_i (by decide +kernel)) (show vp_in (nI 1) 4 from vp_in_nI (by decide) (by decide)) ?_
          rw [show (1 : Int32).toNatClampNeg = 1 from rfl]
          refine zV1 (Z := Z) (Eq.trans (ui_k (by first | decide | omega)) (Eq.trans (ui_o (by first | decide | omega)) (Eq.trans (hO3 61 1 (by omega)).1 (Eq.trans (ui_o (by first | decide | omega)) (Eq.trans (hO2 61 1 (by omega)).1 (Eq.trans (ui_o (by first | decide | omega)) (Eq.trans (hO1 61 1 (by omega)).1 (Eq.trans (ui_o (by first | decide | omega)) (hO0 61 1 (by omega)).1)))))))) ?_
          rw [z_zero_o (by decide)]
          refine z_rcs0 hc hH 2 (pc' := 76) (lv' := [(3, .int 1), (1, .int 2), (2, .ref 79), (0, .ref 50)]) (st' := [.int 1, .ref 79, .int (μ.1 61 1), .int 1, .ref 61]) (by rfl) ?_
          refine zq_bald hc hH (by rfl) 4 (by decide +kernel) (show vp_in (nI 1) 4 from vp_in_nI (by decide) (by decide)) ?_
          rw [show (1 : Int32).toNatClampNeg = 1 from rfl]
          refine zV1 (Z := Z) (Eq.trans (ui_o (by first | decide | omega)) (Eq.trans (ui_k (by first | decide | omega)) (Eq.trans (hO3 79 1 (by omega)).1 (Eq.trans (ui_k (by first | decide | omega)) (Eq.trans (hO2 79 1 (by omega)).1 (ui_s)))))) ?_
          refine z_rcs0 hc hH 6 (pc' := 96) (lv' := [(3, .int 1), (1, .int 2), (2, .ref 79), (0, .ref 50)]) (st' := [.int ((μ.1 61 1) + 1500), .int 1, .ref 61]) (by rfl) ?_
          refine zq_iast hc hH (by rfl) 4 (oka_i (by decide +kernel)).2 (show vp_in (nI 1) 4 from vp_in_nI (by decide) (by decide)) ?_
          rw [show (1 : Int32).toNatClampNeg = 1 from rfl]
          show Z 1 97 [(3, .int 1), (1, .int 2), (2, .ref 79), (0, .ref 50)] [] (z_ui (z_ui (z_ui W3 79 3 0) 61 0 ((μ.1 61 0) + (-1500))) 61 1 ((μ.1 61 1) + 1500))
          refine z_rcs0 hc hH 6 (pc' := 68) (lv' := [(3, .int 2), (1, .int 2), (2, .ref 79), (0, .ref 50)]) (st' := [.ref 50]) (by rfl) ?_
          refine zq_gfr hc hH (by rfl) (ci := 6) (f := 29) (q := 61) (by rfl) (by decide +kernel) (by rfl) (by decide +kernel) ?_
          refine z_rcs0 hc hH 2 (pc' := 73) (lv' := [(3, .int 2), (1, .int 2), (2, .ref 79), (0, .ref 50)]) (st' := [.int 2, .ref 61, .int 2, .ref 61]) (by rfl) ?_
          refine zq_iald hc hH (by rfl) 4 (oka_i (by decide +kernel)) (show vp_in (nI 2) 4 from vp_in_nI (by decide) (by decide)) ?_
          rw [show (2 : Int32).toNatClampNeg = 2 from rfl]
          refine zV1 (Z := Z) (Eq.trans (ui_k (by first | decide | omega)) (Eq.trans (ui_k (by first | decide | omega)) (Eq.trans (ui_o (by first | decide | omega)) (Eq.trans (hO3 61 2 (by omega)).1 (Eq.trans (ui_o (by first | decide | omega)) (Eq.trans (hO2 61 2 (by omega)).1 (Eq.trans (ui_o (by first | decide | omega)) (Eq.trans (hO1 61 2 (by omega)).1 (Eq.trans (ui_o (by first | decide | omega)) (hO0 61 2 (by omega)).1))))))))) ?_
          rw [z_zero_o (by decide)]
          refine z_rcs0 hc hH 2 (pc' := 76) (lv' := [(3, .int 2), (1, .int 2), (2, .ref 79), (0, .ref 50)]) (st' := [.int 2, .ref 79, .int (μ.1 61 2), .int 2, .ref 61]) (by rfl) ?_
          refine zq_bald hc hH (by rfl) 4 (by decide +kernel) (show vp_in (nI 2) 4 from vp_in_nI (by decide) (by decide)) ?_
          rw [show (2 : Int32).toNatClampNeg = 2 from rfl]
          refine zV1 (Z := Z) (Eq.trans (ui_o (by first | decide | omega)) (Eq.trans (ui_o (by first | decide | omega)) (Eq.trans (ui_k (by first | decide | omega)) (Eq.trans (hO3 79 2 (by omega)).1 (ui_s))))) ?_
          refine z_rcs0 hc hH 6 (pc' := 96) (lv' := [(3, .int 2), (1, .int 2), (2, .ref 79), (0, .ref 50)]) (st' := [.int ((μ.1 61 2) + 1500), .int 2, .ref 61]) (by rfl) ?_
          refine zq_iast hc hH (by rfl) 4 (oka_i (by decide +kernel)).2 (show vp_in (nI 2) 4 from vp_in_nI (by decide) (by decide)) ?_
          rw [show (2 : Int32).toNatClampNeg = 2 from rfl]
          show Z 1 97 [(3, .int 2), (1, .int 2), (2, .ref 79), (0, .ref 50)] [] (z_ui (z_ui (z_ui (z_ui W3 79 3 0) 61 0 ((μ.1 61 0) + (-1500))) 61 1 ((μ.1 61 1) + 1500)) 61 2 ((μ.1 61 2) + 1500))
          refine z_rcs0 hc hH 6 (pc' := 68) (lv' := [(3, .int 3), (1, .int 2), (2, .ref 79), (0, .ref 50)]) (st' := [.ref 50]) (by rfl) ?_
          refine zq_gfr hc hH (by rfl) (ci := 6) (f := 29) (q := 61) (by rfl) (by decide +kernel) (by rfl) (by decide +kernel) ?_
          refine z_rcs0 hc hH 2 (pc' := 73) (lv' := [(3, .int 3), (1, .int 2), (2, .ref 79), (0, .ref 50)]) (st' := [.int 3, .ref 61, .int 3, .ref 61]) (by rfl) ?_
          refine zq_iald hc hH (by rfl) 4 (oka_i (by decide +kernel)) (show vp_in (nI 3) 4 from vp_in_nI (by decide) (by decide)) ?_
          rw [show (3 : Int32).toNatClampNeg = 3 from rfl]
          refine zV1 (Z := Z) (Eq.trans (ui_k (by first | decide | omega)) (Eq.trans (ui_k (by first | decide | omega)) (Eq.trans (ui_k (by first | decide | omega)) (Eq.trans (ui_o (by first | decide | omega)) (Eq.trans (hO3 61 3 (by omega)).1 (Eq.trans (ui_o (by first | decide | omega)) (Eq.trans (hO2 61 3 (by omega)).1 (Eq.trans (ui_o (by first | decide | omega)) (Eq.trans (hO1 61 3 (by omega)).1 (Eq.trans (ui_o (by first | decide | omega)) (hO0 61 3 (by omega)).1)))))))))) ?_
          rw [z_zero_o (by decide)]
          refine z_rcs0 hc hH 2 (pc' := 76) (lv' := [(3, .int 3), (1, .int 2), (2, .ref 79), (0, .ref 50)]) (st' := [.int 3, .ref 79, .int (μ.1 61 3), .int 3, .ref 61]) (by rfl) ?_
          refine zq_bald hc hH (by rfl) 4 (by decide +kernel) (show vp_in (nI 3) 4 from vp_in_nI (by decide) (by decide)) ?_
          rw [show (3 : Int32).toNatClampNeg = 3 from rfl]
          refine zV1 (Z := Z) (Eq.trans (ui_o (by first | decide | omega)) (Eq.trans (ui_o (by first | decide | omega)) (Eq.trans (ui_o (by first | decide | omega)) (ui_s)))) ?_
          refine z_rcs0 hc hH 7 (pc' := 96) (lv' := [(3, .int 3), (1, .int 2), (2, .ref 79), (0, .ref 50)]) (st' := [.int ((μ.1 61 3) + (-1500)), .int 3, .ref 61]) (by rfl) ?_
          refine zq_iast hc hH (by rfl) 4 (oka_i (by decide +kernel)).2 (show vp_in (nI 3) 4 from vp_in_nI (by decide) (by decide)) ?_
          rw [show (3 : Int32).toNatClampNeg = 3 from rfl]
          show Z 1 97 [(3, .int 3), (1, .int 2), (2, .ref 79), (0, .ref 50)] [] (z_ui (z_ui (z_ui (z_ui (z_ui W3 79 3 0) 61 0 ((μ.1 61 0) + (-1500))) 61 1 ((μ.1 61 1) + 1500)) 61 2 ((μ.1 61 2) + 1500)) 61 3 ((μ.1 61 3) + (-1500)))
          refine z_rcs0 hc hH 5 (pc' := 103) (lv' := [(3, .int 4), (1, .int 2), (2, .ref 79), (0, .ref 50)]) (st' := []) (by rfl) ?_
          obtain rfl | rfl | rfl | rfl : dl = 0 ∨ dl = 1 ∨ dl = 2 ∨ dl = 3 := by omega
          · skip
            refine z_rcs0 hc hH 3 (pc' := 106) (lv' := [(3, .int 4), (1, .int 2), (2, .ref 79), (0, .ref 50)]) (st' := [.ref 50, .ref 79, .ref 50]) (by rfl) ?_
            refine zq_gfi hc hH (by rfl) (ci := 6) (f := 40) (by rfl) (by decide +kernel) (by rfl) ?_
            refine zV1 (Z := Z) (Eq.trans (ui_o (by first | decide | omega)) (Eq.trans (ui_o (by first | decide | omega)) (Eq.trans (ui_o (by first | decide | omega)) (Eq.trans (ui_o (by first | decide | omega)) (Eq.trans (ui_o (by first | decide | omega)) (Eq.trans (hO3 50 40 (by omega)).1 (Eq.trans (ui_o (by first | decide | omega)) (Eq.trans (hO2 50 40 (by omega)).1 (Eq.trans (ui_o (by first | decide | omega)) (Eq.trans (hO1 50 40 (by omega)).1 (Eq.trans (ui_o (by first | decide | omega)) (hO0 50 40 (by omega)).1))))))))))) ?_
            rw [(z_zero_o (by decide)).trans hdl]
            refine zq_bald hc hH (by rfl) 4 (by decide +kernel) (vp_in_nI (by omega) (by decide)) ?_
            rw [nI_clamp (by omega)]
            refine zV1 (Z := Z) (Eq.trans (ui_o (by first | decide | omega)) (Eq.trans (ui_o (by first | decide | omega)) (Eq.trans (ui_o (by first | decide | omega)) (Eq.trans (ui_o (by first | decide | omega)) (Eq.trans (ui_k (by first | decide | omega)) (Eq.trans (hO3 79 0 (by omega)).1 (Eq.trans (ui_k (by first | decide | omega)) (Eq.trans (hO2 79 0 (by omega)).1 (Eq.trans (ui_k (by first | decide | omega)) (Eq.trans (hO1 79 0 (by omega)).1 (ui_s))))))))))) ?_
            refine z_rcs0 hc hH 1 (pc' := 111) (lv' := [(3, .int 4), (1, .int 2), (2, .ref 79), (0, .ref 50)]) (st' := [.int 1, .int 0, .ref 50]) (by rfl) ?_
            refine zq_call hc (z_cx_ok hH (by rfl)) (gm_endsB d' (by omega) (z_ui (z_ui (z_ui (z_ui (z_ui W3 79 3 0) 61 0 ((μ.1 61 0) + (-1500))) 61 1 ((μ.1 61 1) + 1500)) 61 2 ((μ.1 61 2) + 1500)) 61 3 ((μ.1 61 3) + (-1500))) false true 0 e (by rw [ui_o (by first | decide | omega), ui_o (by first | decide | omega), ui_o (by first | decide | omega), ui_o (by first | decide | omega), ui_o (by first | decide | omega), (hO3 50 40 (by omega)).1, ui_o (by first | decide | omega), (hO2 50 40 (by omega)).1, ui_o (by first | decide | omega), (hO1 50 40 (by omega)).1, ui_o (by first | decide | omega), (hO0 50 40 (by omega)).1]; exact (z_zero_o (by decide)).trans hdl) hdl4 he) (by decide +kernel) (fun r9 μ9 hq => ?_)
            obtain ⟨hr9, hm9⟩ := hq
            rw [hr9, hm9]
            clear hr9 hm9
            show Z 1 114 [(3, .int 4), (1, .int 2), (2, .ref 79), (0, .ref 50)] [] (eMB (z_ui (z_ui (z_ui (z_ui (z_ui W3 79 3 0) 61 0 ((μ.1 61 0) + (-1500))) 61 1 ((μ.1 61 1) + 1500)) 61 2 ((μ.1 61 2) + 1500)) 61 3 ((μ.1 61 3) + (-1500))) false true 0 e)
            exact hr 1 114 _ _ _ none (by decide +kernel) (by rfl) (by refine ⟨rfl, ?_⟩; unfold nM0110; exact SM_eMB (SM_ui (SM_ui (SM_ui (SM_ui (SM_ui (SM_tr (SM_ui (SM_tr (SM_ui (SM_tr (SM_ui (SM_tr (SM_rf _) hO0)) hO1)) hO2)) hO3)))))))
          · skip
            refine z_rcs hc hH 3 (pc' := 106) (lv' := [(3, .int 4), (1, .int 2), (2, .ref 79), (0, .ref 50)]) (st' := [.ref 50, .ref 79, .ref 50]) (μ' := z_ui (z_ui (z_ui (z_ui (z_ui W3 79 3 0) 61 0 ((μ.1 61 0) + (-1500))) 61 1 ((μ.1 61 1) + 1500)) 61 2 ((μ.1 61 2) + 1500)) 61 3 ((μ.1 61 3) + (-1500))) (by rfl) ?_
            refine zq_gfi hc hH (by rfl) (ci := 6) (f := 40) (by rfl) (by decide +kernel) (by rfl) ?_
            refine zV1 (Z := Z) (Eq.trans (ui_o (by first | decide | omega)) (Eq.trans (ui_o (by first | decide | omega)) (Eq.trans (ui_o (by first | decide | omega)) (Eq.trans (ui_o (by first | decide | omega)) (Eq.trans (ui_o (by first | decide | omega)) (Eq.trans (hO3 50 40 (by omega)).1 (Eq.trans (ui_o (by first | decide | omega)) (Eq.trans (hO2 50 40 (by omega)).1 (Eq.trans (ui_o (by first | decide | omega)) (Eq.trans (hO1 50 40 (by omega)).1 (Eq.trans (ui_o (by first | decide | omega)) (hO0 50 40 (by omega)).1))))))))))) ?_
            rw [(z_zero_o (by decide)).trans hdl]
            refine zq_bald hc hH (by rfl) 4 (by decide +kernel) (vp_in_nI (by omega) (by decide)) ?_
            rw [nI_clamp (by omega)]
            refine zV1 (Z := Z) (Eq.trans (ui_o (by first | decide | omega)) (Eq.trans (ui_o (by first | decide | omega)) (Eq.trans (ui_o (by first | decide | omega)) (Eq.trans (ui_o (by first | decide | omega)) (Eq.trans (ui_k (by first | decide | omega)) (Eq.trans (hO3 79 1 (by omega)).1 (Eq.trans (ui_k (by first | decide | omega)) (Eq.trans (hO2 79 1 (by omega)).1 (ui_s))))))))) ?_
            refine z_rcs0 hc hH 1 (pc' := 111) (lv' := [(3, .int 4), (1, .int 2), (2, .ref 79), (0, .ref 50)]) (st' := [.int 1, .int 1, .ref 50]) (by rfl) ?_
            refine zq_call hc (z_cx_ok hH (by rfl)) (gm_endsB d' (by omega) (z_ui (z_ui (z_ui (z_ui (z_ui W3 79 3 0) 61 0 ((μ.1 61 0) + (-1500))) 61 1 ((μ.1 61 1) + 1500)) 61 2 ((μ.1 61 2) + 1500)) 61 3 ((μ.1 61 3) + (-1500))) true true 1 e (by rw [ui_o (by first | decide | omega), ui_o (by first | decide | omega), ui_o (by first | decide | omega), ui_o (by first | decide | omega), ui_o (by first | decide | omega), (hO3 50 40 (by omega)).1, ui_o (by first | decide | omega), (hO2 50 40 (by omega)).1, ui_o (by first | decide | omega), (hO1 50 40 (by omega)).1, ui_o (by first | decide | omega), (hO0 50 40 (by omega)).1]; exact (z_zero_o (by decide)).trans hdl) hdl4 he) (by decide +kernel) (fun r9 μ9 hq => ?_)
            obtain ⟨hr9, hm9⟩ := hq
            rw [hr9, hm9]
            clear hr9 hm9
            show Z 1 114 [(3, .int 4), (1, .int 2), (2, .ref 79), (0, .ref 50)] [] (eMB (z_ui (z_ui (z_ui (z_ui (z_ui W3 79 3 0) 61 0 ((μ.1 61 0) + (-1500))) 61 1 ((μ.1 61 1) + 1500)) 61 2 ((μ.1 61 2) + 1500)) 61 3 ((μ.1 61 3) + (-1500))) true true 1 e)
            exact hr 1 114 _ _ _ none (by decide +kernel) (by rfl) (by refine ⟨rfl, ?_⟩; unfold nM0110; exact SM_eMB (SM_ui (SM_ui (SM_ui (SM_ui (SM_ui (SM_tr (SM_ui (SM_tr (SM_ui (SM_tr (SM_ui (SM_tr (SM_rf _) hO0)) hO1)) hO2)) hO3)))))))
          · skip
            refine z_rcs hc hH 3 (pc' := 106) (lv' := [(3, .int 4), (1, .int 2), (2, .ref 79), (0, .ref 50)]) (st' := [.ref 50, .ref 79, .ref 50]) (μ' := z_ui (z_ui (z_ui (z_ui (z_ui W3 79 3 0) 61 0 ((μ.1 61 0) + (-1500))) 61 1 ((μ.1 61 1) + 1500)) 61 2 ((μ.1 61 2) + 1500)) 61 3 ((μ.1 61 3) + (-1500))) (by rfl) ?_
            refine zq_gfi hc hH (by rfl) (ci := 6) (f := 40) (by rfl) (by decide +kernel) (by rfl) ?_
            refine zV1 (Z := Z) (Eq.trans (ui_o (by first | decide | omega)) (Eq.trans (ui_o (by first | decide | omega)) (Eq.trans (ui_o (by first | decide | omega)) (Eq.trans (ui_o (by first | decide | omega)) (Eq.trans (ui_o (by first | decide | omega)) (Eq.trans (hO3 50 40 (by omega)).1 (Eq.trans (ui_o (by first | decide | omega)) (Eq.trans (hO2 50 40 (by omega)).1 (Eq.trans (ui_o (by first | decide | omega)) (Eq.trans (hO1 50 40 (by omega)).1 (Eq.trans (ui_o (by first | decide | omega)) (hO0 50 40 (by omega)).1))))))))))) ?_
            rw [(z_zero_o (by decide)).trans hdl]
            refine zq_bald hc hH (by rfl) 4 (by decide +kernel) (vp_in_nI (by omega) (by decide)) ?_
            rw [nI_clamp (by omega)]
            refine zV1 (Z := Z) (Eq.trans (ui_o (by first | decide | omega)) (Eq.trans (ui_o (by first | decide | omega)) (Eq.trans (ui_o (by first | decide | omega)) (Eq.trans (ui_o (by first | decide | omega)) (Eq.trans (ui_k (by first | decide | omega)) (Eq.trans (hO3 79 2 (by omega)).1 (ui_s))))))) ?_
            refine z_rcs0 hc hH 1 (pc' := 111) (lv' := [(3, .int 4), (1, .int 2), (2, .ref 79), (0, .ref 50)]) (st' := [.int 1, .int 1, .ref 50]) (by rfl) ?_
            refine zq_call hc (z_cx_ok hH (by rfl)) (gm_endsB d' (by omega) (z_ui (z_ui (z_ui (z_ui (z_ui W3 79 3 0) 61 0 ((μ.1 61 0) + (-1500))) 61 1 ((μ.1 61 1) + 1500)) 61 2 ((μ.1 61 2) + 1500)) 61 3 ((μ.1 61 3) + (-1500))) true true 2 e (by rw [ui_o (by first | decide | omega), ui_o (by first | decide | omega), ui_o (by first | decide | omega), ui_o (by first | decide | omega), ui_o (by first | decide | omega), (hO3 50 40 (by omega)).1, ui_o (by first | decide | omega), (hO2 50 40 (by omega)).1, ui_o (by first | decide | omega), (hO1 50 40 (by omega)).1, ui_o (by first | decide | omega), (hO0 50 40 (by omega)).1]; exact (z_zero_o (by decide)).trans hdl) hdl4 he) (by decide +kernel) (fun r9 μ9 hq => ?_)
            obtain ⟨hr9, hm9⟩ := hq
            rw [hr9, hm9]
            clear hr9 hm9
            show Z 1 114 [(3, .int 4), (1, .int 2), (2, .ref 79), (0, .ref 50)] [] (eMB (z_ui (z_ui (z_ui (z_ui (z_ui W3 79 3 0) 61 0 ((μ.1 61 0) + (-1500))) 61 1 ((μ.1 61 1) + 1500)) 61 2 ((μ.1 61 2) + 1500)) 61 3 ((μ.1 61 3) + (-1500))) true true 2 e)
            exact hr 1 114 _ _ _ none (by decide +kernel) (by rfl) (by refine ⟨rfl, ?_⟩; unfold nM0110; exact SM_eMB (SM_ui (SM_ui (SM_ui (SM_ui (SM_ui (SM_tr (SM_ui (SM_tr (SM_ui (SM_tr (SM_ui (SM_tr (SM_rf _) hO0)) hO1)) hO2)) hO3)))))))
          · skip
            refine z_rcs hc hH 3 (pc' := 106) (lv' := [(3, .int 4), (1, .int 2), (2, .ref 79), (0, .ref 50)]) (st' := [.ref 50, .ref 79, .ref 50]) (μ' := z_ui (z_ui (z_ui (z_ui (z_ui W3 79 3 0) 61 0 ((μ.1 61 0) + (-1500))) 61 1 ((μ.1 61 1) + 1500)) 61 2 ((μ.1 61 2) + 1500)) 61 3 ((μ.1 61 3) + (-1500))) (by rfl) ?_
            refine zq_gfi hc hH (by rfl) (ci := 6) (f := 40) (by rfl) (by decide +kernel) (by rfl) ?_
            refine zV1 (Z := Z) (Eq.trans (ui_o (by first | decide | omega)) (Eq.trans (ui_o (by first | decide | omega)) (Eq.trans (ui_o (by first | decide | omega)) (Eq.trans (ui_o (by first | decide | omega)) (Eq.trans (ui_o (by first | decide | omega)) (Eq.trans (hO3 50 40 (by omega)).1 (Eq.trans (ui_o (by first | decide | omega)) (Eq.trans (hO2 50 40 (by omega)).1 (Eq.trans (ui_o (by first | decide | omega)) (Eq.trans (hO1 50 40 (by omega)).1 (Eq.trans (ui_o (by first | decide | omega)) (hO0 50 40 (by omega)).1))))))))))) ?_
            rw [(z_zero_o (by decide)).trans hdl]
            refine zq_bald hc hH (by rfl) 4 (by decide +kernel) (vp_in_nI (by omega) (by decide)) ?_
            rw [nI_clamp (by omega)]
            refine zV1 (Z := Z) (Eq.trans (ui_o (by first | decide | omega)) (Eq.trans (ui_o (by first | decide | omega)) (Eq.trans (ui_o (by first | decide | omega)) (Eq.trans (ui_o (by first | decide | omega)) (ui_s))))) ?_
            refine z_rcs0 hc hH 1 (pc' := 111) (lv' := [(3, .int 4), (1, .int 2), (2, .ref 79), (0, .ref 50)]) (st' := [.int 1, .int 0, .ref 50]) (by rfl) ?_
            refine zq_call hc (z_cx_ok hH (by rfl)) (gm_endsB d' (by omega) (z_ui (z_ui (z_ui (z_ui (z_ui W3 79 3 0) 61 0 ((μ.1 61 0) + (-1500))) 61 1 ((μ.1 61 1) + 1500)) 61 2 ((μ.1 61 2) + 1500)) 61 3 ((μ.1 61 3) + (-1500))) false true 3 e (by rw [ui_o (by first | decide | omega), ui_o (by first | decide | omega), ui_o (by first | decide | omega), ui_o (by first | decide | omega), ui_o (by first | decide | omega), (hO3 50 40 (by omega)).1, ui_o (by first | decide | omega), (hO2 50 40 (by omega)).1, ui_o (by first | decide | omega), (hO1 50 40 (by omega)).1, ui_o (by first | decide | omega), (hO0 50 40 (by omega)).1]; exact (z_zero_o (by decide)).trans hdl) hdl4 he) (by decide +kernel) (fun r9 μ9 hq => ?_)
            obtain ⟨hr9, hm9⟩ := hq
            rw [hr9, hm9]
            clear hr9 hm9
            show Z 1 114 [(3, .int 4), (1, .int 2), (2, .ref 79), (0, .ref 50)] [] (eMB (z_ui (z_ui (z_ui (z_ui (z_ui W3 79 3 0) 61 0 ((μ.1 61 0) + (-1500))) 61 1 ((μ.1 61 1) + 1500)) 61 2 ((μ.1 61 2) + 1500)) 61 3 ((μ.1 61 3) + (-1500))) false true 3 e)
            exact hr 1 114 _ _ _ none (by decide +kernel) (by rfl) (by refine ⟨rfl, ?_⟩; unfold nM0110; exact SM_eMB (SM_ui (SM_ui (SM_ui (SM_ui (SM_ui (SM_tr (SM_ui (SM_tr (SM_ui (SM_tr (SM_ui (SM_tr (SM_rf _) hO0)) hO1)) hO2)) hO3)))))))
        · have h4 : (decide ((lg_cmp w3 0) = 0)) = false := decide_eq_false (cn_eq.mp h4)
          exact absurd (Eq.trans (Eq.symm (hb3)) h4) (by decide)
  · have h1 : (decide ((lg_cmp w0 0) = 0)) = false := decide_eq_false (cn_eq.mp h1)
    exact absurd (Eq.trans (Eq.symm (hb0)) h1) (by decide)
noncomputable def nM0111 (μ : zM) : zM := z_ui (z_ui (z_ui (z_ui (z_ui (z_ui (z_ui (z_ui (z_zero μ) 79 0 0) 79 1 1) 79 2 1) 79 3 1) 61 0 ((μ.1 61 0) + (-3000))) 61 1 ((μ.1 61 1) + 1000)) 61 2 ((μ.1 61 2) + 1000)) 61 3 ((μ.1 61 3) + 1000)
theorem gm_nobody0111 (d : Nat) (hd : 700 ≤ d) (μ : zM) (hH0 : a_H μ) (dl e : Nat) (hdl : μ.1 50 40 = nI dl) (hdl4 : dl < 4) (he : (dl + 1) % 4 = e) (w0 : Int64) (hw0 : ∀ M, SE μ M → a_H M → ∀ d, 699 ≤ d → z_C d mi_X7_waitsAt [.ref 50, .int 0] M (fun r W => r = some (.long w0) ∧ SMj M W ∧ a_H W)) (hb0 : decide (lg_cmp w0 0 = 0) = true) (w1 : Int64) (hw1 : ∀ M, SE μ M → a_H M → ∀ d, 699 ≤ d → z_C d mi_X7_waitsAt [.ref 50, .int 1] M (fun r W => r = some (.long w1) ∧ SMj M W ∧ a_H W)) (hb1 : decide (lg_cmp w1 0 = 0) = false) (w2 : Int64) (hw2 : ∀ M, SE μ M → a_H M → ∀ d, 699 ≤ d → z_C d mi_X7_waitsAt [.ref 50, .int 2] M (fun r W => r = some (.long w2) ∧ SMj M W ∧ a_H W)) (hb2 : decide (lg_cmp w2 0 = 0) = false) (w3 : Int64) (hw3 : ∀ M, SE μ M → a_H M → ∀ d, 699 ≤ d → z_C d mi_X7_waitsAt [.ref 50, .int 3] M (fun r W => r = some (.long w3) ∧ SMj M W ∧ a_H W)) (hb3 : decide (lg_cmp w3 0 = 0) = false) : z_C d mi_X7_nobodyWins [.ref 50] μ (fun r μ' => r = none ∧ SMj (eMB (nM0111 μ) (nbS false true true true dl) true dl e) μ') := by
  obtain ⟨d', rfl⟩ : ∃ d', d = d' + 1 := ⟨d - 1, by omega⟩
  intro Z hc hr
  refine ⟨rfl, ?_⟩
  have hH := zh_X7_nobodyWins
  refine z_rcs hc hH 9 (pc' := 17) (lv' := [(3, .int 0), (2, .ref 79), (1, .int 0), (0, .ref 50)]) (st' := [.int 0, .ref 50, .int 0, .ref 79]) (μ' := z_zero μ) (by rfl) ?_
  refine zq_call hc (z_cx_ok hH (by rfl)) (hw0 _ (SE_zr _) (a_H_zero hH0) d' (by omega)) (by decide +kernel) (fun r9 W0 hq => ?_)
  obtain ⟨rfl, hO0, hA0⟩ := hq
  show Z 1 20 [(3, .int 0), (2, .ref 79), (1, .int 0), (0, .ref 50)] [.long w0, .int 0, .ref 79] W0
  refine z_rcs hc hH 2 (pc' := 22) (lv' := [(3, .int 0), (2, .ref 79), (1, .int 0), (0, .ref 50)]) (st' := [.int (lg_cmp w0 0), .int 0, .ref 79]) (μ' := W0) (by rfl) ?_
  refine zq_if hc hH (by rfl) (tg := 29) (by rfl) (fun h1 => ?_) (fun h1 => ?_)
  · have h1 : (decide ((lg_cmp w0 0) = 0)) = true := decide_eq_true (cm_eq9.mp h1)
    refine z_rcs hc hH 1 (pc' := 30) (lv' := [(3, .int 0), (2, .ref 79), (1, .int 0), (0, .ref 50)]) (st' := [.int 0, .int 0, .ref 79]) (μ' := W0) (by rfl) ?_
    refine zq_bast hc hH (by rfl) 4 (by decide +kernel) (show vp_in (nI 0) 4 from vp_in_nI (by decide) (by decide)) (by decide) ?_
    rw [show (0 : Int32).toNatClampNeg = 0 from rfl]
    show Z 1 31 [(3, .int 0), (2, .ref 79), (1, .int 0), (0, .ref 50)] [] (z_ui W0 79 0 0)
    refine z_rcs hc hH 3 (pc' := 34) (lv' := [(3, .int 0), (2, .ref 79), (1, .int 0), (0, .ref 50)]) (st' := [.int 0, .ref 79, .int 0]) (μ' := z_ui W0 79 0 0) (by rfl) ?_
    refine zq_bald hc hH (by rfl) 4 (by decide +kernel) (show vp_in (nI 0) 4 from vp_in_nI (by decide) (by decide)) ?_
    rw [show (0 : Int32).toNatClampNeg = 0 from rfl]
    rw [ui_s]
    refine z_rcs hc hH 13 (pc' := 17) (lv' := [(3, .int 1), (1, .int 0), (2, .ref 79), (0, .ref 50)]) (st' := [.int 1, .ref 50, .int 1, .ref 79]) (μ' := z_ui W0 79 0 0) (by rfl) ?_
    refine zq_call hc (z_cx_ok hH (by rfl)) (hw1 _ (SE_ui (SE_sm (SE_zr _) hO0) (by omega)) (a_H_ui (r := 79) (k := 0) (hA0) ⟨by decide, by decide⟩) d' (by omega)) (by decide +kernel) (fun r9 W1 hq => ?_)
    obtain ⟨rfl, hO1, hA1⟩ := hq
    show Z 1 20 [(3, .int 1), (1, .int 0), (2, .ref 79), (0, .ref 50)] [.long w1, .int 1, .ref 79] W1
    refine z_rcs hc hH 2 (pc' := 22) (lv' := [(3, .int 1), (1, .int 0), (2, .ref 79), (0, .ref 50)]) (st' := [.int (lg_cmp w1 0), .int 1, .ref 79]) (μ' := W1) (by rfl) ?_
    refine zq_if hc hH (by rfl) (tg := 29) (by rfl) (fun h2 => ?_) (fun h2 => ?_)
    · have h2 : (decide ((lg_cmp w1 0) = 0)) = true := decide_eq_true (cm_eq9.mp h2)
      exact absurd (Eq.trans (Eq.symm (hb1)) h2) (by decide)
    · have h2 : (decide ((lg_cmp w1 0) = 0)) = false := decide_eq_false (cn_eq.mp h2)
      refine z_rcs hc hH 2 (pc' := 30) (lv' := [(3, .int 1), (1, .int 0), (2, .ref 79), (0, .ref 50)]) (st' := [.int 1, .int 1, .ref 79]) (μ' := W1) (by rfl) ?_
      refine zq_bast hc hH (by rfl) 4 (by decide +kernel) (show vp_in (nI 1) 4 from vp_in_nI (by decide) (by decide)) (by decide) ?_
      rw [show (1 : Int32).toNatClampNeg = 1 from rfl]
      show Z 1 31 [(3, .int 1), (1, .int 0), (2, .ref 79), (0, .ref 50)] [] (z_ui W1 79 1 1)
      refine z_rcs hc hH 3 (pc' := 34) (lv' := [(3, .int 1), (1, .int 0), (2, .ref 79), (0, .ref 50)]) (st' := [.int 1, .ref 79, .int 0]) (μ' := z_ui W1 79 1 1) (by rfl) ?_
      refine zq_bald hc hH (by rfl) 4 (by decide +kernel) (show vp_in (nI 1) 4 from vp_in_nI (by decide) (by decide)) ?_
      rw [show (1 : Int32).toNatClampNeg = 1 from rfl]
      rw [ui_s]
      refine z_rcs hc hH 14 (pc' := 17) (lv' := [(3, .int 2), (1, .int 1), (2, .ref 79), (0, .ref 50)]) (st' := [.int 2, .ref 50, .int 2, .ref 79]) (μ' := z_ui W1 79 1 1) (by rfl) ?_
      refine zq_call hc (z_cx_ok hH (by rfl)) (hw2 _ (SE_ui (SE_sm (SE_ui (SE_sm (SE_zr _) hO0) (by omega)) hO1) (by omega)) (a_H_ui (r := 79) (k := 1) (hA1) ⟨by decide, by decide⟩) d' (by omega)) (by decide +kernel) (fun r9 W2 hq => ?_)
      obtain ⟨rfl, hO2, hA2⟩ := hq
      show Z 1 20 [(3, .int 2), (1, .int 1), (2, .ref 79), (0, .ref 50)] [.long w2, .int 2, .ref 79] W2
      refine z_rcs hc hH 2 (pc' := 22) (lv' := [(3, .int 2), (1, .int 1), (2, .ref 79), (0, .ref 50)]) (st' := [.int (lg_cmp w2 0), .int 2, .ref 79]) (μ' := W2) (by rfl) ?_
      refine zq_if hc hH (by rfl) (tg := 29) (by rfl) (fun h3 => ?_) (fun h3 => ?_)
      · have h3 : (decide ((lg_cmp w2 0) = 0)) = true := decide_eq_true (cm_eq9.mp h3)
        exact absurd (Eq.trans (Eq.symm (hb2)) h3) (by decide)
      · have h3 : (decide ((lg_cmp w2 0) = 0)) = false := decide_eq_false (cn_eq.mp h3)
        refine z_rcs hc hH 2 (pc' := 30) (lv' := [(3, .int 2), (1, .int 1), (2, .ref 79), (0, .ref 50)]) (st' := [.int 1, .int 2, .ref 79]) (μ' := W2) (by rfl) ?_
        refine zq_bast hc hH (by rfl) 4 (by decide +kernel) (show vp_in (nI 2) 4 from vp_in_nI (by decide) (by decide)) (by decide) ?_
        rw [show (2 : Int32).toNatClampNeg = 2 from rfl]
        show Z 1 31 [(3, .int 2), (1, .int 1), (2, .ref 79), (0, .ref 50)] [] (z_ui W2 79 2 1)
        refine z_rcs hc hH 3 (pc' := 34) (lv' := [(3, .int 2), (1, .int 1), (2, .ref 79), (0, .ref 50)]) (st' := [.int 2, .ref 79, .int 1]) (μ' := z_ui W2 79 2 1) (by rfl) ?_
        refine zq_bald hc hH (by rfl) 4 (by decide +kernel) (show vp_in (nI 2) 4 from vp_in_nI (by decide) (by decide)) ?_
        rw [show (2 : Int32).toNatClampNeg = 2 from rfl]
        rw [ui_s]
        refine z_rcs hc hH 14 (pc' := 17) (lv' := [(3, .int 3), (1, .int 2), (2, .ref 79), (0, .ref 50)]) (st' := [.int 3, .ref 50, .int 3, .ref 79]) (μ' := z_ui W2 79 2 1) (by rfl) ?_
        refine zq_call hc (z_cx_ok hH (by rfl)) (hw3 _ (SE_ui (SE_sm (SE_ui (SE_sm (SE_ui (SE_sm (SE_zr _) hO0) (by omega)) hO1) (by omega)) hO2) (by omega)) (a_H_ui (r := 79) (k := 2) (hA2) ⟨by decide, by decide⟩) d' (by omega)) (by decide +kernel) (fun r9 W3 hq => ?_)
        obtain ⟨rfl, hO3, hA3⟩ := hq
        show Z 1 20 [(3, .int 3), (1, .int 2), (2, .ref 79), (0, .ref 50)] [.long w3, .int 3, .ref 79] W3
        refine z_rcs hc hH 2 (pc' := 22) (lv' := [(3, .int 3), (1, .int 2), (2, .ref 79), (0, .ref 50)]) (st' := [.int (lg_cmp w3 0), .int 3, .ref 79]) (μ' := W3) (by rfl) ?_
        refine zq_if hc hH (by rfl) (tg := 29) (by rfl) (fun h4 => ?_) (fun h4 => ?_)
        · have h4 : (decide ((lg_cmp w3 0) = 0)) = true := decide_eq_true (cm_eq9.mp h4)
          exact absurd (Eq.trans (Eq.symm (hb3)) h4) (by decide)
        · have h4 : (decide ((lg_cmp w3 0) = 0)) = false := decide_eq_false (cn_eq.mp h4)
          refine z_rcs hc hH 2 (pc' := 30) (lv' := [(3, .int 3), (1, .int 2), (2, .ref 79), (0, .ref 50)]) (st' := [.int 1, .int 3, .ref 79]) (μ' := W3) (by rfl) ?_
          refine zq_bast hc hH (by rfl) 4 (by decide +kernel) (show vp_in (nI 3) 4 from vp_in_nI (by decide) (by decide)) (by decide) ?_
          rw [show (3 : Int32).toNatClampNeg = 3 from rfl]
          show Z 1 31 [(3, .int 3), (1, .int 2), (2, .ref 79), (0, .ref 50)] [] (z_ui W3 79 3 1)
          refine z_rcs hc hH 3 (pc' := 34) (lv' := [(3, .int 3), (1, .int 2), (2, .ref 79), (0, .ref 50)]) (st' := [.int 3, .ref 79, .int 2]) (μ' := z_ui W3 79 3 1) (by rfl) ?_
          refine zq_bald hc hH (by rfl) 4 (by decide +kernel) (show vp_in (nI 3) 4 from vp_in_nI (by decide) (by decide)) ?_
          rw [show (3 : Int32).toNatClampNeg = 3 from rfl]
          rw [ui_s]
          refine z_rcs hc hH 21 (pc' := 68) (lv' := [(3, .int 0), (1, .int 3), (2, .ref 79), (0, .ref 50)]) (st' := [.ref 50]) (μ' := z_ui W3 79 3 1) (by rfl) ?_
          refine zq_gfr hc hH (by rfl) (ci := 6) (f := 29) (q := 61) (by rfl) (by decide +kernel) (by rfl) (by decide +kernel) ?_
          refine z_rcs hc hH 2 (pc' := 73) (lv' := [(3, .int 0), (1, .int 3), (2, .ref 79), (0, .ref 50)]) (st' := [.int 0, .ref 61, .int 0, .ref 61]) (μ' := z_ui W3 79 3 1) (by rfl) ?_
          refine zq_iald hc hH (by rfl) 4 (oka_i (by decide +kernel)) (show vp_in (nI 0) 4 from vp_in_nI (by decide) (by decide)) ?_
          rw [show (0 : Int32).toNatClampNeg = 0 from rfl]
          refine zV1 (Z := Z) (Eq.trans (ui_o (by first | decide | omega)) (Eq.trans (hO3 61 0 (by omega)).1 (Eq.trans (ui_o (by first | decide | omega)) (Eq.trans (hO2 61 0 (by omega)).1 (Eq.trans (ui_o (by first | decide | omega)) (Eq.trans (hO1 61 0 (by omega)).1 (Eq.trans (ui_o (by first | decide | omega)) (hO0 61 0 (by omega)).1))))))) ?_
          rw [z_zero_o (by decide)]
          refine z_rcs hc hH 2 (pc' := 76) (lv' := [(3, .int 0), (1, .int 3), (2, .ref 79), (0, .ref 50)]) (st' := [.int 0, .ref 79, .int (μ.1 61 0), .int 0, .ref 61]) (μ' := z_ui W3 79 3 1) (by rfl) ?_
          refine zq_bald hc hH (by rfl) 4 (by decide +kernel) (show vp_in (nI 0) 4 from vp_in_nI (by decide) (by decide)) ?_
          rw [show (0 : Int32).toNatClampNeg = 0 from rfl]
          refine zV1 (Z := Z) (Eq.trans (ui_k (by first | decide | omega)) (Eq.trans (hO3 79 0 (by omega)).1 (Eq.trans (ui_k (by first | decide | omega)) (Eq.trans (hO2 79 0 (by omega)).1 (Eq.trans (ui_k (by first | decide | omega)) (Eq.trans (hO1 79 0 (by omega)).1 (ui_s))))))) ?_
          refine z_rcs hc hH 7 (pc' := 96) (lv' := [(3, .int 0), (1, .int 3), (2, .ref 79), (0, .ref 50)]) (st' := [.int ((μ.1 61 0) + (-3000)), .int 0, .ref 61]) (μ' := z_ui W3 79 3 1) (by rfl) ?_
          refine zq_iast hc hH (by rfl) 4 (oka_i (by decide +kernel)).2 (show vp_in (nI 0) 4 from vp_in_nI (by decide) (by decide)) ?_
          rw [show (0 : Int32).toNatClampNeg = 0 from rfl]
          show Z 1 97 [(3, .int 0), (1, .int 3), (2, .ref 79), (0, .ref 50)] [] (z_ui (z_ui W3 79 3 1) 61 0 ((μ.1 61 0) + (-3000)))
          refine z_rcs0 hc hH 6 (pc' := 68) (lv' := [(3, .int 1), (1, .int 3), (2, .ref 79), (0, .ref 50)]) (st' := [.ref 50]) (by rfl) ?_
          refine zq_gfr hc hH (by rfl) (ci := 6) (f := 29) (q := 61) (by rfl) (by decide +kernel) (by rfl) (by decide +kernel) ?_
          refine z_rcs0 hc hH 2 (pc' := 73) (lv' := [(3, .int 1), (1, .int 3), (2, .ref 79), (0, .ref 50)]) (st' := [.int 1, .ref 61, .int 1, .ref 61]) (by rfl) ?_
          refine zq_iald hc hH (by rfl) 4 (oka_i (by decide +kernel)) (show vp_in (nI 1) 4 from vp_in_nI (by decide) (by decide)) ?_
          rw [show (1 : Int32).toNatClampNeg = 1 from rfl]
          refine zV1 (Z := Z) (Eq.trans (ui_k (by first | decide | omega)) (Eq.trans (ui_o (by first | decide | omega)) (Eq.trans (hO3 61 1 (by omega)).1 (Eq.trans (ui_o (by first | decide | omega)) (Eq.trans (hO2 61 1 (by omega)).1 (Eq.trans (ui_o (by first | decide | omega)) (Eq.trans (hO1 61 1 (by omega)).1 (Eq.trans (ui_o (by first | decide | omega)) (hO0 61 1 (by omega)).1)))))))) ?_
          rw [z_zero_o (by decide)]
          refine z_rcs0 hc hH 2 (pc' := 76) (lv' := [(3, .int 1), (1, .int 3), (2, .ref 79), (0, .ref 50)]) (st' := [.int 1, .ref 79, .int (μ.1 61 1), .int 1, .ref 61]) (by rfl) ?_
          refine zq_bald hc hH (by rfl) 4 (by decide +kernel) (show vp_in (nI 1) 4 from vp_in_nI (by decide) (by decide)) ?_
          rw [show (1 : Int32).toNatClampNeg = 1 from rfl]
          refine zV1 (Z := Z) (Eq.trans (ui_o (by first | decide | omega)) (Eq.trans (ui_k (by first | decide | omega)) (Eq.trans (hO3 79 1 (by omega)).1 (Eq.trans (ui_k (by first | decide | omega)) (Eq.trans (hO2 79 1 (by omega)).1 (ui_s)))))) ?_
          refine z_rcs0 hc hH 6 (pc' := 96) (lv' := [(3, .int 1), (1, .int 3), (2, .ref 79), (0, .ref 50)]) (st' := [.int ((μ.1 61 1) + 1000), .int 1, .ref 61]) (by rfl) ?_
          refine zq_iast hc hH (by rfl) 4 (oka_i (by decide +kernel)).2 (show vp_in (nI 1) 4 from vp_in_nI (by decide) (by decide)) ?_
          rw [show (1 : Int32).toNatClampNeg = 1 from rfl]
          show Z 1 97 [(3, .int 1), (1, .int 3), (2, .ref 79), (0, .ref 50)] [] (z_ui (z_ui (z_ui W3 79 3 1) 61 0 ((μ.1 61 0) + (-3000))) 61 1 ((μ.1 61 1) + 1000))
          refine z_rcs0 hc hH 6 (pc' := 68) (lv' := [(3, .int 2), (1, .int 3), (2, .ref 79), (0, .ref 50)]) (st' := [.ref 50]) (by rfl) ?_
          refine zq_gfr hc hH (by rfl) (ci := 6) (f := 29) (q := 61) (by rfl) (by decide +kernel) (by rfl) (by decide +kernel) ?_
          refine z_rcs0 hc hH 2 (pc' := 73) (lv' := [(3, .int 2), (1, .int 3), (2, .ref 79), (0, .ref 50)]) (st' := [.int 2, .ref 61, .int 2, .ref 61]) (by rfl) ?_
          refine zq_iald hc hH (by rfl) 4 (oka_i (by decide +kernel)) (show vp_in (nI 2) 4 from vp_in_nI (by decide) (by decide)) ?_
          rw [show (2 : Int32).toNatClampNeg = 2 from rfl]
          refine zV1 (Z := Z) (Eq.trans (ui_k (by first | decide | omega)) (Eq.trans (ui_k (by first | decide | omega)) (Eq.trans (ui_o (by first | decide | omega)) (Eq.trans (hO3 61 2 (by omega)).1 (Eq.trans (ui_o (by first | decide | omega)) (Eq.trans (hO2 61 2 (by omega)).1 (Eq.trans (ui_o (by first | decide | omega)) (Eq.trans (hO1 61 2 (by omega)).1 (Eq.trans (ui_o (by first | decide | omega)) (hO0 61 2 (by omega)).1))))))))) ?_
          rw [z_zero_o (by decide)]
          refine z_rcs0 hc hH 2 (pc' := 76) (lv' := [(3, .int 2), (1, .int 3), (2, .ref 79), (0, .ref 50)]) (st' := [.int 2, .ref 79, .int (μ.1 61 2), .int 2, .ref 61]) (by rfl) ?_
          refine zq_bald hc hH (by rfl) 4 (by decide +kernel) (show vp_in (nI 2) 4 from vp_in_nI (by decide) (by decide)) ?_
          rw [show (2 : Int32).toNatClampNeg = 2 from rfl]
          refine zV1 (Z := Z) (Eq.trans (ui_o (by first | decide | omega)) (Eq.trans (ui_o (by first | decide | omega)) (Eq.trans (ui_k (by first | decide | omega)) (Eq.trans (hO3 79 2 (by omega)).1 (ui_s))))) ?_
          refine z_rcs0 hc hH 6 (pc' := 96) (lv' := [(3, .int 2), (1, .int 3), (2, .ref 79), (0, .ref 50)]) (st' := [.int ((μ.1 61 2) + 1000), .int 2, .ref 61]) (by rfl) ?_
          refine zq_iast hc hH (by rfl) 4 (oka_i (by decide +kernel)).2 (show vp_in (nI 2) 4 from vp_in_nI (by decide) (by decide)) ?_
          rw [show (2 : Int32).toNatClampNeg = 2 from rfl]
          show Z 1 97 [(3, .int 2), (1, .int 3), (2, .ref 79), (0, .ref 50)] [] (z_ui (z_ui (z_ui (z_ui W3 79 3 1) 61 0 ((μ.1 61 0) + (-3000))) 61 1 ((μ.1 61 1) + 1000)) 61 2 ((μ.1 61 2) + 1000))
          refine z_rcs0 hc hH 6 (pc' := 68) (lv' := [(3, .int 3), (1, .int 3), (2, .ref 79), (0, .ref 50)]) (st' := [.ref 50]) (by rfl) ?_
          refine zq_gfr hc hH (by rfl) (ci := 6) (f := 29) (q := 61) (by rfl) (by decide +kernel) (by rfl) (by decide +kernel) ?_
          refine z_rcs0 hc hH 2 (pc' := 73) (lv' := [(3, .int 3), (1, .int 3), (2, .ref 79), (0, .ref 50)]) (st' := [.int 3, .ref 61, .int 3, .ref 61]) (by rfl) ?_
          refine zq_iald hc hH (by rfl) 4 (oka_i (by decide +kernel)) (show vp_in (nI 3) 4 from vp_in_nI (by decide) (by decide)) ?_
          rw [show (3 : Int32).toNatClampNeg = 3 from rfl]
          refine zV1 (Z := Z) (Eq.trans (ui_k (by first | decide | omega)) (Eq.trans (ui_k (by first | decide | omega)) (Eq.trans (ui_k (by first | decide | omega)) (Eq.trans (ui_o (by first | decide | omega)) (Eq.trans (hO3 61 3 (by omega)).1 (Eq.trans (ui_o (by first | decide | omega)) (Eq.trans (hO2 61 3 (by omega)).1 (Eq.trans (ui_o (by first | decide | omega)) (Eq.trans (hO1 61 3 (by omega)).1 (Eq.trans (ui_o (by first | decide | omega)) (hO0 61 3 (by omega)).1)))))))))) ?_
          rw [z_zero_o (by decide)]
          refine z_rcs0 hc hH 2 (pc' := 76) (lv' := [(3, .int 3), (1, .int 3), (2, .ref 79), (0, .ref 50)]) (st' := [.int 3, .ref 79, .int (μ.1 61 3), .int 3, .ref 61]) (by rfl) ?_
          refine zq_bald hc hH (by rfl) 4 (by decide +kernel) (show vp_in (nI 3) 4 from vp_in_nI (by decide) (by decide)) ?_
          rw [show (3 : Int32).toNatClampNeg = 3 from rfl]
          refine zV1 (Z := Z) (Eq.trans (ui_o (by first | decide | omega)) (Eq.trans (ui_o (by first | decide | omega)) (Eq.trans (ui_o (by first | decide | omega)) (ui_s)))) ?_
          refine z_rcs0 hc hH 6 (pc' := 96) (lv' := [(3, .int 3), (1, .int 3), (2, .ref 79), (0, .ref 50)]) (st' := [.int ((μ.1 61 3) + 1000), .int 3, .ref 61]) (by rfl) ?_
          refine zq_iast hc hH (by rfl) 4 (oka_i (by decide +kernel)).2 (show vp_in (nI 3) 4 from vp_in_nI (by decide) (by decide)) ?_
          rw [show (3 : Int32).toNatClampNeg = 3 from rfl]
          show Z 1 97 [(3, .int 3), (1, .int 3), (2, .ref 79), (0, .ref 50)] [] (z_ui (z_ui (z_ui (z_ui (z_ui W3 79 3 1) 61 0 ((μ.1 61 0) + (-3000))) 61 1 ((μ.1 61 1) + 1000)) 61 2 ((μ.1 61 2) + 1000)) 61 3 ((μ.1 61 3) + 1000))
          refine z_rcs0 hc hH 5 (pc' := 103) (lv' := [(3, .int 4), (1, .int 3), (2, .ref 79), (0, .ref 50)]) (st' := []) (by rfl) ?_
          obtain rfl | rfl | rfl | rfl : dl = 0 ∨ dl = 1 ∨ dl = 2 ∨ dl = 3 := by omega
          · skip
            refine z_rcs0 hc hH 3 (pc' := 106) (lv' := [(3, .int 4), (1, .int 3), (2, .ref 79), (0, .ref 50)]) (st' := [.ref 50, .ref 79, .ref 50]) (by rfl) ?_
            refine zq_gfi hc hH (by rfl) (ci := 6) (f := 40) (by rfl) (by decide +kernel) (by rfl) ?_
            refine zV1 (Z := Z) (Eq.trans (ui_o (by first | decide | omega)) (Eq.trans (ui_o (by first | decide | omega)) (Eq.trans (ui_o (by first | decide | omega)) (Eq.trans (ui_o (by first | decide | omega)) (Eq.trans (ui_o (by first | decide | omega)) (Eq.trans (hO3 50 40 (by omega)).1 (Eq.trans (ui_o (by first | decide | omega)) (Eq.trans (hO2 50 40 (by omega)).1 (Eq.trans (ui_o (by first | decide | omega)) (Eq.trans (hO1 50 40 (by omega)).1 (Eq.trans (ui_o (by first | decide | omega)) (hO0 50 40 (by omega)).1))))))))))) ?_
            rw [(z_zero_o (by decide)).trans hdl]
            refine zq_bald hc hH (by rfl) 4 (by decide +kernel) (vp_in_nI (by omega) (by decide)) ?_
            rw [nI_clamp (by omega)]
            refine zV1 (Z := Z) (Eq.trans (ui_o (by first | decide | omega)) (Eq.trans (ui_o (by first | decide | omega)) (Eq.trans (ui_o (by first | decide | omega)) (Eq.trans (ui_o (by first | decide | omega)) (Eq.trans (ui_k (by first | decide | omega)) (Eq.trans (hO3 79 0 (by omega)).1 (Eq.trans (ui_k (by first | decide | omega)) (Eq.trans (hO2 79 0 (by omega)).1 (Eq.trans (ui_k (by first | decide | omega)) (Eq.trans (hO1 79 0 (by omega)).1 (ui_s))))))))))) ?_
            refine z_rcs0 hc hH 1 (pc' := 111) (lv' := [(3, .int 4), (1, .int 3), (2, .ref 79), (0, .ref 50)]) (st' := [.int 1, .int 0, .ref 50]) (by rfl) ?_
            refine zq_call hc (z_cx_ok hH (by rfl)) (gm_endsB d' (by omega) (z_ui (z_ui (z_ui (z_ui (z_ui W3 79 3 1) 61 0 ((μ.1 61 0) + (-3000))) 61 1 ((μ.1 61 1) + 1000)) 61 2 ((μ.1 61 2) + 1000)) 61 3 ((μ.1 61 3) + 1000)) false true 0 e (by rw [ui_o (by first | decide | omega), ui_o (by first | decide | omega), ui_o (by first | decide | omega), ui_o (by first | decide | omega), ui_o (by first | decide | omega), (hO3 50 40 (by omega)).1, ui_o (by first | decide | omega), (hO2 50 40 (by omega)).1, ui_o (by first | decide | omega), (hO1 50 40 (by omega)).1, ui_o (by first | decide | omega), (hO0 50 40 (by omega)).1]; exact (z_zero_o (by decide)).trans hdl) hdl4 he) (by decide +kernel) (fun r9 μ9 hq => ?_)
            obtain ⟨hr9, hm9⟩ := hq
            rw [hr9, hm9]
            clear hr9 hm9
            show Z 1 114 [(3, .int 4), (1, .int 3), (2, .ref 79), (0, .ref 50)] [] (eMB (z_ui (z_ui (z_ui (z_ui (z_ui W3 79 3 1) 61 0 ((μ.1 61 0) + (-3000))) 61 1 ((μ.1 61 1) + 1000)) 61 2 ((μ.1 61 2) + 1000)) 61 3 ((μ.1 61 3) + 1000)) false true 0 e)
            exact hr 1 114 _ _ _ none (by decide +kernel) (by rfl) (by refine ⟨rfl, ?_⟩; unfold nM0111; exact SM_eMB (SM_ui (SM_ui (SM_ui (SM_ui (SM_ui (SM_tr (SM_ui (SM_tr (SM_ui (SM_tr (SM_ui (SM_tr (SM_rf _) hO0)) hO1)) hO2)) hO3)))))))
          · skip
            refine z_rcs hc hH 3 (pc' := 106) (lv' := [(3, .int 4), (1, .int 3), (2, .ref 79), (0, .ref 50)]) (st' := [.ref 50, .ref 79, .ref 50]) (μ' := z_ui (z_ui (z_ui (z_ui (z_ui W3 79 3 1) 61 0 ((μ.1 61 0) + (-3000))) 61 1 ((μ.1 61 1) + 1000)) 61 2 ((μ.1 61 2) + 1000)) 61 3 ((μ.1 61 3) + 1000)) (by rfl) ?_
            refine zq_gfi hc hH (by rfl) (ci := 6) (f := 40) (by rfl) (by decide +kernel) (by rfl) ?_
            refine zV1 (Z := Z) (Eq.trans (ui_o (by first | decide | omega)) (Eq.trans (ui_o (by first | decide | omega)) (Eq.trans (ui_o (by first | decide | omega)) (Eq.trans (ui_o (by first | decide | omega)) (Eq.trans (ui_o (by first | decide | omega)) (Eq.trans (hO3 50 40 (by omega)).1 (Eq.trans (ui_o (by first | decide | omega)) (Eq.trans (hO2 50 40 (by omega)).1 (Eq.trans (ui_o (by first | decide | omega)) (Eq.trans (hO1 50 40 (by omega)).1 (Eq.trans (ui_o (by first | decide | omega)) (hO0 50 40 (by omega)).1))))))))))) ?_
            rw [(z_zero_o (by decide)).trans hdl]
            refine zq_bald hc hH (by rfl) 4 (by decide +kernel) (vp_in_nI (by omega) (by decide)) ?_
            rw [nI_clamp (by omega)]
            refine zV1 (Z := Z) (Eq.trans (ui_o (by first | decide | omega)) (Eq.trans (ui_o (by first | decide | omega)) (Eq.trans (ui_o (by first | decide | omega)) (Eq.trans (ui_o (by first | decide | omega)) (Eq.trans (ui_k (by first | decide | omega)) (Eq.trans (hO3 79 1 (by omega)).1 (Eq.trans (ui_k (by first | decide | omega)) (Eq.trans (hO2 79 1 (by omega)).1 (ui_s))))))))) ?_
            refine z_rcs0 hc hH 1 (pc' := 111) (lv' := [(3, .int 4), (1, .int 3), (2, .ref 79), (0, .ref 50)]) (st' := [.int 1, .int 1, .ref 50]) (by rfl) ?_
            refine zq_call hc (z_cx_ok hH (by rfl)) (gm_endsB d' (by omega) (z_ui (z_ui (z_ui (z_ui (z_ui W3 79 3 1) 61 0 ((μ.1 61 0) + (-3000))) 61 1 ((μ.1 61 1) + 1000)) 61 2 ((μ.1 61 2) + 1000)) 61 3 ((μ.1 61 3) + 1000)) true true 1 e (by rw [ui_o (by first | decide | omega), ui_o (by first | decide | omega), ui_o (by first | decide | omega), ui_o (by first | decide | omega), ui_o (by first | decide | omega), (hO3 50 40 (by omega)).1, ui_o (by first | decide | omega), (hO2 50 40 (by omega)).1, ui_o (by first | decide | omega), (hO1 50 40 (by omega)).1, ui_o (by first | decide | omega), (hO0 50 40 (by omega)).1]; exact (z_zero_o (by decide)).trans hdl) hdl4 he) (by decide +kernel) (fun r9 μ9 hq => ?_)
            obtain ⟨hr9, hm9⟩ := hq
            rw [hr9, hm9]
            clear hr9 hm9
            show Z 1 114 [(3, .int 4), (1, .int 3), (2, .ref 79), (0, .ref 50)] [] (eMB (z_ui (z_ui (z_ui (z_ui (z_ui W3 79 3 1) 61 0 ((μ.1 61 0) + (-3000))) 61 1 ((μ.1 61 1) + 1000)) 61 2 ((μ.1 61 2) + 1000)) 61 3 ((μ.1 61 3) + 1000)) true true 1 e)
            exact hr 1 114 _ _ _ none (by decide +kernel) (by rfl) (by refine ⟨rfl, ?_⟩; unfold nM0111; exact SM_eMB (SM_ui (SM_ui (SM_ui (SM_ui (SM_ui (SM_tr (SM_ui (SM_tr (SM_ui (SM_tr (SM_ui (SM_tr (SM_rf _) hO0)) hO1)) hO2)) hO3)))))))
          · skip
            refine z_rcs hc hH 3 (pc' := 106) (lv' := [(3, .int 4), (1, .int 3), (2, .ref 79), (0, .ref 50)]) (st' := [.ref 50, .ref 79, .ref 50]) (μ' := z_ui (z_ui (z_ui (z_ui (z_ui W3 79 3 1) 61 0 ((μ.1 61 0) + (-3000))) 61 1 ((μ.1 61 1) + 1000)) 61 2 ((μ.1 61 2) + 1000)) 61 3 ((μ.1 61 3) + 1000)) (by rfl) ?_
            refine zq_gfi hc hH (by rfl) (ci := 6) (f := 40) (by rfl) (by decide +kernel) (by rfl) ?_
            refine zV1 (Z := Z) (Eq.trans (ui_o (by first | decide | omega)) (Eq.trans (ui_o (by first | decide | omega)) (Eq.trans (ui_o (by first | decide | omega)) (Eq.trans (ui_o (by first | decide | omega)) (Eq.trans (ui_o (by first | decide | omega)) (Eq.trans (hO3 50 40 (by omega)).1 (Eq.trans (ui_o (by first | decide | omega)) (Eq.trans (hO2 50 40 (by omega)).1 (Eq.trans (ui_o (by first | decide | omega)) (Eq.trans (hO1 50 40 (by omega)).1 (Eq.trans (ui_o (by first | decide | omega)) (hO0 50 40 (by omega)).1))))))))))) ?_
            rw [(z_zero_o (by decide)).trans hdl]
            refine zq_bald hc hH (by rfl) 4 (by decide +kernel) (vp_in_nI (by omega) (by decide)) ?_
            rw [nI_clamp (by omega)]
            refine zV1 (Z := Z) (Eq.trans (ui_o (by first | decide | omega)) (Eq.trans (ui_o (by first | decide | omega)) (Eq.trans (ui_o (by first | decide | omega)) (Eq.trans (ui_o (by first | decide | omega)) (Eq.trans (ui_k (by first | decide | omega)) (Eq.trans (hO3 79 2 (by omega)).1 (ui_s))))))) ?_
            refine z_rcs0 hc hH 1 (pc' := 111) (lv' := [(3, .int 4), (1, .int 3), (2, .ref 79), (0, .ref 50)]) (st' := [.int 1, .int 1, .ref 50]) (by rfl) ?_
            refine zq_call hc (z_cx_ok hH (by rfl)) (gm_endsB d' (by omega) (z_ui (z_ui (z_ui (z_ui (z_ui W3 79 3 1) 61 0 ((μ.1 61 0) + (-3000))) 61 1 ((μ.1 61 1) + 1000)) 61 2 ((μ.1 61 2) + 1000)) 61 3 ((μ.1 61 3) + 1000)) true true 2 e (by rw [ui_o (by first | decide | omega), ui_o (by first | decide | omega), ui_o (by first | decide | omega), ui_o (by first | decide | omega), ui_o (by first | decide | omega), (hO3 50 40 (by omega)).1, ui_o (by first | decide | omega), (hO2 50 40 (by omega)).1, ui_o (by first | decide | omega), (hO1 50 40 (by omega)).1, ui_o (by first | decide | omega), (hO0 50 40 (by omega)).1]; exact (z_zero_o (by decide)).trans hdl) hdl4 he) (by decide +kernel) (fun r9 μ9 hq => ?_)
            obtain ⟨hr9, hm9⟩ := hq
            rw [hr9, hm9]
            clear hr9 hm9
            show Z 1 114 [(3, .int 4), (1, .int 3), (2, .ref 79), (0, .ref 50)] [] (eMB (z_ui (z_ui (z_ui (z_ui (z_ui W3 79 3 1) 61 0 ((μ.1 61 0) + (-3000))) 61 1 ((μ.1 61 1) + 1000)) 61 2 ((μ.1 61 2) + 1000)) 61 3 ((μ.1 61 3) + 1000)) true true 2 e)
            exact hr 1 114 _ _ _ none (by decide +kernel) (by rfl) (by refine ⟨rfl, ?_⟩; unfold nM0111; exact SM_eMB (SM_ui (SM_ui (SM_ui (SM_ui (SM_ui (SM_tr (SM_ui (SM_tr (SM_ui (SM_tr (SM_ui (SM_tr (SM_rf _) hO0)) hO1)) hO2)) hO3)))))))
          · skip
            refine z_rcs hc hH 3 (pc' := 106) (lv' := [(3, .int 4), (1, .int 3), (2, .ref 79), (0, .ref 50)]) (st' := [.ref 50, .ref 79, .ref 50]) (μ' := z_ui (z_ui (z_ui (z_ui (z_ui W3 79 3 1) 61 0 ((μ.1 61 0) + (-3000))) 61 1 ((μ.1 61 1) + 1000)) 61 2 ((μ.1 61 2) + 1000)) 61 3 ((μ.1 61 3) + 1000)) (by rfl) ?_
            refine zq_gfi hc hH (by rfl) (ci := 6) (f := 40) (by rfl) (by decide +kernel) (by rfl) ?_
            refine zV1 (Z := Z) (Eq.trans (ui_o (by first | decide | omega)) (Eq.trans (ui_o (by first | decide | omega)) (Eq.trans (ui_o (by first | decide | omega)) (Eq.trans (ui_o (by first | decide | omega)) (Eq.trans (ui_o (by first | decide | omega)) (Eq.trans (hO3 50 40 (by omega)).1 (Eq.trans (ui_o (by first | decide | omega)) (Eq.trans (hO2 50 40 (by omega)).1 (Eq.trans (ui_o (by first | decide | omega)) (Eq.trans (hO1 50 40 (by omega)).1 (Eq.trans (ui_o (by first | decide | omega)) (hO0 50 40 (by omega)).1))))))))))) ?_
            rw [(z_zero_o (by decide)).trans hdl]
            refine zq_bald hc hH (by rfl) 4 (by decide +kernel) (vp_in_nI (by omega) (by decide)) ?_
            rw [nI_clamp (by omega)]
            refine zV1 (Z := Z) (Eq.trans (ui_o (by first | decide | omega)) (Eq.trans (ui_o (by first | decide | omega)) (Eq.trans (ui_o (by first | decide | omega)) (Eq.trans (ui_o (by first | decide | omega)) (ui_s))))) ?_
            refine z_rcs0 hc hH 1 (pc' := 111) (lv' := [(3, .int 4), (1, .int 3), (2, .ref 79), (0, .ref 50)]) (st' := [.int 1, .int 1, .ref 50]) (by rfl) ?_
            refine zq_call hc (z_cx_ok hH (by rfl)) (gm_endsB d' (by omega) (z_ui (z_ui (z_ui (z_ui (z_ui W3 79 3 1) 61 0 ((μ.1 61 0) + (-3000))) 61 1 ((μ.1 61 1) + 1000)) 61 2 ((μ.1 61 2) + 1000)) 61 3 ((μ.1 61 3) + 1000)) true true 3 e (by rw [ui_o (by first | decide | omega), ui_o (by first | decide | omega), ui_o (by first | decide | omega), ui_o (by first | decide | omega), ui_o (by first | decide | omega), (hO3 50 40 (by omega)).1, ui_o (by first | decide | omega), (hO2 50 40 (by omega)).1, ui_o (by first | decide | omega), (hO1 50 40 (by omega)).1, ui_o (by first | decide | omega), (hO0 50 40 (by omega)).1]; exact (z_zero_o (by decide)).trans hdl) hdl4 he) (by decide +kernel) (fun r9 μ9 hq => ?_)
            obtain ⟨hr9, hm9⟩ := hq
            rw [hr9, hm9]
            clear hr9 hm9
            show Z 1 114 [(3, .int 4), (1, .int 3), (2, .ref 79), (0, .ref 50)] [] (eMB (z_ui (z_ui (z_ui (z_ui (z_ui W3 79 3 1) 61 0 ((μ.1 61 0) + (-3000))) 61 1 ((μ.1 61 1) + 1000)) 61 2 ((μ.1 61 2) + 1000)) 61 3 ((μ.1 61 3) + 1000)) true true 3 e)
            exact hr 1 114 _ _ _ none (by decide +kernel) (by rfl) (by refine ⟨rfl, ?_⟩; unfold nM0111; exact SM_eMB (SM_ui (SM_ui (SM_ui (SM_ui (SM_ui (SM_tr (SM_ui (SM_tr (SM_ui (SM_tr (SM_ui (SM_tr (SM_rf _) hO0)) hO1)) hO2)) hO3)))))))
  · have h1 : (decide ((lg_cmp w0 0) = 0)) = false := decide_eq_false (cn_eq.mp h1)
    exact absurd (Eq.trans (Eq.symm (hb0)) h1) (by decide)
noncomputable def nM1000 (μ : zM) : zM := z_ui (z_ui (z_ui (z_ui (z_ui (z_ui (z_ui (z_ui (z_zero μ) 79 0 1) 79 1 0) 79 2 0) 79 3 0) 61 0 ((μ.1 61 0) + 3000)) 61 1 ((μ.1 61 1) + (-1000))) 61 2 ((μ.1 61 2) + (-1000))) 61 3 ((μ.1 61 3) + (-1000))
theorem gm_nobody1000 (d : Nat) (hd : 700 ≤ d) (μ : zM) (hH0 : a_H μ) (dl e : Nat) (hdl : μ.1 50 40 = nI dl) (hdl4 : dl < 4) (he : (dl + 1) % 4 = e) (w0 : Int64) (hw0 : ∀ M, SE μ M → a_H M → ∀ d, 699 ≤ d → z_C d mi_X7_waitsAt [.ref 50, .int 0] M (fun r W => r = some (.long w0) ∧ SMj M W ∧ a_H W)) (hb0 : decide (lg_cmp w0 0 = 0) = false) (w1 : Int64) (hw1 : ∀ M, SE μ M → a_H M → ∀ d, 699 ≤ d → z_C d mi_X7_waitsAt [.ref 50, .int 1] M (fun r W => r = some (.long w1) ∧ SMj M W ∧ a_H W)) (hb1 : decide (lg_cmp w1 0 = 0) = true) (w2 : Int64) (hw2 : ∀ M, SE μ M → a_H M → ∀ d, 699 ≤ d → z_C d mi_X7_waitsAt [.ref 50, .int 2] M (fun r W => r = some (.long w2) ∧ SMj M W ∧ a_H W)) (hb2 : decide (lg_cmp w2 0 = 0) = true) (w3 : Int64) (hw3 : ∀ M, SE μ M → a_H M → ∀ d, 699 ≤ d → z_C d mi_X7_waitsAt [.ref 50, .int 3] M (fun r W => r = some (.long w3) ∧ SMj M W ∧ a_H W)) (hb3 : decide (lg_cmp w3 0 = 0) = true) : z_C d mi_X7_nobodyWins [.ref 50] μ (fun r μ' => r = none ∧ SMj (eMB (nM1000 μ) (nbS true false false false dl) true dl e) μ') := by
  obtain ⟨d', rfl⟩ : ∃ d', d = d' + 1 := ⟨d - 1, by omega⟩
  intro Z hc hr
  refine ⟨rfl, ?_⟩
  have hH := zh_X7_nobodyWins
  refine z_rcs hc hH 9 (pc' := 17) (lv' := [(3, .int 0), (2, .ref 79), (1, .int 0), (0, .ref 50)]) (st' := [.int 0, .ref 50, .int 0, .ref 79]) (μ' := z_zero μ) (by rfl) ?_
  refine zq_call hc (z_cx_ok hH (by rfl)) (hw0 _ (SE_zr _) (a_H_zero hH0) d' (by omega)) (by decide +kernel) (fun r9 W0 hq => ?_)
  obtain ⟨rfl, hO0, hA0⟩ := hq
  show Z 1 20 [(3, .int 0), (2, .ref 79), (1, .int 0), (0, .ref 50)] [.long w0, .int 0, .ref 79] W0
  refine z_rcs hc hH 2 (pc' := 22) (lv' := [(3, .int 0), (2, .ref 79), (1, .int 0), (0, .ref 50)]) (st' := [.int (lg_cmp w0 0), .int 0, .ref 79]) (μ' := W0) (by rfl) ?_
  refine zq_if hc hH (by rfl) (tg := 29) (by rfl) (fun h1 => ?_) (fun h1 => ?_)
  · have h1 : (decide ((lg_cmp w0 0) = 0)) = true := decide_eq_true (cm_eq9.mp h1)
    exact absurd (Eq.trans (Eq.symm (hb0)) h1) (by decide)
  · have h1 : (decide ((lg_cmp w0 0) = 0)) = false := decide_eq_false (cn_eq.mp h1)
    refine z_rcs hc hH 2 (pc' := 30) (lv' := [(3, .int 0), (2, .ref 79), (1, .int 0), (0, .ref 50)]) (st' := [.int 1, .int 0, .ref 79]) (μ' := W0) (by rfl) ?_
    refine zq_bast hc hH (by rfl) 4 (by decide +kernel) (show vp_in (nI 0) 4 from vp_in_nI (by decide) (by decide)) (by decide) ?_
    rw [show (0 : Int32).toNatClampNeg = 0 from rfl]
    show Z 1 31 [(3, .int 0), (2, .ref 79), (1, .int 0), (0, .ref 50)] [] (z_ui W0 79 0 1)
    refine z_rcs hc hH 3 (pc' := 34) (lv' := [(3, .int 0), (2, .ref 79), (1, .int 0), (0, .ref 50)]) (st' := [.int 0, .ref 79, .int 0]) (μ' := z_ui W0 79 0 1) (by rfl) ?_
    refine zq_bald hc hH (by rfl) 4 (by decide +kernel) (show vp_in (nI 0) 4 from vp_in_nI (by decide) (by decide)) ?_
    rw [show (0 : Int32).toNatClampNeg = 0 from rfl]
    rw [ui_s]
    refine z_rcs hc hH 14 (pc' := 17) (lv' := [(3, .int 1), (1, .int 1), (2, .ref 79), (0, .ref 50)]) (st' := [.int 1, .ref 50, .int 1, .ref 79]) (μ' := z_ui W0 79 0 1) (by rfl) ?_
    refine zq_call hc (z_cx_ok hH (by rfl)) (hw1 _ (SE_ui (SE_sm (SE_zr _) hO0) (by omega)) (a_H_ui (r := 79) (k := 0) (hA0) ⟨by decide, by decide⟩) d' (by omega)) (by decide +kernel) (fun r9 W1 hq => ?_)
    obtain ⟨rfl, hO1, hA1⟩ := hq
    show Z 1 20 [(3, .int 1), (1, .int 1), (2, .ref 79), (0, .ref 50)] [.long w1, .int 1, .ref 79] W1
    refine z_rcs hc hH 2 (pc' := 22) (lv' := [(3, .int 1), (1, .int 1), (2, .ref 79), (0, .ref 50)]) (st' := [.int (lg_cmp w1 0), .int 1, .ref 79]) (μ' := W1) (by rfl) ?_
    refine zq_if hc hH (by rfl) (tg := 29) (by rfl) (fun h2 => ?_) (fun h2 => ?_)
    · have h2 : (decide ((lg_cmp w1 0) = 0)) = true := decide_eq_true (cm_eq9.mp h2)
      refine z_rcs hc hH 1 (pc' := 30) (lv' := [(3, .int 1), (1, .int 1), (2, .ref 79), (0, .ref 50)]) (st' := [.int 0, .int 1, .ref 79]) (μ' := W1) (by rfl) ?_
      refine zq_bast hc hH (by rfl) 4 (by decide +kernel) (show vp_in (nI 1) 4 from vp_in_nI (by decide) (by decide)) (by decide) ?_
      rw [show (1 : Int32).toNatClampNeg = 1 from rfl]
      show Z 1 31 [(3, .int 1), (1, .int 1), (2, .ref 79), (0, .ref 50)] [] (z_ui W1 79 1 0)
      refine z_rcs hc hH 3 (pc' := 34) (lv' := [(3, .int 1), (1, .int 1), (2, .ref 79), (0, .ref 50)]) (st' := [.int 1, .ref 79, .int 1]) (μ' := z_ui W1 79 1 0) (by rfl) ?_
      refine zq_bald hc hH (by rfl) 4 (by decide +kernel) (show vp_in (nI 1) 4 from vp_in_nI (by decide) (by decide)) ?_
      rw [show (1 : Int32).toNatClampNeg = 1 from rfl]
      rw [ui_s]
      refine z_rcs hc hH 13 (pc' := 17) (lv' := [(3, .int 2), (1, .int 1), (2, .ref 79), (0, .ref 50)]) (st' := [.int 2, .ref 50, .int 2, .ref 79]) (μ' := z_ui W1 79 1 0) (by rfl) ?_
      refine zq_call hc (z_cx_ok hH (by rfl)) (hw2 _ (SE_ui (SE_sm (SE_ui (SE_sm (SE_zr _) hO0) (by omega)) hO1) (by omega)) (a_H_ui (r := 79) (k := 1) (hA1) ⟨by decide, by decide⟩) d' (by omega)) (by decide +kernel) (fun r9 W2 hq => ?_)
      obtain ⟨rfl, hO2, hA2⟩ := hq
      show Z 1 20 [(3, .int 2), (1, .int 1), (2, .ref 79), (0, .ref 50)] [.long w2, .int 2, .ref 79] W2
      refine z_rcs hc hH 2 (pc' := 22) (lv' := [(3, .int 2), (1, .int 1), (2, .ref 79), (0, .ref 50)]) (st' := [.int (lg_cmp w2 0), .int 2, .ref 79]) (μ' := W2) (by rfl) ?_
      refine zq_if hc hH (by rfl) (tg := 29) (by rfl) (fun h3 => ?_) (fun h3 => ?_)
      · have h3 : (decide ((lg_cmp w2 0) = 0)) = true := decide_eq_true (cm_eq9.mp h3)
        refine z_rcs hc hH 1 (pc' := 30) (lv' := [(3, .int 2), (1, .int 1), (2, .ref 79), (0, .ref 50)]) (st' := [.int 0, .int 2, .ref 79]) (μ' := W2) (by rfl) ?_
        refine zq_bast hc hH (by rfl) 4 (by decide +kernel) (show vp_in (nI 2) 4 from vp_in_nI (by decide) (by decide)) (by decide) ?_
        rw [show (2 : Int32).toNatClampNeg = 2 from rfl]
        show Z 1 31 [(3, .int 2), (1, .int 1), (2, .ref 79), (0, .ref 50)] [] (z_ui W2 79 2 0)
        refine z_rcs hc hH 3 (pc' := 34) (lv' := [(3, .int 2), (1, .int 1), (2, .ref 79), (0, .ref 50)]) (st' := [.int 2, .ref 79, .int 1]) (μ' := z_ui W2 79 2 0) (by rfl) ?_
        refine zq_bald hc hH (by rfl) 4 (by decide +kernel) (show vp_in (nI 2) 4 from vp_in_nI (by decide) (by decide)) ?_
        rw [show (2 : Int32).toNatClampNeg = 2 from rfl]
        rw [ui_s]
        refine z_rcs hc hH 13 (pc' := 17) (lv' := [(3, .int 3), (1, .int 1), (2, .ref 79), (0, .ref 50)]) (st' := [.int 3, .ref 50, .int 3, .ref 79]) (μ' := z_ui W2 79 2 0) (by rfl) ?_
        refine zq_call hc (z_cx_ok hH (by rfl)) (hw3 _ (SE_ui (SE_sm (SE_ui (SE_sm (SE_ui (SE_sm (SE_zr _) hO0) (by omega)) hO1) (by omega)) hO2) (by omega)) (a_H_ui (r := 79) (k := 2) (hA2) ⟨by decide, by decide⟩) d' (by omega)) (by decide +kernel) (fun r9 W3 hq => ?_)
        obtain ⟨rfl, hO3, hA3⟩ := hq
        show Z 1 20 [(3, .int 3), (1, .int 1), (2, .ref 79), (0, .ref 50)] [.long w3, .int 3, .ref 79] W3
        refine z_rcs hc hH 2 (pc' := 22) (lv' := [(3, .int 3), (1, .int 1), (2, .ref 79), (0, .ref 50)]) (st' := [.int (lg_cmp w3 0), .int 3, .ref 79]) (μ' := W3) (by rfl) ?_
        refine zq_if hc hH (by rfl) (tg := 29) (by rfl) (fun h4 => ?_) (fun h4 => ?_)
        · have h4 : (decide ((lg_cmp w3 0) = 0)) = true := decide_eq_true (cm_eq9.mp h4)
          refine z_rcs hc hH 1 (pc' := 30) (lv' := [(3, .int 3), (1, .int 1), (2, .ref 79), (0, .ref 50)]) (st' := [.int 0, .int 3, .ref 79]) (μ' := W3) (by rfl) ?_
          refine zq_bast hc hH (by rfl) 4 (by decide +kernel) (show vp_in (nI 3) 4 from vp_in_nI (by decide) (by decide)) (by decide) ?_
          rw [show (3 : Int32).toNatClampNeg = 3 from rfl]
          show Z 1 31 [(3, .int 3), (1, .int 1), (2, .ref 79), (0, .ref 50)] [] (z_ui W3 79 3 0)
          refine z_rcs hc hH 3 (pc' := 34) (lv' := [(3, .int 3), (1, .int 1), (2, .ref 79), (0, .ref 50)]) (st' := [.int 3, .ref 79, .int 1]) (μ' := z_ui W3 79 3 0) (by rfl) ?_
          refine zq_bald hc hH (by rfl) 4 (by decide +kernel) (show vp_in (nI 3) 4 from vp_in_nI (by decide) (by decide)) ?_
          rw [show (3 : Int32).toNatClampNeg = 3 from rfl]
          rw [ui_s]
          refine z_rcs hc hH 20 (pc' := 68) (lv' := [(3, .int 0), (1, .int 1), (2, .ref 79), (0, .ref 50)]) (st' := [.ref 50]) (μ' := z_ui W3 79 3 0) (by rfl) ?_
          refine zq_gfr hc hH (by rfl) (ci := 6) (f := 29) (q := 61) (by rfl) (by decide +kernel) (by rfl) (by decide +kernel) ?_
          refine z_rcs hc hH 2 (pc' := 73) (lv' := [(3, .int 0), (1, .int 1), (2, .ref 79), (0, .ref 50)]) (st' := [.int 0, .ref 61, .int 0, .ref 61]) (μ' := z_ui W3 79 3 0) (by rfl) ?_
          refine zq_iald hc hH (by rfl) 4 (oka_i (by decide +kernel)) (show vp_in (nI 0) 4 from vp_in_nI (by decide) (by decide)) ?_
          rw [show (0 : Int32).toNatClampNeg = 0 from rfl]
          refine zV1 (Z := Z) (Eq.trans (ui_o (by first | decide | omega)) (Eq.trans (hO3 61 0 (by omega)).1 (Eq.trans (ui_o (by first | decide | omega)) (Eq.trans (hO2 61 0 (by omega)).1 (Eq.trans (ui_o (by first | decide | omega)) (Eq.trans (hO1 61 0 (by omega)).1 (Eq.trans (ui_o (by first | decide | omega)) (hO0 61 0 (by omega)).1))))))) ?_
          rw [z_zero_o (by decide)]
          refine z_rcs hc hH 2 (pc' := 76) (lv' := [(3, .int 0), (1, .int 1), (2, .ref 79), (0, .ref 50)]) (st' := [.int 0, .ref 79, .int (μ.1 61 0), .int 0, .ref 61]) (μ' := z_ui W3 79 3 0) (by rfl) ?_
          refine zq_bald hc hH (by rfl) 4 (by decide +kernel) (show vp_in (nI 0) 4 from vp_in_nI (by decide) (by decide)) ?_
          rw [show (0 : Int32).toNatClampNeg = 0 from rfl]
          refine zV1 (Z := Z) (Eq.trans (ui_k (by first | decide | omega)) (Eq.trans (hO3 79 0 (by omega)).1 (Eq.trans (ui_k (by first | decide | omega)) (Eq.trans (hO2 79 0 (by omega)).1 (Eq.trans (ui_k (by first | decide | omega)) (Eq.trans (hO1 79 0 (by omega)).1 (ui_s))))))) ?_
          refine z_rcs hc hH 6 (pc' := 96) (lv' := [(3, .int 0), (1, .int 1), (2, .ref 79), (0, .ref 50)]) (st' := [.int ((μ.1 61 0) + 3000), .int 0, .ref 61]) (μ' := z_ui W3 79 3 0) (by rfl) ?_
          refine zq_iast hc hH (by rfl) 4 (oka_i (by decide +kernel)).2 (show vp_in (nI 0) 4 from vp_in_nI (by decide) (by decide)) ?_
          rw [show (0 : Int32).toNatClampNeg = 0 from rfl]
          show Z 1 97 [(3, .int 0), (1, .int 1), (2, .ref 79), (0, .ref 50)] [] (z_ui (z_ui W3 79 3 0) 61 0 ((μ.1 61 0) + 3000))
          refine z_rcs0 hc hH 6 (pc' := 68) (lv' := [(3, .int 1), (1, .int 1), (2, .ref 79), (0, .ref 50)]) (st' := [.ref 50]) (by rfl) ?_
          refine zq_gfr hc hH (by rfl) (ci := 6) (f := 29) (q := 61) (by rfl) (by decide +kernel) (by rfl) (by decide +kernel) ?_
          refine z_rcs0 hc hH 2 (pc' := 73) (lv' := [(3, .int 1), (1, .int 1), (2, .ref 79), (0, .ref 50)]) (st' := [.int 1, .ref 61, .int 1, .ref 61]) (by rfl) ?_
          refine zq_iald hc hH (by rfl) 4 (oka_i (by decide +kernel)) (show vp_in (nI 1) 4 from vp_in_nI (by decide) (by decide)) ?_
          rw [show (1 : Int32).toNatClampNeg = 1 from rfl]
          refine zV1 (Z := Z) (Eq.trans (ui_k (by first | decide | omega)) (Eq.trans (ui_o (by first | decide | omega)) (Eq.trans (hO3 61 1 (by omega)).1 (Eq.trans (ui_o (by first | decide | omega)) (Eq.trans (hO2 61 1 (by omega)).1 (Eq.trans (ui_o (by first | decide | omega)) (Eq.trans (hO1 61 1 (by omega)).1 (Eq.trans (ui_o (by first | decide | omega)) (hO0 61 1 (by omega)).1)))))))) ?_
          rw [z_zero_o (by decide)]
          refine z_rcs0 hc hH 2 (pc' := 76) (lv' := [(3, .int 1), (1, .int 1), (2, .ref 79), (0, .ref 50)]) (st' := [.int 1, .ref 79, .int (μ.1 61 1), .int 1, .ref 61]) (by rfl) ?_
          refine zq_bald hc hH (by rfl) 4 (by decide +kernel) (show vp_in (nI 1) 4 from vp_in_nI (by decide) (by decide)) ?_
          rw [show (1 : Int32).toNatClampNeg = 1 from rfl]
          refine zV1 (Z := Z) (Eq.trans (ui_o (by first | decide | omega)) (Eq.trans (ui_k (by first | decide | omega)) (Eq.trans (hO3 79 1 (by omega)).1 (Eq.trans (ui_k (by first | decide | omega)) (Eq.trans (hO2 79 1 (by omega)).1 (ui_s)))))) ?_
          refine z_rcs0 hc hH 7 (pc' := 96) (lv' := [(3, .int 1), (1, .int 1), (2, .ref 79), (0, .ref 50)]) (st' := [.int ((μ.1 61 1) + (-1000)), .int 1, .ref 61]) (by rfl) ?_
          refine zq_iast hc hH (by rfl) 4 (oka_i (by decide +kernel)).2 (show vp_in (nI 1) 4 from vp_in_nI (by decide) (by decide)) ?_
          rw [show (1 : Int32).toNatClampNeg = 1 from rfl]
          show Z 1 97 [(3, .int 1), (1, .int 1), (2, .ref 79), (0, .ref 50)] [] (z_ui (z_ui (z_ui W3 79 3 0) 61 0 ((μ.1 61 0) + 3000)) 61 1 ((μ.1 61 1) + (-1000)))
          refine z_rcs0 hc hH 6 (pc' := 68) (lv' := [(3, .int 2), (1, .int 1), (2, .ref 79), (0, .ref 50)]) (st' := [.ref 50]) (by rfl) ?_
          refine zq_gfr hc hH (by rfl) (ci := 6) (f := 29) (q := 61) (by rfl) (by decide +kernel) (by rfl) (by decide +kernel) ?_
          refine z_rcs0 hc hH 2 (pc' := 73) (lv' := [(3, .int 2), (1, .int 1), (2, .ref 79), (0, .ref 50)]) (st' := [.int 2, .ref 61, .int 2, .ref 61]) (by rfl) ?_
          refine zq_iald hc hH (by rfl) 4 (oka_i (by decide +kernel)) (show vp_in (nI 2) 4 from vp_in_nI (by decide) (by decide)) ?_
          rw [show (2 : Int32).toNatClampNeg = 2 from rfl]
          refine zV1 (Z := Z) (Eq.trans (ui_k (by first | decide | omega)) (Eq.trans (ui_k (by first | decide | omega)) (Eq.trans (ui_o (by first | decide | omega)) (Eq.trans (hO3 61 2 (by omega)).1 (Eq.trans (ui_o (by first | decide | omega)) (Eq.trans (hO2 61 2 (by omega)).1 (Eq.trans (ui_o (by first | decide | omega)) (Eq.trans (hO1 61 2 (by omega)).1 (Eq.trans (ui_o (by first | decide | omega)) (hO0 61 2 (by omega)).1))))))))) ?_
          rw [z_zero_o (by decide)]
          refine z_rcs0 hc hH 2 (pc' := 76) (lv' := [(3, .int 2), (1, .int 1), (2, .ref 79), (0, .ref 50)]) (st' := [.int 2, .ref 79, .int (μ.1 61 2), .int 2, .ref 61]) (by rfl) ?_
          refine zq_bald hc hH (by rfl) 4 (by decide +kernel) (show vp_in (nI 2) 4 from vp_in_nI (by decide) (by decide)) ?_
          rw [show (2 : Int32).toNatClampNeg = 2 from rfl]
          refine zV1 (Z := Z) (Eq.trans (ui_o (by first | decide | omega)) (Eq.trans (ui_o (by first | decide | omega)) (Eq.trans (ui_k (by first | decide | omega)) (Eq.trans (hO3 79 2 (by omega)).1 (ui_s))))) ?_
          refine z_rcs0 hc hH 7 (pc' := 96) (lv' := [(3, .int 2), (1, .int 1), (2, .ref 79), (0, .ref 50)]) (st' := [.int ((μ.1 61 2) + (-1000)), .int 2, .ref 61]) (by rfl) ?_
          refine zq_iast hc hH (by rfl) 4 (oka_i (by decide +kernel)).2 (show vp_in (nI 2) 4 from vp_in_nI (by decide) (by decide)) ?_
          rw [show (2 : Int32).toNatClampNeg = 2 from rfl]
          show Z 1 97 [(3, .int 2), (1, .int 1), (2, .ref 79), (0, .ref 50)] [] (z_ui (z_ui (z_ui (z_ui W3 79 3 0) 61 0 ((μ.1 61 0) + 3000)) 61 1 ((μ.1 61 1) + (-1000))) 61 2 ((μ.1 61 2) + (-1000)))
          refine z_rcs0 hc hH 6 (pc' := 68) (lv' := [(3, .int 3), (1, .int 1), (2, .ref 79), (0, .ref 50)]) (st' := [.ref 50]) (by rfl) ?_
          refine zq_gfr hc hH (by rfl) (ci := 6) (f := 29) (q := 61) (by rfl) (by decide +kernel) (by rfl) (by decide +kernel) ?_
          refine z_rcs0 hc hH 2 (pc' := 73) (lv' := [(3, .int 3), (1, .int 1), (2, .ref 79), (0, .ref 50)]) (st' := [.int 3, .ref 61, .int 3, .ref 61]) (by rfl) ?_
          refine zq_iald hc hH (by rfl) 4 (oka_i (by decide +kernel)) (show vp_in (nI 3) 4 from vp_in_nI (by decide) (by decide)) ?_
          rw [show (3 : Int32).toNatClampNeg = 3 from rfl]
          refine zV1 (Z := Z) (Eq.trans (ui_k (by first | decide | omega)) (Eq.trans (ui_k (by first | decide | omega)) (Eq.trans (ui_k (by first | decide | omega)) (Eq.trans (ui_o (by first | decide | omega)) (Eq.trans (hO3 61 3 (by omega)).1 (Eq.trans (ui_o (by first | decide | omega)) (Eq.trans (hO2 61 3 (by omega)).1 (Eq.trans (ui_o (by first | decide | omega)) (Eq.trans (hO1 61 3 (by omega)).1 (Eq.trans (ui_o (by first | decide | omega)) (hO0 61 3 (by omega)).1)))))))))) ?_
          rw [z_zero_o (by decide)]
          refine z_rcs0 hc hH 2 (pc' := 76) (lv' := [(3, .int 3), (1, .int 1), (2, .ref 79), (0, .ref 50)]) (st' := [.int 3, .ref 79, .int (μ.1 61 3), .int 3, .ref 61]) (by rfl) ?_
          refine zq_bald hc hH (by rfl) 4 (by decide +kernel) (show vp_in (nI 3) 4 from vp_in_nI (by decide) (by decide)) ?_
          rw [show (3 : Int32).toNatClampNeg = 3 from rfl]
          refine zV1 (Z := Z) (Eq.trans (ui_o (by first | decide | omega)) (Eq.trans (ui_o (by first | decide | omega)) (Eq.trans (ui_o (by first | decide | omega)) (ui_s)))) ?_
          refine z_rcs0 hc hH 7 (pc' := 96) (lv' := [(3, .int 3), (1, .int 1), (2, .ref 79), (0, .ref 50)]) (st' := [.int ((μ.1 61 3) + (-1000)), .int 3, .ref 61]) (by rfl) ?_
          refine zq_iast hc hH (by rfl) 4 (oka_i (by decide +kernel)).2 (show vp_in (nI 3) 4 from vp_in_nI (by decide) (by decide)) ?_
          rw [show (3 : Int32).toNatClampNeg = 3 from rfl]
          show Z 1 97 [(3, .int 3), (1, .int 1), (2, .ref 79), (0, .ref 50)] [] (z_ui (z_ui (z_ui (z_ui (z_ui W3 79 3 0) 61 0 ((μ.1 61 0) + 3000)) 61 1 ((μ.1 61 1) + (-1000))) 61 2 ((μ.1 61 2) + (-1000))) 61 3 ((μ.1 61 3) + (-1000)))
          refine z_rcs0 hc hH 5 (pc' := 103) (lv' := [(3, .int 4), (1, .int 1), (2, .ref 79), (0, .ref 50)]) (st' := []) (by rfl) ?_
          obtain rfl | rfl | rfl | rfl : dl = 0 ∨ dl = 1 ∨ dl = 2 ∨ dl = 3 := by omega
          · skip
            refine z_rcs0 hc hH 3 (pc' := 106) (lv' := [(3, .int 4), (1, .int 1), (2, .ref 79), (0, .ref 50)]) (st' := [.ref 50, .ref 79, .ref 50]) (by rfl) ?_
            refine zq_gfi hc hH (by rfl) (ci := 6) (f := 40) (by rfl) (by decide +kernel) (by rfl) ?_
            refine zV1 (Z := Z) (Eq.trans (ui_o (by first | decide | omega)) (Eq.trans (ui_o (by first | decide | omega)) (Eq.trans (ui_o (by first | decide | omega)) (Eq.trans (ui_o (by first | decide | omega)) (Eq.trans (ui_o (by first | decide | omega)) (Eq.trans (hO3 50 40 (by omega)).1 (Eq.trans (ui_o (by first | decide | omega)) (Eq.trans (hO2 50 40 (by omega)).1 (Eq.trans (ui_o (by first | decide | omega)) (Eq.trans (hO1 50 40 (by omega)).1 (Eq.trans (ui_o (by first | decide | omega)) (hO0 50 40 (by omega)).1))))))))))) ?_
            rw [(z_zero_o (by decide)).trans hdl]
            refine zq_bald hc hH (by rfl) 4 (by decide +kernel) (vp_in_nI (by omega) (by decide)) ?_
            rw [nI_clamp (by omega)]
            refine zV1 (Z := Z) (Eq.trans (ui_o (by first | decide | omega)) (Eq.trans (ui_o (by first | decide | omega)) (Eq.trans (ui_o (by first | decide | omega)) (Eq.trans (ui_o (by first | decide | omega)) (Eq.trans (ui_k (by first | decide | omega)) (Eq.trans (hO3 79 0 (by omega)).1 (Eq.trans (ui_k (by first | decide | omega)) (Eq.trans (hO2 79 0 (by omega)).1 (Eq.trans (ui_k (by first | decide | omega)) (Eq.trans (hO1 79 0 (by omega)).1 (ui_s))))))))))) ?_
            refine z_rcs0 hc hH 1 (pc' := 111) (lv' := [(3, .int 4), (1, .int 1), (2, .ref 79), (0, .ref 50)]) (st' := [.int 1, .int 1, .ref 50]) (by rfl) ?_
            refine zq_call hc (z_cx_ok hH (by rfl)) (gm_endsB d' (by omega) (z_ui (z_ui (z_ui (z_ui (z_ui W3 79 3 0) 61 0 ((μ.1 61 0) + 3000)) 61 1 ((μ.1 61 1) + (-1000))) 61 2 ((μ.1 61 2) + (-1000))) 61 3 ((μ.1 61 3) + (-1000))) true true 0 e (by rw [ui_o (by first | decide | omega), ui_o (by first | decide | omega), ui_o (by first | decide | omega), ui_o (by first | decide | omega), ui_o (by first | decide | omega), (hO3 50 40 (by omega)).1, ui_o (by first | decide | omega), (hO2 50 40 (by omega)).1, ui_o (by first | decide | omega), (hO1 50 40 (by omega)).1, ui_o (by first | decide | omega), (hO0 50 40 (by omega)).1]; exact (z_zero_o (by decide)).trans hdl) hdl4 he) (by decide +kernel) (fun r9 μ9 hq => ?_)
            obtain ⟨hr9, hm9⟩ := hq
            rw [hr9, hm9]
            clear hr9 hm9
            show Z 1 114 [(3, .int 4), (1, .int 1), (2, .ref 79), (0, .ref 50)] [] (eMB (z_ui (z_ui (z_ui (z_ui (z_ui W3 79 3 0) 61 0 ((μ.1 61 0) + 3000)) 61 1 ((μ.1 61 1) + (-1000))) 61 2 ((μ.1 61 2) + (-1000))) 61 3 ((μ.1 61 3) + (-1000))) true true 0 e)
            exact hr 1 114 _ _ _ none (by decide +kernel) (by rfl) (by refine ⟨rfl, ?_⟩; unfold nM1000; exact SM_eMB (SM_ui (SM_ui (SM_ui (SM_ui (SM_ui (SM_tr (SM_ui (SM_tr (SM_ui (SM_tr (SM_ui (SM_tr (SM_rf _) hO0)) hO1)) hO2)) hO3)))))))
          · skip
            refine z_rcs hc hH 3 (pc' := 106) (lv' := [(3, .int 4), (1, .int 1), (2, .ref 79), (0, .ref 50)]) (st' := [.ref 50, .ref 79, .ref 50]) (μ' := z_ui (z_ui (z_ui (z_ui (z_ui W3 79 3 0) 61 0 ((μ.1 61 0) + 3000)) 61 1 ((μ.1 61 1) + (-1000))) 61 2 ((μ.1 61 2) + (-1000))) 61 3 ((μ.1 61 3) + (-1000))) (by rfl) ?_
            refine zq_gfi hc hH (by rfl) (ci := 6) (f := 40) (by rfl) (by decide +kernel) (by rfl) ?_
            refine zV1 (Z := Z) (Eq.trans (ui_o (by first | decide | omega)) (Eq.trans (ui_o (by first | decide | omega)) (Eq.trans (ui_o (by first | decide | omega)) (Eq.trans (ui_o (by first | decide | omega)) (Eq.trans (ui_o (by first | decide | omega)) (Eq.trans (hO3 50 40 (by omega)).1 (Eq.trans (ui_o (by first | decide | omega)) (Eq.trans (hO2 50 40 (by omega)).1 (Eq.trans (ui_o (by first | decide | omega)) (Eq.trans (hO1 50 40 (by omega)).1 (Eq.trans (ui_o (by first | decide | omega)) (hO0 50 40 (by omega)).1))))))))))) ?_
            rw [(z_zero_o (by decide)).trans hdl]
            refine zq_bald hc hH (by rfl) 4 (by decide +kernel) (vp_in_nI (by omega) (by decide)) ?_
            rw [nI_clamp (by omega)]
            refine zV1 (Z := Z) (Eq.trans (ui_o (by first | decide | omega)) (Eq.trans (ui_o (by first | decide | omega)) (Eq.trans (ui_o (by first | decide | omega)) (Eq.trans (ui_o (by first | decide | omega)) (Eq.trans (ui_k (by first | decide | omega)) (Eq.trans (hO3 79 1 (by omega)).1 (Eq.trans (ui_k (by first | decide | omega)) (Eq.trans (hO2 79 1 (by omega)).1 (ui_s))))))))) ?_
            refine z_rcs0 hc hH 1 (pc' := 111) (lv' := [(3, .int 4), (1, .int 1), (2, .ref 79), (0, .ref 50)]) (st' := [.int 1, .int 0, .ref 50]) (by rfl) ?_
            refine zq_call hc (z_cx_ok hH (by rfl)) (gm_endsB d' (by omega) (z_ui (z_ui (z_ui (z_ui (z_ui W3 79 3 0) 61 0 ((μ.1 61 0) + 3000)) 61 1 ((μ.1 61 1) + (-1000))) 61 2 ((μ.1 61 2) + (-1000))) 61 3 ((μ.1 61 3) + (-1000))) false true 1 e (by rw [ui_o (by first | decide | omega), ui_o (by first | decide | omega), ui_o (by first | decide | omega), ui_o (by first | decide | omega), ui_o (by first | decide | omega), (hO3 50 40 (by omega)).1, ui_o (by first | decide | omega), (hO2 50 40 (by omega)).1, ui_o (by first | decide | omega), (hO1 50 40 (by omega)).1, ui_o (by first | decide | omega), (hO0 50 40 (by omega)).1]; exact (z_zero_o (by decide)).trans hdl) hdl4 he) (by decide +kernel) (fun r9 μ9 hq => ?_)
            obtain ⟨hr9, hm9⟩ := hq
            rw [hr9, hm9]
            clear hr9 hm9
            show Z 1 114 [(3, .int 4), (1, .int 1), (2, .ref 79), (0, .ref 50)] [] (eMB (z_ui (z_ui (z_ui (z_ui (z_ui W3 79 3 0) 61 0 ((μ.1 61 0) + 3000)) 61 1 ((μ.1 61 1) + (-1000))) 61 2 ((μ.1 61 2) + (-1000))) 61 3 ((μ.1 61 3) + (-1000))) false true 1 e)
            exact hr 1 114 _ _ _ none (by decide +kernel) (by rfl) (by refine ⟨rfl, ?_⟩; unfold nM1000; exact SM_eMB (SM_ui (SM_ui (SM_ui (SM_ui (SM_ui (SM_tr (SM_ui (SM_tr (SM_ui (SM_tr (SM_ui (SM_tr (SM_rf _) hO0)) hO1)) hO2)) hO3)))))))
          · skip
            refine z_rcs hc hH 3 (pc' := 106) (lv' := [(3, .int 4), (1, .int 1), (2, .ref 79), (0, .ref 50)]) (st' := [.ref 50, .ref 79, .ref 50]) (μ' := z_ui (z_ui (z_ui (z_ui (z_ui W3 79 3 0) 61 0 ((μ.1 61 0) + 3000)) 61 1 ((μ.1 61 1) + (-1000))) 61 2 ((μ.1 61 2) + (-1000))) 61 3 ((μ.1 61 3) + (-1000))) (by rfl) ?_
            refine zq_gfi hc hH (by rfl) (ci := 6) (f := 40) (by rfl) (by decide +kernel) (by rfl) ?_
            refine zV1 (Z := Z) (Eq.trans (ui_o (by first | decide | omega)) (Eq.trans (ui_o (by first | decide | omega)) (Eq.trans (ui_o (by first | decide | omega)) (Eq.trans (ui_o (by first | decide | omega)) (Eq.trans (ui_o (by first | decide | omega)) (Eq.trans (hO3 50 40 (by omega)).1 (Eq.trans (ui_o (by first | decide | omega)) (Eq.trans (hO2 50 40 (by omega)).1 (Eq.trans (ui_o (by first | decide | omega)) (Eq.trans (hO1 50 40 (by omega)).1 (Eq.trans (ui_o (by first | decide | omega)) (hO0 50 40 (by omega)).1))))))))))) ?_
            rw [(z_zero_o (by decide)).trans hdl]
            refine zq_bald hc hH (by rfl) 4 (by decide +kernel) (vp_in_nI (by omega) (by decide)) ?_
            rw [nI_clamp (by omega)]
            refine zV1 (Z := Z) (Eq.trans (ui_o (by first | decide | omega)) (Eq.trans (ui_o (by first | decide | omega)) (Eq.trans (ui_o (by first | decide | omega)) (Eq.trans (ui_o (by first | decide | omega)) (Eq.trans (ui_k (by first | decide | omega)) (Eq.trans (hO3 79 2 (by omega)).1 (ui_s))))))) ?_
            refine z_rcs0 hc hH 1 (pc' := 111) (lv' := [(3, .int 4), (1, .int 1), (2, .ref 79), (0, .ref 50)]) (st' := [.int 1, .int 0, .ref 50]) (by rfl) ?_
            refine zq_call hc (z_cx_ok hH (by rfl)) (gm_endsB d' (by omega) (z_ui (z_ui (z_ui (z_ui (z_ui W3 79 3 0) 61 0 ((μ.1 61 0) + 3000)) 61 1 ((μ.1 61 1) + (-1000))) 61 2 ((μ.1 61 2) + (-1000))) 61 3 ((μ.1 61 3) + (-1000))) false true 2 e (by rw [ui_o (by first | decide | omega), ui_o (by first | decide | omega), ui_o (by first | decide | omega), ui_o (by first | decide | omega), ui_o (by first | decide | omega), (hO3 50 40 (by omega)).1, ui_o (by first | decide | omega), (hO2 50 40 (by omega)).1, ui_o (by first | decide | omega), (hO1 50 40 (by omega)).1, ui_o (by first | decide | omega), (hO0 50 40 (by omega)).1]; exact (z_zero_o (by decide)).trans hdl) hdl4 he) (by decide +kernel) (fun r9 μ9 hq => ?_)
            obtain ⟨hr9, hm9⟩ := hq
            rw [hr9, hm9]
            clear hr9 hm9
            show Z 1 114 [(3, .int 4), (1, .int 1), (2, .ref 79), (0, .ref 50)] [] (eMB (z_ui (z_ui (z_ui (z_ui (z_ui W3 79 3 0) 61 0 ((μ.1 61 0) + 3000)) 61 1 ((μ.1 61 1) + (-1000))) 61 2 ((μ.1 61 2) + (-1000))) 61 3 ((μ.1 61 3) + (-1000))) false true 2 e)
            exact hr 1 114 _ _ _ none (by decide +kernel) (by rfl) (by refine ⟨rfl, ?_⟩; unfold nM1000; exact SM_eMB (SM_ui (SM_ui (SM_ui (SM_ui (SM_ui (SM_tr (SM_ui (SM_tr (SM_ui (SM_tr (SM_ui (SM_tr (SM_rf _) hO0)) hO1)) hO2)) hO3)))))))
          · skip
            refine z_rcs hc hH 3 (pc' := 106) (lv' := [(3, .int 4), (1, .int 1), (2, .ref 79), (0, .ref 50)]) (st' := [.ref 50, .ref 79, .ref 50]) (μ' := z_ui (z_ui (z_ui (z_ui (z_ui W3 79 3 0) 61 0 ((μ.1 61 0) + 3000)) 61 1 ((μ.1 61 1) + (-1000))) 61 2 ((μ.1 61 2) + (-1000))) 61 3 ((μ.1 61 3) + (-1000))) (by rfl) ?_
            refine zq_gfi hc hH (by rfl) (ci := 6) (f := 40) (by rfl) (by decide +kernel) (by rfl) ?_
            refine zV1 (Z := Z) (Eq.trans (ui_o (by first | decide | omega)) (Eq.trans (ui_o (by first | decide | omega)) (Eq.trans (ui_o (by first | decide | omega)) (Eq.trans (ui_o (by first | decide | omega)) (Eq.trans (ui_o (by first | decide | omega)) (Eq.trans (hO3 50 40 (by omega)).1 (Eq.trans (ui_o (by first | decide | omega)) (Eq.trans (hO2 50 40 (by omega)).1 (Eq.trans (ui_o (by first | decide | omega)) (Eq.trans (hO1 50 40 (by omega)).1 (Eq.trans (ui_o (by first | decide | omega)) (hO0 50 40 (by omega)).1))))))))))) ?_
            rw [(z_zero_o (by decide)).trans hdl]
            refine zq_bald hc hH (by rfl) 4 (by decide +kernel) (vp_in_nI (by omega) (by decide)) ?_
            rw [nI_clamp (by omega)]
            refine zV1 (Z := Z) (Eq.trans (ui_o (by first | decide | omega)) (Eq.trans (ui_o (by first | decide | omega)) (Eq.trans (ui_o (by first | decide | omega)) (Eq.trans (ui_o (by first | decide | omega)) (ui_s))))) ?_
            refine z_rcs0 hc hH 1 (pc' := 111) (lv' := [(3, .int 4), (1, .int 1), (2, .ref 79), (0, .ref 50)]) (st' := [.int 1, .int 0, .ref 50]) (by rfl) ?_
            refine zq_call hc (z_cx_ok hH (by rfl)) (gm_endsB d' (by omega) (z_ui (z_ui (z_ui (z_ui (z_ui W3 79 3 0) 61 0 ((μ.1 61 0) + 3000)) 61 1 ((μ.1 61 1) + (-1000))) 61 2 ((μ.1 61 2) + (-1000))) 61 3 ((μ.1 61 3) + (-1000))) false true 3 e (by rw [ui_o (by first | decide | omega), ui_o (by first | decide | omega), ui_o (by first | decide | omega), ui_o (by first | decide | omega), ui_o (by first | decide | omega), (hO3 50 40 (by omega)).1, ui_o (by first | decide | omega), (hO2 50 40 (by omega)).1, ui_o (by first | decide | omega), (hO1 50 40 (by omega)).1, ui_o (by first | decide | omega), (hO0 50 40 (by omega)).1]; exact (z_zero_o (by decide)).trans hdl) hdl4 he) (by decide +kernel) (fun r9 μ9 hq => ?_)
            obtain ⟨hr9, hm9⟩ := hq
            rw [hr9, hm9]
            clear hr9 hm9
            show Z 1 114 [(3, .int 4), (1, .int 1), (2, .ref 79), (0, .ref 50)] [] (eMB (z_ui (z_ui (z_ui (z_ui (z_ui W3 79 3 0) 61 0 ((μ.1 61 0) + 3000)) 61 1 ((μ.1 61 1) + (-1000))) 61 2 ((μ.1 61 2) + (-1000))) 61 3 ((μ.1 61 3) + (-1000))) false true 3 e)
            exact hr 1 114 _ _ _ none (by decide +kernel) (by rfl) (by refine ⟨rfl, ?_⟩; unfold nM1000; exact SM_eMB (SM_ui (SM_ui (SM_ui (SM_ui (SM_ui (SM_tr (SM_ui (SM_tr (SM_ui (SM_tr (SM_ui (SM_tr (SM_rf _) hO0)) hO1)) hO2)) hO3)))))))
        · have h4 : (decide ((lg_cmp w3 0) = 0)) = false := decide_eq_false (cn_eq.mp h4)
          exact absurd (Eq.trans (Eq.symm (hb3)) h4) (by decide)
      · have h3 : (decide ((lg_cmp w2 0) = 0)) = false := decide_eq_false (cn_eq.mp h3)
        exact absurd (Eq.trans (Eq.symm (hb2)) h3) (by decide)
    · have h2 : (decide ((lg_cmp w1 0) = 0)) = false := decide_eq_false (cn_eq.mp h2)
      exact absurd (Eq.trans (Eq.symm (hb1)) h2) (by decide)
noncomputable def nM1001 (μ : zM) : zM := z_ui (z_ui (z_ui (z_ui (z_ui (z_ui (z_ui (z_ui (z_zero μ) 79 0 1) 79 1 0) 79 2 0) 79 3 1) 61 0 ((μ.1 61 0) + 1500)) 61 1 ((μ.1 61 1) + (-1500))) 61 2 ((μ.1 61 2) + (-1500))) 61 3 ((μ.1 61 3) + 1500)
theorem gm_nobody1001 (d : Nat) (hd : 700 ≤ d) (μ : zM) (hH0 : a_H μ) (dl e : Nat) (hdl : μ.1 50 40 = nI dl) (hdl4 : dl < 4) (he : (dl + 1) % 4 = e) (w0 : Int64) (hw0 : ∀ M, SE μ M → a_H M → ∀ d, 699 ≤ d → z_C d mi_X7_waitsAt [.ref 50, .int 0] M (fun r W => r = some (.long w0) ∧ SMj M W ∧ a_H W)) (hb0 : decide (lg_cmp w0 0 = 0) = false) (w1 : Int64) (hw1 : ∀ M, SE μ M → a_H M → ∀ d, 699 ≤ d → z_C d mi_X7_waitsAt [.ref 50, .int 1] M (fun r W => r = some (.long w1) ∧ SMj M W ∧ a_H W)) (hb1 : decide (lg_cmp w1 0 = 0) = true) (w2 : Int64) (hw2 : ∀ M, SE μ M → a_H M → ∀ d, 699 ≤ d → z_C d mi_X7_waitsAt [.ref 50, .int 2] M (fun r W => r = some (.long w2) ∧ SMj M W ∧ a_H W)) (hb2 : decide (lg_cmp w2 0 = 0) = true) (w3 : Int64) (hw3 : ∀ M, SE μ M → a_H M → ∀ d, 699 ≤ d → z_C d mi_X7_waitsAt [.ref 50, .int 3] M (fun r W => r = some (.long w3) ∧ SMj M W ∧ a_H W)) (hb3 : decide (lg_cmp w3 0 = 0) = false) : z_C d mi_X7_nobodyWins [.ref 50] μ (fun r μ' => r = none ∧ SMj (eMB (nM1001 μ) (nbS true false false true dl) true dl e) μ') := by
  obtain ⟨d', rfl⟩ : ∃ d', d = d' + 1 := ⟨d - 1, by omega⟩
  intro Z hc hr
  refine ⟨rfl, ?_⟩
  have hH := zh_X7_nobodyWins
  refine z_rcs hc hH 9 (pc' := 17) (lv' := [(3, .int 0), (2, .ref 79), (1, .int 0), (0, .ref 50)]) (st' := [.int 0, .ref 50, .int 0, .ref 79]) (μ' := z_zero μ) (by rfl) ?_
  refine zq_call hc (z_cx_ok hH (by rfl)) (hw0 _ (SE_zr _) (a_H_zero hH0) d' (by omega)) (by decide +kernel) (fun r9 W0 hq => ?_)
  obtain ⟨rfl, hO0, hA0⟩ := hq
  show Z 1 20 [(3, .int 0), (2, .ref 79), (1, .int 0), (0, .ref 50)] [.long w0, .int 0, .ref 79] W0
  refine z_rcs hc hH 2 (pc' := 22) (lv' := [(3, .int 0), (2, .ref 79), (1, .int 0), (0, .ref 50)]) (st' := [.int (lg_cmp w0 0), .int 0, .ref 79]) (μ' := W0) (by rfl) ?_
  refine zq_if hc hH (by rfl) (tg := 29) (by rfl) (fun h1 => ?_) (fun h1 => ?_)
  · have h1 : (decide ((lg_cmp w0 0) = 0)) = true := decide_eq_true (cm_eq9.mp h1)
    exact absurd (Eq.trans (Eq.symm (hb0)) h1) (by decide)
  · have h1 : (decide ((lg_cmp w0 0) = 0)) = false := decide_eq_false (cn_eq.mp h1)
    refine z_rcs hc hH 2 (pc' := 30) (lv' := [(3, .int 0), (2, .ref 79), (1, .int 0), (0, .ref 50)]) (st' := [.int 1, .int 0, .ref 79]) (μ' := W0) (by rfl) ?_
    refine zq_bast hc hH (by rfl) 4 (by decide +kernel) (show vp_in (nI 0) 4 from vp_in_nI (by decide) (by decide)) (by decide) ?_
    rw [show (0 : Int32).toNatClampNeg = 0 from rfl]
    show Z 1 31 [(3, .int 0), (2, .ref 79), (1, .int 0), (0, .ref 50)] [] (z_ui W0 79 0 1)
    refine z_rcs hc hH 3 (pc' := 34) (lv' := [(3, .int 0), (2, .ref 79), (1, .int 0), (0, .ref 50)]) (st' := [.int 0, .ref 79, .int 0]) (μ' := z_ui W0 79 0 1) (by rfl) ?_
    refine zq_bald hc hH (by rfl) 4 (by decide +kernel) (show vp_in (nI 0) 4 from vp_in_nI (by decide) (by decide)) ?_
    rw [show (0 : Int32).toNatClampNeg = 0 from rfl]
    rw [ui_s]
    refine z_rcs hc hH 14 (pc' := 17) (lv' := [(3, .int 1), (1, .int 1), (2, .ref 79), (0, .ref 50)]) (st' := [.int 1, .ref 50, .int 1, .ref 79]) (μ' := z_ui W0 79 0 1) (by rfl) ?_
    refine zq_call hc (z_cx_ok hH (by rfl)) (hw1 _ (SE_ui (SE_sm (SE_zr _) hO0) (by omega)) (a_H_ui (r := 79) (k := 0) (hA0) ⟨by decide, by decide⟩) d' (by omega)) (by decide +kernel) (fun r9 W1 hq => ?_)
    obtain ⟨rfl, hO1, hA1⟩ := hq
    show Z 1 20 [(3, .int 1), (1, .int 1), (2, .ref 79), (0, .ref 50)] [.long w1, .int 1, .ref 79] W1
    refine z_rcs hc hH 2 (pc' := 22) (lv' := [(3, .int 1), (1, .int 1), (2, .ref 79), (0, .ref 50)]) (st' := [.int (lg_cmp w1 0), .int 1, .ref 79]) (μ' := W1) (by rfl) ?_
    refine zq_if hc hH (by rfl) (tg := 29) (by rfl) (fun h2 => ?_) (fun h2 => ?_)
    · have h2 : (decide ((lg_cmp w1 0) = 0)) = true := decide_eq_true (cm_eq9.mp h2)
      refine z_rcs hc hH 1 (pc' := 30) (lv' := [(3, .int 1), (1, .int 1), (2, .ref 79), (0, .ref 50)]) (st' := [.int 0, .int 1, .ref 79]) (μ' := W1) (by rfl) ?_
      refine zq_bast hc hH (by rfl) 4 (by decide +kernel) (show vp_in (nI 1) 4 from vp_in_nI (by decide) (by decide)) (by decide) ?_
      rw [show (1 : Int32).toNatClampNeg = 1 from rfl]
      show Z 1 31 [(3, .int 1), (1, .int 1), (2, .ref 79), (0, .ref 50)] [] (z_ui W1 79 1 0)
      refine z_rcs hc hH 3 (pc' := 34) (lv' := [(3, .int 1), (1, .int 1), (2, .ref 79), (0, .ref 50)]) (st' := [.int 1, .ref 79, .int 1]) (μ' := z_ui W1 79 1 0) (by rfl) ?_
      refine zq_bald hc hH (by rfl) 4 (by decide +kernel) (show vp_in (nI 1) 4 from vp_in_nI (by decide) (by decide)) ?_
      rw [show (1 : Int32).toNatClampNeg = 1 from rfl]
      rw [ui_s]
      refine z_rcs hc hH 13 (pc' := 17) (lv' := [(3, .int 2), (1, .int 1), (2, .ref 79), (0, .ref 50)]) (st' := [.int 2, .ref 50, .int 2, .ref 79]) (μ' := z_ui W1 79 1 0) (by rfl) ?_
      refine zq_call hc (z_cx_ok hH (by rfl)) (hw2 _ (SE_ui (SE_sm (SE_ui (SE_sm (SE_zr _) hO0) (by omega)) hO1) (by omega)) (a_H_ui (r := 79) (k := 1) (hA1) ⟨by decide, by decide⟩) d' (by omega)) (by decide +kernel) (fun r9 W2 hq => ?_)
      obtain ⟨rfl, hO2, hA2⟩ := hq
      show Z 1 20 [(3, .int 2), (1, .int 1), (2, .ref 79), (0, .ref 50)] [.long w2, .int 2, .ref 79] W2
      refine z_rcs hc hH 2 (pc' := 22) (lv' := [(3, .int 2), (1, .int 1), (2, .ref 79), (0, .ref 50)]) (st' := [.int (lg_cmp w2 0), .int 2, .ref 79]) (μ' := W2) (by rfl) ?_
      refine zq_if hc hH (by rfl) (tg := 29) (by rfl) (fun h3 => ?_) (fun h3 => ?_)
      · have h3 : (decide ((lg_cmp w2 0) = 0)) = true := decide_eq_true (cm_eq9.mp h3)
        refine z_rcs hc hH 1 (pc' := 30) (lv' := [(3, .int 2), (1, .int 1), (2, .ref 79), (0, .ref 50)]) (st' := [.int 0, .int 2, .ref 79]) (μ' := W2) (by rfl) ?_
        refine zq_bast hc hH (by rfl) 4 (by decide +kernel) (show vp_in (nI 2) 4 from vp_in_nI (by decide) (by decide)) (by decide) ?_
        rw [show (2 : Int32).toNatClampNeg = 2 from rfl]
        show Z 1 31 [(3, .int 2), (1, .int 1), (2, .ref 79), (0, .ref 50)] [] (z_ui W2 79 2 0)
        refine z_rcs hc hH 3 (pc' := 34) (lv' := [(3, .int 2), (1, .int 1), (2, .ref 79), (0, .ref 50)]) (st' := [.int 2, .ref 79, .int 1]) (μ' := z_ui W2 79 2 0) (by rfl) ?_
        refine zq_bald hc hH (by rfl) 4 (by decide +kernel) (show vp_in (nI 2) 4 from vp_in_nI (by decide) (by decide)) ?_
        rw [show (2 : Int32).toNatClampNeg = 2 from rfl]
        rw [ui_s]
        refine z_rcs hc hH 13 (pc' := 17) (lv' := [(3, .int 3), (1, .int 1), (2, .ref 79), (0, .ref 50)]) (st' := [.int 3, .ref 50, .int 3, .ref 79]) (μ' := z_ui W2 79 2 0) (by rfl) ?_
        refine zq_call hc (z_cx_ok hH (by rfl)) (hw3 _ (SE_ui (SE_sm (SE_ui (SE_sm (SE_ui (SE_sm (SE_zr _) hO0) (by omega)) hO1) (by omega)) hO2) (by omega)) (a_H_ui (r := 79) (k := 2) (hA2) ⟨by decide, by decide⟩) d' (by omega)) (by decide +kernel) (fun r9 W3 hq => ?_)
        obtain ⟨rfl, hO3, hA3⟩ := hq
        show Z 1 20 [(3, .int 3), (1, .int 1), (2, .ref 79), (0, .ref 50)] [.long w3, .int 3, .ref 79] W3
        refine z_rcs hc hH 2 (pc' := 22) (lv' := [(3, .int 3), (1, .int 1), (2, .ref 79), (0, .ref 50)]) (st' := [.int (lg_cmp w3 0), .int 3, .ref 79]) (μ' := W3) (by rfl) ?_
        refine zq_if hc hH (by rfl) (tg := 29) (by rfl) (fun h4 => ?_) (fun h4 => ?_)
        · have h4 : (decide ((lg_cmp w3 0) = 0)) = true := decide_eq_true (cm_eq9.mp h4)
          exact absurd (Eq.trans (Eq.symm (hb3)) h4) (by decide)
        · have h4 : (decide ((lg_cmp w3 0) = 0)) = false := decide_eq_false (cn_eq.mp h4)
          refine z_rcs hc hH 2 (pc' := 30) (lv' := [(3, .int 3), (1, .int 1), (2, .ref 79), (0, .ref 50)]) (st' := [.int 1, .int 3, .ref 79]) (μ' := W3) (by rfl) ?_
          refine zq_bast hc hH (by rfl) 4 (by decide +kernel) (show vp_in (nI 3) 4 from vp_in_nI (by decide) (by decide)) (by decide) ?_
          rw [show (3 : Int32).toNatClampNeg = 3 from rfl]
          show Z 1 31 [(3, .int 3), (1, .int 1), (2, .ref 79), (0, .ref 50)] [] (z_ui W3 79 3 1)
          refine z_rcs hc hH 3 (pc' := 34) (lv' := [(3, .int 3), (1, .int 1), (2, .ref 79), (0, .ref 50)]) (st' := [.int 3, .ref 79, .int 1]) (μ' := z_ui W3 79 3 1) (by rfl) ?_
          refine zq_bald hc hH (by rfl) 4 (by decide +kernel) (show vp_in (nI 3) 4 from vp_in_nI (by decide) (by decide)) ?_
          rw [show (3 : Int32).toNatClampNeg = 3 from rfl]
          rw [ui_s]
          refine z_rcs hc hH 21 (pc' := 68) (lv' := [(3, .int 0), (1, .int 2), (2, .ref 79), (0, .ref 50)]) (st' := [.ref 50]) (μ' := z_ui W3 79 3 1) (by rfl) ?_
          refine zq_gfr hc hH (by rfl) (ci := 6) (f := 29) (q := 61) (by rfl) (by decide +kernel) (by rfl) (by decide +kernel) ?_
          refine z_rcs hc hH 2 (pc' := 73) (lv' := [(3, .int 0), (1, .int 2), (2, .ref 79), (0, .ref 50)]) (st' := [.int 0, .ref 61, .int 0, .ref 61]) (μ' := z_ui W3 79 3 1) (by rfl) ?_
          refine zq_iald hc hH (by rfl) 4 (oka_i (by decide +kernel)) (show vp_in (nI 0) 4 from vp_in_nI (by decide) (by decide)) ?_
          rw [show (0 : Int32).toNatClampNeg = 0 from rfl]
          refine zV1 (Z := Z) (Eq.trans (ui_o (by first | decide | omega)) (Eq.trans (hO3 61 0 (by omega)).1 (Eq.trans (ui_o (by first | decide | omega)) (Eq.trans (hO2 61 0 (by omega)).1 (Eq.trans (ui_o (by first | decide | omega)) (Eq.trans (hO1 61 0 (by omega)).1 (Eq.trans (ui_o (by first | decide | omega)) (hO0 61 0 (by omega)).1))))))) ?_
          rw [z_zero_o (by decide)]
          refine z_rcs hc hH 2 (pc' := 76) (lv' := [(3, .int 0), (1, .int 2), (2, .ref 79), (0, .ref 50)]) (st' := [.int 0, .ref 79, .int (μ.1 61 0), .int 0, .ref 61]) (μ' := z_ui W3 79 3 1) (by rfl) ?_
          refine zq_bald hc hH (by rfl) 4 (by decide +kernel) (show vp_in (nI 0) 4 from vp_in_nI (by decide) (by decide)) ?_
          rw [show (0 : Int32).toNatClampNeg = 0 from rfl]
          refine zV1 (Z := Z) (Eq.trans (ui_k (by first | decide | omega)) (Eq.trans (hO3 79 0 (by omega)).1 (Eq.trans (ui_k (by first | decide | omega)) (Eq.trans (hO2 79 0 (by omega)).1 (Eq.trans (ui_k (by first | decide | omega)) (Eq.trans (hO1 79 0 (by omega)).1 (ui_s))))))) ?_
          refine z_rcs hc hH 6 (pc' := 96) (lv' := [(3, .int 0), (1, .int 2), (2, .ref 79), (0, .ref 50)]) (st' := [.int ((μ.1 61 0) + 1500), .int 0, .ref 61]) (μ' := z_ui W3 79 3 1) (by rfl) ?_
          refine zq_iast hc hH (by rfl) 4 (oka_i (by decide +kernel)).2 (show vp_in (nI 0) 4 from vp_in_nI (by decide) (by decide)) ?_
          rw [show (0 : Int32).toNatClampNeg = 0 from rfl]
          show Z 1 97 [(3, .int 0), (1, .int 2), (2, .ref 79), (0, .ref 50)] [] (z_ui (z_ui W3 79 3 1) 61 0 ((μ.1 61 0) + 1500))
          refine z_rcs0 hc hH 6 (pc' := 68) (lv' := [(3, .int 1), (1, .int 2), (2, .ref 79), (0, .ref 50)]) (st' := [.ref 50]) (by rfl) ?_
          refine zq_gfr hc hH (by rfl) (ci := 6) (f := 29) (q := 61) (by rfl) (by decide +kernel) (by rfl) (by decide +kernel) ?_
          refine z_rcs0 hc hH 2 (pc' := 73) (lv' := [(3, .int 1), (1, .int 2), (2, .ref 79), (0, .ref 50)]) (st' := [.int 1, .ref 61, .int 1, .ref 61]) (by rfl) ?_
          refine zq_iald hc hH (by rfl) 4 (oka_i (by decide +kernel)) (show vp_in (nI 1) 4 from vp_in_nI (by decide) (by decide)) ?_
          rw [show (1 : Int32).toNatClampNeg = 1 from rfl]
          refine zV1 (Z := Z) (Eq.trans (ui_k (by first | decide | omega)) (Eq.trans (ui_o (by first | decide | omega)) (Eq.trans (hO3 61 1 (by omega)).1 (Eq.trans (ui_o (by first | decide | omega)) (Eq.trans (hO2 61 1 (by omega)).1 (Eq.trans (ui_o (by first | decide | omega)) (Eq.trans (hO1 61 1 (by omega)).1 (Eq.trans (ui_o (by first | decide | omega)) (hO0 61 1 (by omega)).1)))))))) ?_
          rw [z_zero_o (by decide)]
          refine z_rcs0 hc hH 2 (pc' := 76) (lv' := [(3, .int 1), (1, .int 2), (2, .ref 79), (0, .ref 50)]) (st' := [.int 1, .ref 79, .int (μ.1 61 1), .int 1, .ref 61]) (by rfl) ?_
          refine zq_bald hc hH (by rfl) 4 (by decide +kernel) (show vp_in (nI 1) 4 from vp_in_nI (by decide) (by decide)) ?_
          rw [show (1 : Int32).toNatClampNeg = 1 from rfl]
          refine zV1 (Z := Z) (Eq.trans (ui_o (by first | decide | omega)) (Eq.trans (ui_k (by first | decide | omega)) (Eq.trans (hO3 79 1 (by omega)).1 (Eq.trans (ui_k (by first | decide | omega)) (Eq.trans (hO2 79 1 (by omega)).1 (ui_s)))))) ?_
          refine z_rcs0 hc hH 7 (pc' := 96) (lv' := [(3, .int 1), (1, .int 2), (2, .ref 79), (0, .ref 50)]) (st' := [.int ((μ.1 61 1) + (-1500)), .int 1, .ref 61]) (by rfl) ?_
          refine zq_iast hc hH (by rfl) 4 (oka_i (by decide +kernel)).2 (show vp_in (nI 1) 4 from vp_in_nI (by decide) (by decide)) ?_
          rw [show (1 : Int32).toNatClampNeg = 1 from rfl]
          show Z 1 97 [(3, .int 1), (1, .int 2), (2, .ref 79), (0, .ref 50)] [] (z_ui (z_ui (z_ui W3 79 3 1) 61 0 ((μ.1 61 0) + 1500)) 61 1 ((μ.1 61 1) + (-1500)))
          refine z_rcs0 hc hH 6 (pc' := 68) (lv' := [(3, .int 2), (1, .int 2), (2, .ref 79), (0, .ref 50)]) (st' := [.ref 50]) (by rfl) ?_
          refine zq_gfr hc hH (by rfl) (ci := 6) (f := 29) (q := 61) (by rfl) (by decide +kernel) (by rfl) (by decide +kernel) ?_
          refine z_rcs0 hc hH 2 (pc' := 73) (lv' := [(3, .int 2), (1, .int 2), (2, .ref 79), (0, .ref 50)]) (st' := [.int 2, .ref 61, .int 2, .ref 61]) (by rfl) ?_
          refine zq_iald hc hH (by rfl) 4 (oka_i (by decide +kernel)) (show vp_in (nI 2) 4 from vp_in_nI (by decide) (by decide)) ?_
          rw [show (2 : Int32).toNatClampNeg = 2 from rfl]
          refine zV1 (Z := Z) (Eq.trans (ui_k (by first | decide | omega)) (Eq.trans (ui_k (by first | decide | omega)) (Eq.trans (ui_o (by first | decide | omega)) (Eq.trans (hO3 61 2 (by omega)).1 (Eq.trans (ui_o (by first | decide | omega)) (Eq.trans (hO2 61 2 (by omega)).1 (Eq.trans (ui_o (by first | decide | omega)) (Eq.trans (hO1 61 2 (by omega)).1 (Eq.trans (ui_o (by first | decide | omega)) (hO0 61 2 (by omega)).1))))))))) ?_
          rw [z_zero_o (by decide)]
          refine z_rcs0 hc hH 2 (pc' := 76) (lv' := [(3, .int 2), (1, .int 2), (2, .ref 79), (0, .ref 50)]) (st' := [.int 2, .ref 79, .int (μ.1 61 2), .int 2, .ref 61]) (by rfl) ?_
          refine zq_bald hc hH (by rfl) 4 (by decide +kernel) (show vp_in (nI 2) 4 from vp_in_nI (by decide) (by decide)) ?_
          rw [show (2 : Int32).toNatClampNeg = 2 from rfl]
          refine zV1 (Z := Z) (Eq.trans (ui_o (by first | decide | omega)) (Eq.trans (ui_o (by first | decide | omega)) (Eq.trans (ui_k (by first | decide | omega)) (Eq.trans (hO3 79 2 (by omega)).1 (ui_s))))) ?_
          refine z_rcs0 hc hH 7 (pc' := 96) (lv' := [(3, .int 2), (1, .int 2), (2, .ref 79), (0, .ref 50)]) (st' := [.int ((μ.1 61 2) + (-1500)), .int 2, .ref 61]) (by rfl) ?_
          refine zq_iast hc hH (by rfl) 4 (oka_i (by decide +kernel)).2 (show vp_in (nI 2) 4 from vp_in_nI (by decide) (by decide)) ?_
          rw [show (2 : Int32).toNatClampNeg = 2 from rfl]
          show Z 1 97 [(3, .int 2), (1, .int 2), (2, .ref 79), (0, .ref 50)] [] (z_ui (z_ui (z_ui (z_ui W3 79 3 1) 61 0 ((μ.1 61 0) + 1500)) 61 1 ((μ.1 61 1) + (-1500))) 61 2 ((μ.1 61 2) + (-1500)))
          refine z_rcs0 hc hH 6 (pc' := 68) (lv' := [(3, .int 3), (1, .int 2), (2, .ref 79), (0, .ref 50)]) (st' := [.ref 50]) (by rfl) ?_
          refine zq_gfr hc hH (by rfl) (ci := 6) (f := 29) (q := 61) (by rfl) (by decide +kernel) (by rfl) (by decide +kernel) ?_
          refine z_rcs0 hc hH 2 (pc' := 73) (lv' := [(3, .int 3), (1, .int 2), (2, .ref 79), (0, .ref 50)]) (st' := [.int 3, .ref 61, .int 3, .ref 61]) (by rfl) ?_
          refine zq_iald hc hH (by rfl) 4 (oka_i (by decide +kernel)) (show vp_in (nI 3) 4 from vp_in_nI (by decide) (by decide)) ?_
          rw [show (3 : Int32).toNatClampNeg = 3 from rfl]
          refine zV1 (Z := Z) (Eq.trans (ui_k (by first | decide | omega)) (Eq.trans (ui_k (by first | decide | omega)) (Eq.trans (ui_k (by first | decide | omega)) (Eq.trans (ui_o (by first | decide | omega)) (Eq.trans (hO3 61 3 (by omega)).1 (Eq.trans (ui_o (by first | decide | omega)) (Eq.trans (hO2 61 3 (by omega)).1 (Eq.trans (ui_o (by first | decide | omega)) (Eq.trans (hO1 61 3 (by omega)).1 (Eq.trans (ui_o (by first | decide | omega)) (hO0 61 3 (by omega)).1)))))))))) ?_
          rw [z_zero_o (by decide)]
          refine z_rcs0 hc hH 2 (pc' := 76) (lv' := [(3, .int 3), (1, .int 2), (2, .ref 79), (0, .ref 50)]) (st' := [.int 3, .ref 79, .int (μ.1 61 3), .int 3, .ref 61]) (by rfl) ?_
          refine zq_bald hc hH (by rfl) 4 (by decide +kernel) (show vp_in (nI 3) 4 from vp_in_nI (by decide) (by decide)) ?_
          rw [show (3 : Int32).toNatClampNeg = 3 from rfl]
          refine zV1 (Z := Z) (Eq.trans (ui_o (by first | decide | omega)) (Eq.trans (ui_o (by first | decide | omega)) (Eq.trans (ui_o (by first | decide | omega)) (ui_s)))) ?_
          refine z_rcs0 hc hH 6 (pc' := 96) (lv' := [(3, .int 3), (1, .int 2), (2, .ref 79), (0, .ref 50)]) (st' := [.int ((μ.1 61 3) + 1500), .int 3, .ref 61]) (by rfl) ?_
          refine zq_iast hc hH (by rfl) 4 (oka_i (by decide +kernel)).2 (show vp_in (nI 3) 4 from vp_in_nI (by decide) (by decide)) ?_
          rw [show (3 : Int32).toNatClampNeg = 3 from rfl]
          show Z 1 97 [(3, .int 3), (1, .int 2), (2, .ref 79), (0, .ref 50)] [] (z_ui (z_ui (z_ui (z_ui (z_ui W3 79 3 1) 61 0 ((μ.1 61 0) + 1500)) 61 1 ((μ.1 61 1) + (-1500))) 61 2 ((μ.1 61 2) + (-1500))) 61 3 ((μ.1 61 3) + 1500))
          refine z_rcs0 hc hH 5 (pc' := 103) (lv' := [(3, .int 4), (1, .int 2), (2, .ref 79), (0, .ref 50)]) (st' := []) (by rfl) ?_
          obtain rfl | rfl | rfl | rfl : dl = 0 ∨ dl = 1 ∨ dl = 2 ∨ dl = 3 := by omega
          · skip
            refine z_rcs0 hc hH 3 (pc' := 106) (lv' := [(3, .int 4), (1, .int 2), (2, .ref 79), (0, .ref 50)]) (st' := [.ref 50, .ref 79, .ref 50]) (by rfl) ?_
            refine zq_gfi hc hH (by rfl) (ci := 6) (f := 40) (by rfl) (by decide +kernel) (by rfl) ?_
            refine zV1 (Z := Z) (Eq.trans (ui_o (by first | decide | omega)) (Eq.trans (ui_o (by first | decide | omega)) (Eq.trans (ui_o (by first | decide | omega)) (Eq.trans (ui_o (by first | decide | omega)) (Eq.trans (ui_o (by first | decide | omega)) (Eq.trans (hO3 50 40 (by omega)).1 (Eq.trans (ui_o (by first | decide | omega)) (Eq.trans (hO2 50 40 (by omega)).1 (Eq.trans (ui_o (by first | decide | omega)) (Eq.trans (hO1 50 40 (by omega)).1 (Eq.trans (ui_o (by first | decide | omega)) (hO0 50 40 (by omega)).1))))))))))) ?_
            rw [(z_zero_o (by decide)).trans hdl]
            refine zq_bald hc hH (by rfl) 4 (by decide +kernel) (vp_in_nI (by omega) (by decide)) ?_
            rw [nI_clamp (by omega)]
            refine zV1 (Z := Z) (Eq.trans (ui_o (by first | decide | omega)) (Eq.trans (ui_o (by first | decide | omega)) (Eq.trans (ui_o (by first | decide | omega)) (Eq.trans (ui_o (by first | decide | omega)) (Eq.trans (ui_k (by first | decide | omega)) (Eq.trans (hO3 79 0 (by omega)).1 (Eq.trans (ui_k (by first | decide | omega)) (Eq.trans (hO2 79 0 (by omega)).1 (Eq.trans (ui_k (by first | decide | omega)) (Eq.trans (hO1 79 0 (by omega)).1 (ui_s))))))))))) ?_
            refine z_rcs0 hc hH 1 (pc' := 111) (lv' := [(3, .int 4), (1, .int 2), (2, .ref 79), (0, .ref 50)]) (st' := [.int 1, .int 1, .ref 50]) (by rfl) ?_
            refine zq_call hc (z_cx_ok hH (by rfl)) (gm_endsB d' (by omega) (z_ui (z_ui (z_ui (z_ui (z_ui W3 79 3 1) 61 0 ((μ.1 61 0) + 1500)) 61 1 ((μ.1 61 1) + (-1500))) 61 2 ((μ.1 61 2) + (-1500))) 61 3 ((μ.1 61 3) + 1500)) true true 0 e (by rw [ui_o (by first | decide | omega), ui_o (by first | decide | omega), ui_o (by first | decide | omega), ui_o (by first | decide | omega), ui_o (by first | decide | omega), (hO3 50 40 (by omega)).1, ui_o (by first | decide | omega), (hO2 50 40 (by omega)).1, ui_o (by first | decide | omega), (hO1 50 40 (by omega)).1, ui_o (by first | decide | omega), (hO0 50 40 (by omega)).1]; exact (z_zero_o (by decide)).trans hdl) hdl4 he) (by decide +kernel) (fun r9 μ9 hq => ?_)
            obtain ⟨hr9, hm9⟩ := hq
            rw [hr9, hm9]
            clear hr9 hm9
            show Z 1 114 [(3, .int 4), (1, .int 2), (2, .ref 79), (0, .ref 50)] [] (eMB (z_ui (z_ui (z_ui (z_ui (z_ui W3 79 3 1) 61 0 ((μ.1 61 0) + 1500)) 61 1 ((μ.1 61 1) + (-1500))) 61 2 ((μ.1 61 2) + (-1500))) 61 3 ((μ.1 61 3) + 1500)) true true 0 e)
            exact hr 1 114 _ _ _ none (by decide +kernel) (by rfl) (by refine ⟨rfl, ?_⟩; unfold nM1001; exact SM_eMB (SM_ui (SM_ui (SM_ui (SM_ui (SM_ui (SM_tr (SM_ui (SM_tr (SM_ui (SM_tr (SM_ui (SM_tr (SM_rf _) hO0)) hO1)) hO2)) hO3)))))))
          · skip
            refine z_rcs hc hH 3 (pc' := 106) (lv' := [(3, .int 4), (1, .int 2), (2, .ref 79), (0, .ref 50)]) (st' := [.ref 50, .ref 79, .ref 50]) (μ' := z_ui (z_ui (z_ui (z_ui (z_ui W3 79 3 1) 61 0 ((μ.1 61 0) + 1500)) 61 1 ((μ.1 61 1) + (-1500))) 61 2 ((μ.1 61 2) + (-1500))) 61 3 ((μ.1 61 3) + 1500)) (by rfl) ?_
            refine zq_gfi hc hH (by rfl) (ci := 6) (f := 40) (by rfl) (by decide +kernel) (by rfl) ?_
            refine zV1 (Z := Z) (Eq.trans (ui_o (by first | decide | omega)) (Eq.trans (ui_o (by first | decide | omega)) (Eq.trans (ui_o (by first | decide | omega)) (Eq.trans (ui_o (by first | decide | omega)) (Eq.trans (ui_o (by first | decide | omega)) (Eq.trans (hO3 50 40 (by omega)).1 (Eq.trans (ui_o (by first | decide | omega)) (Eq.trans (hO2 50 40 (by omega)).1 (Eq.trans (ui_o (by first | decide | omega)) (Eq.trans (hO1 50 40 (by omega)).1 (Eq.trans (ui_o (by first | decide | omega)) (hO0 50 40 (by omega)).1))))))))))) ?_
            rw [(z_zero_o (by decide)).trans hdl]
            refine zq_bald hc hH (by rfl) 4 (by decide +kernel) (vp_in_nI (by omega) (by decide)) ?_
            rw [nI_clamp (by omega)]
            refine zV1 (Z := Z) (Eq.trans (ui_o (by first | decide | omega)) (Eq.trans (ui_o (by first | decide | omega)) (Eq.trans (ui_o (by first | decide | omega)) (Eq.trans (ui_o (by first | decide | omega)) (Eq.trans (ui_k (by first | decide | omega)) (Eq.trans (hO3 79 1 (by omega)).1 (Eq.trans (ui_k (by first | decide | omega)) (Eq.trans (hO2 79 1 (by omega)).1 (ui_s))))))))) ?_
            refine z_rcs0 hc hH 1 (pc' := 111) (lv' := [(3, .int 4), (1, .int 2), (2, .ref 79), (0, .ref 50)]) (st' := [.int 1, .int 0, .ref 50]) (by rfl) ?_
            refine zq_call hc (z_cx_ok hH (by rfl)) (gm_endsB d' (by omega) (z_ui (z_ui (z_ui (z_ui (z_ui W3 79 3 1) 61 0 ((μ.1 61 0) + 1500)) 61 1 ((μ.1 61 1) + (-1500))) 61 2 ((μ.1 61 2) + (-1500))) 61 3 ((μ.1 61 3) + 1500)) false true 1 e (by rw [ui_o (by first | decide | omega), ui_o (by first | decide | omega), ui_o (by first | decide | omega), ui_o (by first | decide | omega), ui_o (by first | decide | omega), (hO3 50 40 (by omega)).1, ui_o (by first | decide | omega), (hO2 50 40 (by omega)).1, ui_o (by first | decide | omega), (hO1 50 40 (by omega)).1, ui_o (by first | decide | omega), (hO0 50 40 (by omega)).1]; exact (z_zero_o (by decide)).trans hdl) hdl4 he) (by decide +kernel) (fun r9 μ9 hq => ?_)
            obtain ⟨hr9, hm9⟩ := hq
            rw [hr9, hm9]
            clear hr9 hm9
            show Z 1 114 [(3, .int 4), (1, .int 2), (2, .ref 79), (0, .ref 50)] [] (eMB (z_ui (z_ui (z_ui (z_ui (z_ui W3 79 3 1) 61 0 ((μ.1 61 0) + 1500)) 61 1 ((μ.1 61 1) + (-1500))) 61 2 ((μ.1 61 2) + (-1500))) 61 3 ((μ.1 61 3) + 1500)) false true 1 e)
            exact hr 1 114 _ _ _ none (by decide +kernel) (by rfl) (by refine ⟨rfl, ?_⟩; unfold nM1001; exact SM_eMB (SM_ui (SM_ui (SM_ui (SM_ui (SM_ui (SM_tr (SM_ui (SM_tr (SM_ui (SM_tr (SM_ui (SM_tr (SM_rf _) hO0)) hO1)) hO2)) hO3)))))))
          · skip
            refine z_rcs hc hH 3 (pc' := 106) (lv' := [(3, .int 4), (1, .int 2), (2, .ref 79), (0, .ref 50)]) (st' := [.ref 50, .ref 79, .ref 50]) (μ' := z_ui (z_ui (z_ui (z_ui (z_ui W3 79 3 1) 61 0 ((μ.1 61 0) + 1500)) 61 1 ((μ.1 61 1) + (-1500))) 61 2 ((μ.1 61 2) + (-1500))) 61 3 ((μ.1 61 3) + 1500)) (by rfl) ?_
            refine zq_gfi hc hH (by rfl) (ci := 6) (f := 40) (by rfl) (by decide +kernel) (by rfl) ?_
            refine zV1 (Z := Z) (Eq.trans (ui_o (by first | decide | omega)) (Eq.trans (ui_o (by first | decide | omega)) (Eq.trans (ui_o (by first | decide | omega)) (Eq.trans (ui_o (by first | decide | omega)) (Eq.trans (ui_o (by first | decide | omega)) (Eq.trans (hO3 50 40 (by omega)).1 (Eq.trans (ui_o (by first | decide | omega)) (Eq.trans (hO2 50 40 (by omega)).1 (Eq.trans (ui_o (by first | decide | omega)) (Eq.trans (hO1 50 40 (by omega)).1 (Eq.trans (ui_o (by first | decide | omega)) (hO0 50 40 (by omega)).1))))))))))) ?_
            rw [(z_zero_o (by decide)).trans hdl]
            refine zq_bald hc hH (by rfl) 4 (by decide +kernel) (vp_in_nI (by omega) (by decide)) ?_
            rw [nI_clamp (by omega)]
            refine zV1 (Z := Z) (Eq.trans (ui_o (by first | decide | omega)) (Eq.trans (ui_o (by first | decide | omega)) (Eq.trans (ui_o (by first | decide | omega)) (Eq.trans (ui_o (by first | decide | omega)) (Eq.trans (ui_k (by first | decide | omega)) (Eq.trans (hO3 79 2 (by omega)).1 (ui_s))))))) ?_
            refine z_rcs0 hc hH 1 (pc' := 111) (lv' := [(3, .int 4), (1, .int 2), (2, .ref 79), (0, .ref 50)]) (st' := [.int 1, .int 0, .ref 50]) (by rfl) ?_
            refine zq_call hc (z_cx_ok hH (by rfl)) (gm_endsB d' (by omega) (z_ui (z_ui (z_ui (z_ui (z_ui W3 79 3 1) 61 0 ((μ.1 61 0) + 1500)) 61 1 ((μ.1 61 1) + (-1500))) 61 2 ((μ.1 61 2) + (-1500))) 61 3 ((μ.1 61 3) + 1500)) false true 2 e (by rw [ui_o (by first | decide | omega), ui_o (by first | decide | omega), ui_o (by first | decide | omega), ui_o (by first | decide | omega), ui_o (by first | decide | omega), (hO3 50 40 (by omega)).1, ui_o (by first | decide | omega), (hO2 50 40 (by omega)).1, ui_o (by first | decide | omega), (hO1 50 40 (by omega)).1, ui_o (by first | decide | omega), (hO0 50 40 (by omega)).1]; exact (z_zero_o (by decide)).trans hdl) hdl4 he) (by decide +kernel) (fun r9 μ9 hq => ?_)
            obtain ⟨hr9, hm9⟩ := hq
            rw [hr9, hm9]
            clear hr9 hm9
            show Z 1 114 [(3, .int 4), (1, .int 2), (2, .ref 79), (0, .ref 50)] [] (eMB (z_ui (z_ui (z_ui (z_ui (z_ui W3 79 3 1) 61 0 ((μ.1 61 0) + 1500)) 61 1 ((μ.1 61 1) + (-1500))) 61 2 ((μ.1 61 2) + (-1500))) 61 3 ((μ.1 61 3) + 1500)) false true 2 e)
            exact hr 1 114 _ _ _ none (by decide +kernel) (by rfl) (by refine ⟨rfl, ?_⟩; unfold nM1001; exact SM_eMB (SM_ui (SM_ui (SM_ui (SM_ui (SM_ui (SM_tr (SM_ui (SM_tr (SM_ui (SM_tr (SM_ui (SM_tr (SM_rf _) hO0)) hO1)) hO2)) hO3)))))))
          · skip
            refine z_rcs hc hH 3 (pc' := 106) (lv' := [(3, .int 4), (1, .int 2), (2, .ref 79), (0, .ref 50)]) (st' := [.ref 50, .ref 79, .ref 50]) (μ' := z_ui (z_ui (z_ui (z_ui (z_ui W3 79 3 1) 61 0 ((μ.1 61 0) + 1500)) 61 1 ((μ.1 61 1) + (-1500))) 61 2 ((μ.1 61 2) + (-1500))) 61 3 ((μ.1 61 3) + 1500)) (by rfl) ?_
            refine zq_gfi hc hH (by rfl) (ci := 6) (f := 40) (by rfl) (by decide +kernel) (by rfl) ?_
            refine zV1 (Z := Z) (Eq.trans (ui_o (by first | decide | omega)) (Eq.trans (ui_o (by first | decide | omega)) (Eq.trans (ui_o (by first | decide | omega)) (Eq.trans (ui_o (by first | decide | omega)) (Eq.trans (ui_o (by first | decide | omega)) (Eq.trans (hO3 50 40 (by omega)).1 (Eq.trans (ui_o (by first | decide | omega)) (Eq.trans (hO2 50 40 (by omega)).1 (Eq.trans (ui_o (by first | decide | omega)) (Eq.trans (hO1 50 40 (by omega)).1 (Eq.trans (ui_o (by first | decide | omega)) (hO0 50 40 (by omega)).1))))))))))) ?_
            rw [(z_zero_o (by decide)).trans hdl]
            refine zq_bald hc hH (by rfl) 4 (by decide +kernel) (vp_in_nI (by omega) (by decide)) ?_
            rw [nI_clamp (by omega)]
            refine zV1 (Z := Z) (Eq.trans (ui_o (by first | decide | omega)) (Eq.trans (ui_o (by first | decide | omega)) (Eq.trans (ui_o (by first | decide | omega)) (Eq.trans (ui_o (by first | decide | omega)) (ui_s))))) ?_
            refine z_rcs0 hc hH 1 (pc' := 111) (lv' := [(3, .int 4), (1, .int 2), (2, .ref 79), (0, .ref 50)]) (st' := [.int 1, .int 1, .ref 50]) (by rfl) ?_
            refine zq_call hc (z_cx_ok hH (by rfl)) (gm_endsB d' (by omega) (z_ui (z_ui (z_ui (z_ui (z_ui W3 79 3 1) 61 0 ((μ.1 61 0) + 1500)) 61 1 ((μ.1 61 1) + (-1500))) 61 2 ((μ.1 61 2) + (-1500))) 61 3 ((μ.1 61 3) + 1500)) true true 3 e (by rw [ui_o (by first | decide | omega), ui_o (by first | decide | omega), ui_o (by first | decide | omega), ui_o (by first | decide | omega), ui_o (by first | decide | omega), (hO3 50 40 (by omega)).1, ui_o (by first | decide | omega), (hO2 50 40 (by omega)).1, ui_o (by first | decide | omega), (hO1 50 40 (by omega)).1, ui_o (by first | decide | omega), (hO0 50 40 (by omega)).1]; exact (z_zero_o (by decide)).trans hdl) hdl4 he) (by decide +kernel) (fun r9 μ9 hq => ?_)
            obtain ⟨hr9, hm9⟩ := hq
            rw [hr9, hm9]
            clear hr9 hm9
            show Z 1 114 [(3, .int 4), (1, .int 2), (2, .ref 79), (0, .ref 50)] [] (eMB (z_ui (z_ui (z_ui (z_ui (z_ui W3 79 3 1) 61 0 ((μ.1 61 0) + 1500)) 61 1 ((μ.1 61 1) + (-1500))) 61 2 ((μ.1 61 2) + (-1500))) 61 3 ((μ.1 61 3) + 1500)) true true 3 e)
            exact hr 1 114 _ _ _ none (by decide +kernel) (by rfl) (by refine ⟨rfl, ?_⟩; unfold nM1001; exact SM_eMB (SM_ui (SM_ui (SM_ui (SM_ui (SM_ui (SM_tr (SM_ui (SM_tr (SM_ui (SM_tr (SM_ui (SM_tr (SM_rf _) hO0)) hO1)) hO2)) hO3)))))))
      · have h3 : (decide ((lg_cmp w2 0) = 0)) = false := decide_eq_false (cn_eq.mp h3)
        exact absurd (Eq.trans (Eq.symm (hb2)) h3) (by decide)
    · have h2 : (decide ((lg_cmp w1 0) = 0)) = false := decide_eq_false (cn_eq.mp h2)
      exact absurd (Eq.trans (Eq.symm (hb1)) h2) (by decide)
noncomputable def nM1010 (μ : zM) : zM := z_ui (z_ui (z_ui (z_ui (z_ui (z_ui (z_ui (z_ui (z_zero μ) 79 0 1) 79 1 0) 79 2 1) 79 3 0) 61 0 ((μ.1 61 0) + 1500)) 61 1 ((μ.1 61 1) + (-1500))) 61 2 ((μ.1 61 2) + 1500)) 61 3 ((μ.1 61 3) + (-1500))
theorem gm_nobody1010 (d : Nat) (hd : 700 ≤ d) (μ : zM) (hH0 : a_H μ) (dl e : Nat) (hdl : μ.1 50 40 = nI dl) (hdl4 : dl < 4) (he : (dl + 1) % 4 = e) (w0 : Int64) (hw0 : ∀ M, SE μ M → a_H M → ∀ d, 699 ≤ d → z_C d mi_X7_waitsAt [.ref 50, .int 0] M (fun r W => r = some (.long w0) ∧ SMj M W ∧ a_H W)) (hb0 : decide (lg_cmp w0 0 = 0) = false) (w1 : Int64) (hw1 : ∀ M, SE μ M → a_H M → ∀ d, 699 ≤ d → z_C d mi_X7_waitsAt [.ref 50, .int 1] M (fun r W => r = some (.long w1) ∧ SMj M W ∧ a_H W)) (hb1 : decide (lg_cmp w1 0 = 0) = true) (w2 : Int64) (hw2 : ∀ M, SE μ M → a_H M → ∀ d, 699 ≤ d → z_C d mi_X7_waitsAt [.ref 50, .int 2] M (fun r W => r = some (.long w2) ∧ SMj M W ∧ a_H W)) (hb2 : decide (lg_cmp w2 0 = 0) = false) (w3 : Int64) (hw3 : ∀ M, SE μ M → a_H M → ∀ d, 699 ≤ d → z_C d mi_X7_waitsAt [.ref 50, .int 3] M (fun r W => r = some (.long w3) ∧ SMj M W ∧ a_H W)) (hb3 : decide (lg_cmp w3 0 = 0) = true) : z_C d mi_X7_nobodyWins [.ref 50] μ (fun r μ' => r = none ∧ SMj (eMB (nM1010 μ) (nbS true false true false dl) true dl e) μ') := by
  obtain ⟨d', rfl⟩ : ∃ d', d = d' + 1 := ⟨d - 1, by omega⟩
  intro Z hc hr
  refine ⟨rfl, ?_⟩
  have hH := zh_X7_nobodyWins
  refine z_rcs hc hH 9 (pc' := 17) (lv' := [(3, .int 0), (2, .ref 79), (1, .int 0), (0, .ref 50)]) (st' := [.int 0, .ref 50, .int 0, .ref 79]) (μ' := z_zero μ) (by rfl) ?_
  refine zq_call hc (z_cx_ok hH (by rfl)) (hw0 _ (SE_zr _) (a_H_zero hH0) d' (by omega)) (by decide +kernel) (fun r9 W0 hq => ?_)
  obtain ⟨rfl, hO0, hA0⟩ := hq
  show Z 1 20 [(3, .int 0), (2, .ref 79), (1, .int 0), (0, .ref 50)] [.long w0, .int 0, .ref 79] W0
  refine z_rcs hc hH 2 (pc' := 22) (lv' := [(3, .int 0), (2, .ref 79), (1, .int 0), (0, .ref 50)]) (st' := [.int (lg_cmp w0 0), .int 0, .ref 79]) (μ' := W0) (by rfl) ?_
  refine zq_if hc hH (by rfl) (tg := 29) (by rfl) (fun h1 => ?_) (fun h1 => ?_)
  · have h1 : (decide ((lg_cmp w0 0) = 0)) = true := decide_eq_true (cm_eq9.mp h1)
    exact absurd (Eq.trans (Eq.symm (hb0)) h1) (by decide)
  · have h1 : (decide ((lg_cmp w0 0) = 0)) = false := decide_eq_false (cn_eq.mp h1)
    refine z_rcs hc hH 2 (pc' := 30) (lv' := [(3, .int 0), (2, .ref 79), (1, .int 0), (0, .ref 50)]) (st' := [.int 1, .int 0, .ref 79]) (μ' := W0) (by rfl) ?_
    refine zq_bast hc hH (by rfl) 4 (by decide +kernel) (show vp_in (nI 0) 4 from vp_in_nI (by decide) (by decide)) (by decide) ?_
    rw [show (0 : Int32).toNatClampNeg = 0 from rfl]
    show Z 1 31 [(3, .int 0), (2, .ref 79), (1, .int 0), (0, .ref 50)] [] (z_ui W0 79 0 1)
    refine z_rcs hc hH 3 (pc' := 34) (lv' := [(3, .int 0), (2, .ref 79), (1, .int 0), (0, .ref 50)]) (st' := [.int 0, .ref 79, .int 0]) (μ' := z_ui W0 79 0 1) (by rfl) ?_
    refine zq_bald hc hH (by rfl) 4 (by decide +kernel) (show vp_in (nI 0) 4 from vp_in_nI (by decide) (by decide)) ?_
    rw [show (0 : Int32).toNatClampNeg = 0 from rfl]
    rw [ui_s]
    refine z_rcs hc hH 14 (pc' := 17) (lv' := [(3, .int 1), (1, .int 1), (2, .ref 79), (0, .ref 50)]) (st' := [.int 1, .ref 50, .int 1, .ref 79]) (μ' := z_ui W0 79 0 1) (by rfl) ?_
    refine zq_call hc (z_cx_ok hH (by rfl)) (hw1 _ (SE_ui (SE_sm (SE_zr _) hO0) (by omega)) (a_H_ui (r := 79) (k := 0) (hA0) ⟨by decide, by decide⟩) d' (by omega)) (by decide +kernel) (fun r9 W1 hq => ?_)
    obtain ⟨rfl, hO1, hA1⟩ := hq
    show Z 1 20 [(3, .int 1), (1, .int 1), (2, .ref 79), (0, .ref 50)] [.long w1, .int 1, .ref 79] W1
    refine z_rcs hc hH 2 (pc' := 22) (lv' := [(3, .int 1), (1, .int 1), (2, .ref 79), (0, .ref 50)]) (st' := [.int (lg_cmp w1 0), .int 1, .ref 79]) (μ' := W1) (by rfl) ?_
    refine zq_if hc hH (by rfl) (tg := 29) (by rfl) (fun h2 => ?_) (fun h2 => ?_)
    · have h2 : (decide ((lg_cmp w1 0) = 0)) = true := decide_eq_true (cm_eq9.mp h2)
      refine z_rcs hc hH 1 (pc' := 30) (lv' := [(3, .int 1), (1, .int 1), (2, .ref 79), (0, .ref 50)]) (st' := [.int 0, .int 1, .ref 79]) (μ' := W1) (by rfl) ?_
      refine zq_bast hc hH (by rfl) 4 (by decide +kernel) (show vp_in (nI 1) 4 from vp_in_nI (by decide) (by decide)) (by decide) ?_
      rw [show (1 : Int32).toNatClampNeg = 1 from rfl]
      show Z 1 31 [(3, .int 1), (1, .int 1), (2, .ref 79), (0, .ref 50)] [] (z_ui W1 79 1 0)
      refine z_rcs hc hH 3 (pc' := 34) (lv' := [(3, .int 1), (1, .int 1), (2, .ref 79), (0, .ref 50)]) (st' := [.int 1, .ref 79, .int 1]) (μ' := z_ui W1 79 1 0) (by rfl) ?_
      refine zq_bald hc hH (by rfl) 4 (by decide +kernel) (show vp_in (nI 1) 4 from vp_in_nI (by decide) (by decide)) ?_
      rw [show (1 : Int32).toNatClampNeg = 1 from rfl]
      rw [ui_s]
      refine z_rcs hc hH 13 (pc' := 17) (lv' := [(3, .int 2), (1, .int 1), (2, .ref 79), (0, .ref 50)]) (st' := [.int 2, .ref 50, .int 2, .ref 79]) (μ' := z_ui W1 79 1 0) (by rfl) ?_
      refine zq_call hc (z_cx_ok hH (by rfl)) (hw2 _ (SE_ui (SE_sm (SE_ui (SE_sm (SE_zr _) hO0) (by omega)) hO1) (by omega)) (a_H_ui (r := 79) (k := 1) (hA1) ⟨by decide, by decide⟩) d' (by omega)) (by decide +kernel) (fun r9 W2 hq => ?_)
      obtain ⟨rfl, hO2, hA2⟩ := hq
      show Z 1 20 [(3, .int 2), (1, .int 1), (2, .ref 79), (0, .ref 50)] [.long w2, .int 2, .ref 79] W2
      refine z_rcs hc hH 2 (pc' := 22) (lv' := [(3, .int 2), (1, .int 1), (2, .ref 79), (0, .ref 50)]) (st' := [.int (lg_cmp w2 0), .int 2, .ref 79]) (μ' := W2) (by rfl) ?_
      refine zq_if hc hH (by rfl) (tg := 29) (by rfl) (fun h3 => ?_) (fun h3 => ?_)
      · have h3 : (decide ((lg_cmp w2 0) = 0)) = true := decide_eq_true (cm_eq9.mp h3)
        exact absurd (Eq.trans (Eq.symm (hb2)) h3) (by decide)
      · have h3 : (decide ((lg_cmp w2 0) = 0)) = false := decide_eq_false (cn_eq.mp h3)
        refine z_rcs hc hH 2 (pc' := 30) (lv' := [(3, .int 2), (1, .int 1), (2, .ref 79), (0, .ref 50)]) (st' := [.int 1, .int 2, .ref 79]) (μ' := W2) (by rfl) ?_
        refine zq_bast hc hH (by rfl) 4 (by decide +kernel) (show vp_in (nI 2) 4 from vp_in_nI (by decide) (by decide)) (by decide) ?_
        rw [show (2 : Int32).toNatClampNeg = 2 from rfl]
        show Z 1 31 [(3, .int 2), (1, .int 1), (2, .ref 79), (0, .ref 50)] [] (z_ui W2 79 2 1)
        refine z_rcs hc hH 3 (pc' := 34) (lv' := [(3, .int 2), (1, .int 1), (2, .ref 79), (0, .ref 50)]) (st' := [.int 2, .ref 79, .int 1]) (μ' := z_ui W2 79 2 1) (by rfl) ?_
        refine zq_bald hc hH (by rfl) 4 (by decide +kernel) (show vp_in (nI 2) 4 from vp_in_nI (by decide) (by decide)) ?_
        rw [show (2 : Int32).toNatClampNeg = 2 from rfl]
        rw [ui_s]
        refine z_rcs hc hH 14 (pc' := 17) (lv' := [(3, .int 3), (1, .int 2), (2, .ref 79), (0, .ref 50)]) (st' := [.int 3, .ref 50, .int 3, .ref 79]) (μ' := z_ui W2 79 2 1) (by rfl) ?_
        refine zq_call hc (z_cx_ok hH (by rfl)) (hw3 _ (SE_ui (SE_sm (SE_ui (SE_sm (SE_ui (SE_sm (SE_zr _) hO0) (by omega)) hO1) (by omega)) hO2) (by omega)) (a_H_ui (r := 79) (k := 2) (hA2) ⟨by decide, by decide⟩) d' (by omega)) (by decide +kernel) (fun r9 W3 hq => ?_)
        obtain ⟨rfl, hO3, hA3⟩ := hq
        show Z 1 20 [(3, .int 3), (1, .int 2), (2, .ref 79), (0, .ref 50)] [.long w3, .int 3, .ref 79] W3
        refine z_rcs hc hH 2 (pc' := 22) (lv' := [(3, .int 3), (1, .int 2), (2, .ref 79), (0, .ref 50)]) (st' := [.int (lg_cmp w3 0), .int 3, .ref 79]) (μ' := W3) (by rfl) ?_
        refine zq_if hc hH (by rfl) (tg := 29) (by rfl) (fun h4 => ?_) (fun h4 => ?_)
        · have h4 : (decide ((lg_cmp w3 0) = 0)) = true := decide_eq_true (cm_eq9.mp h4)
          refine z_rcs hc hH 1 (pc' := 30) (lv' := [(3, .int 3), (1, .int 2), (2, .ref 79), (0, .ref 50)]) (st' := [.int 0, .int 3, .ref 79]) (μ' := W3) (by rfl) ?_
          refine zq_bast hc hH (by rfl) 4 (by decide +kernel) (show vp_in (nI 3) 4 from vp_in_nI (by decide) (by decide)) (by decide) ?_
          rw [show (3 : Int32).toNatClampNeg = 3 from rfl]
          show Z 1 31 [(3, .int 3), (1, .int 2), (2, .ref 79), (0, .ref 50)] [] (z_ui W3 79 3 0)
          refine z_rcs hc hH 3 (pc' := 34) (lv' := [(3, .int 3), (1, .int 2), (2, .ref 79), (0, .ref 50)]) (st' := [.int 3, .ref 79, .int 2]) (μ' := z_ui W3 79 3 0) (by rfl) ?_
          refine zq_bald hc hH (by rfl) 4 (by decide +kernel) (show vp_in (nI 3) 4 from vp_in_nI (by decide) (by decide)) ?_
          rw [show (3 : Int32).toNatClampNeg = 3 from rfl]
          rw [ui_s]
          refine z_rcs hc hH 20 (pc' := 68) (lv' := [(3, .int 0), (1, .int 2), (2, .ref 79), (0, .ref 50)]) (st' := [.ref 50]) (μ' := z_ui W3 79 3 0) (by rfl) ?_
          refine zq_gfr hc hH (by rfl) (ci := 6) (f := 29) (q := 61) (by rfl) (by decide +kernel) (by rfl) (by decide +kernel) ?_
          refine z_rcs hc hH 2 (pc' := 73) (lv' := [(3, .int 0), (1, .int 2), (2, .ref 79), (0, .ref 50)]) (st' := [.int 0, .ref 61, .int 0, .ref 61]) (μ' := z_ui W3 79 3 0) (by rfl) ?_
          refine zq_iald hc hH (by rfl) 4 (oka_i (by decide +kernel)) (show vp_in (nI 0) 4 from vp_in_nI (by decide) (by decide)) ?_
          rw [show (0 : Int32).toNatClampNeg = 0 from rfl]
          refine zV1 (Z := Z) (Eq.trans (ui_o (by first | decide | omega)) (Eq.trans (hO3 61 0 (by omega)).1 (Eq.trans (ui_o (by first | decide | omega)) (Eq.trans (hO2 61 0 (by omega)).1 (Eq.trans (ui_o (by first | decide | omega)) (Eq.trans (hO1 61 0 (by omega)).1 (Eq.trans (ui_o (by first | decide | omega)) (hO0 61 0 (by omega)).1))))))) ?_
          rw [z_zero_o (by decide)]
          refine z_rcs hc hH 2 (pc' := 76) (lv' := [(3, .int 0), (1, .int 2), (2, .ref 79), (0, .ref 50)]) (st' := [.int 0, .ref 79, .int (μ.1 61 0), .int 0, .ref 61]) (μ' := z_ui W3 79 3 0) (by rfl) ?_
          refine zq_bald hc hH (by rfl) 4 (by decide +kernel) (show vp_in (nI 0) 4 from vp_in_nI (by decide) (by decide)) ?_
          rw [show (0 : Int32).toNatClampNeg = 0 from rfl]
          refine zV1 (Z := Z) (Eq.trans (ui_k (by first | decide | omega)) (Eq.trans (hO3 79 0 (by omega)).1 (Eq.trans (ui_k (by first | decide | omega)) (Eq.trans (hO2 79 0 (by omega)).1 (Eq.trans (ui_k (by first | decide | omega)) (Eq.trans (hO1 79 0 (by omega)).1 (ui_s))))))) ?_
          refine z_rcs hc hH 6 (pc' := 96) (lv' := [(3, .int 0), (1, .int 2), (2, .ref 79), (0, .ref 50)]) (st' := [.int ((μ.1 61 0) + 1500), .int 0, .ref 61]) (μ' := z_ui W3 79 3 0) (by rfl) ?_
          refine zq_iast hc hH (by rfl) 4 (oka_i (by decide +kernel)).2 (show vp_in (nI 0) 4 from vp_in_nI (by decide) (by decide)) ?_
          rw [show (0 : Int32).toNatClampNeg = 0 from rfl]
          show Z 1 97 [(3, .int 0), (1, .int 2), (2, .ref 79), (0, .ref 50)] [] (z_ui (z_ui W3 79 3 0) 61 0 ((μ.1 61 0) + 1500))
          refine z_rcs0 hc hH 6 (pc' := 68) (lv' := [(3, .int 1), (1, .int 2), (2, .ref 79), (0, .ref 50)]) (st' := [.ref 50]) (by rfl) ?_
          refine zq_gfr hc hH (by rfl) (ci := 6) (f := 29) (q := 61) (by rfl) (by decide +kernel) (by rfl) (by decide +kernel) ?_
          refine z_rcs0 hc hH 2 (pc' := 73) (lv' := [(3, .int 1), (1, .int 2), (2, .ref 79), (0, .ref 50)]) (st' := [.int 1, .ref 61, .int 1, .ref 61]) (by rfl) ?_
          refine zq_iald hc hH (by rfl) 4 (oka_i (by decide +kernel)) (show vp_in (nI 1) 4 from vp_in_nI (by decide) (by decide)) ?_
          rw [show (1 : Int32).toNatClampNeg = 1 from rfl]
          refine zV1 (Z := Z) (Eq.trans (ui_k (by first | decide | omega)) (Eq.trans (ui_o (by first | decide | omega)) (Eq.trans (hO3 61 1 (by omega)).1 (Eq.trans (ui_o (by first | decide | omega)) (Eq.trans (hO2 61 1 (by omega)).1 (Eq.trans (ui_o (by first | decide | omega)) (Eq.trans (hO1 61 1 (by omega)).1 (Eq.trans (ui_o (by first | decide | omega)) (hO0 61 1 (by omega)).1)))))))) ?_
          rw [z_zero_o (by decide)]
          refine z_rcs0 hc hH 2 (pc' := 76) (lv' := [(3, .int 1), (1, .int 2), (2, .ref 79), (0, .ref 50)]) (st' := [.int 1, .ref 79, .int (μ.1 61 1), .int 1, .ref 61]) (by rfl) ?_
          refine zq_bald hc hH (by rfl) 4 (by decide +kernel) (show vp_in (nI 1) 4 from vp_in_nI (by decide) (by decide)) ?_
          rw [show (1 : Int32).toNatClampNeg = 1 from rfl]
          refine zV1 (Z := Z) (Eq.trans (ui_o (by first | decide | omega)) (Eq.trans (ui_k (by first | decide | omega)) (Eq.trans (hO3 79 1 (by omega)).1 (Eq.trans (ui_k (by first | decide | omega)) (Eq.trans (hO2 79 1 (by omega)).1 (ui_s)))))) ?_
          refine z_rcs0 hc hH 7 (pc' := 96) (lv' := [(3, .int 1), (1, .int 2), (2, .ref 79), (0, .ref 50)]) (st' := [.int ((μ.1 61 1) + (-1500)), .int 1, .ref 61]) (by rfl) ?_
          refine zq_iast hc hH (by rfl) 4 (oka_i (by decide +kernel)).2 (show vp_in (nI 1) 4 from vp_in_nI (by decide) (by decide)) ?_
          rw [show (1 : Int32).toNatClampNeg = 1 from rfl]
          show Z 1 97 [(3, .int 1), (1, .int 2), (2, .ref 79), (0, .ref 50)] [] (z_ui (z_ui (z_ui W3 79 3 0) 61 0 ((μ.1 61 0) + 1500)) 61 1 ((μ.1 61 1) + (-1500)))
          refine z_rcs0 hc hH 6 (pc' := 68) (lv' := [(3, .int 2), (1, .int 2), (2, .ref 79), (0, .ref 50)]) (st' := [.ref 50]) (by rfl) ?_
          refine zq_gfr hc hH (by rfl) (ci := 6) (f := 29) (q := 61) (by rfl) (by decide +kernel) (by rfl) (by decide +kernel) ?_
          refine z_rcs0 hc hH 2 (pc' := 73) (lv' := [(3, .int 2), (1, .int 2), (2, .ref 79), (0, .ref 50)]) (st' := [.int 2, .ref 61, .int 2, .ref 61]) (by rfl) ?_
          refine zq_iald hc hH (by rfl) 4 (oka_i (by decide +kernel)) (show vp_in (nI 2) 4 from vp_in_nI (by decide) (by decide)) ?_
          rw [show (2 : Int32).toNatClampNeg = 2 from rfl]
          refine zV1 (Z := Z) (Eq.trans (ui_k (by first | decide | omega)) (Eq.trans (ui_k (by first | decide | omega)) (Eq.trans (ui_o (by first | decide | omega)) (Eq.trans (hO3 61 2 (by omega)).1 (Eq.trans (ui_o (by first | decide | omega)) (Eq.trans (hO2 61 2 (by omega)).1 (Eq.trans (ui_o (by first | decide | omega)) (Eq.trans (hO1 61 2 (by omega)).1 (Eq.trans (ui_o (by first | decide | omega)) (hO0 61 2 (by omega)).1))))))))) ?_
          rw [z_zero_o (by decide)]
          refine z_rcs0 hc hH 2 (pc' := 76) (lv' := [(3, .int 2), (1, .int 2), (2, .ref 79), (0, .ref 50)]) (st' := [.int 2, .ref 79, .int (μ.1 61 2), .int 2, .ref 61]) (by rfl) ?_
          refine zq_bald hc hH (by rfl) 4 (by decide +kernel) (show vp_in (nI 2) 4 from vp_in_nI (by decide) (by decide)) ?_
          rw [show (2 : Int32).toNatClampNeg = 2 from rfl]
          refine zV1 (Z := Z) (Eq.trans (ui_o (by first | decide | omega)) (Eq.trans (ui_o (by first | decide | omega)) (Eq.trans (ui_k (by first | decide | omega)) (Eq.trans (hO3 79 2 (by omega)).1 (ui_s))))) ?_
          refine z_rcs0 hc hH 6 (pc' := 96) (lv' := [(3, .int 2), (1, .int 2), (2, .ref 79), (0, .ref 50)]) (st' := [.int ((μ.1 61 2) + 1500), .int 2, .ref 61]) (by rfl) ?_
          refine zq_iast hc hH (by rfl) 4 (oka_i (by decide +kernel)).2 (show vp_in (nI 2) 4 from vp_in_nI (by decide) (by decide)) ?_
          rw [show (2 : Int32).toNatClampNeg = 2 from rfl]
          show Z 1 97 [(3, .int 2), (1, .int 2), (2, .ref 79), (0, .ref 50)] [] (z_ui (z_ui (z_ui (z_ui W3 79 3 0) 61 0 ((μ.1 61 0) + 1500)) 61 1 ((μ.1 61 1) + (-1500))) 61 2 ((μ.1 61 2) + 1500))
          refine z_rcs0 hc hH 6 (pc' := 68) (lv' := [(3, .int 3), (1, .int 2), (2, .ref 79), (0, .ref 50)]) (st' := [.ref 50]) (by rfl) ?_
          refine zq_gfr hc hH (by rfl) (ci := 6) (f := 29) (q := 61) (by rfl) (by decide +kernel) (by rfl) (by decide +kernel) ?_
          refine z_rcs0 hc hH 2 (pc' := 73) (lv' := [(3, .int 3), (1, .int 2), (2, .ref 79), (0, .ref 50)]) (st' := [.int 3, .ref 61, .int 3, .ref 61]) (by rfl) ?_
          refine zq_iald hc hH (by rfl) 4 (oka_i (by decide +kernel)) (show vp_in (nI 3) 4 from vp_in_nI (by decide) (by decide)) ?_
          rw [show (3 : Int32).toNatClampNeg = 3 from rfl]
          refine zV1 (Z := Z) (Eq.trans (ui_k (by first | decide | omega)) (Eq.trans (ui_k (by first | decide | omega)) (Eq.trans (ui_k (by first | decide | omega)) (Eq.trans (ui_o (by first | decide | omega)) (Eq.trans (hO3 61 3 (by omega)).1 (Eq.trans (ui_o (by first | decide | omega)) (Eq.trans (hO2 61 3 (by omega)).1 (Eq.trans (ui_o (by first | decide | omega)) (Eq.trans (hO1 61 3 (by omega)).1 (Eq.trans (ui_o (by first | decide | omega)) (hO0 61 3 (by omega)).1)))))))))) ?_
          rw [z_zero_o (by decide)]
          refine z_rcs0 hc hH 2 (pc' := 76) (lv' := [(3, .int 3), (1, .int 2), (2, .ref 79), (0, .ref 50)]) (st' := [.int 3, .ref 79, .int (μ.1 61 3), .int 3, .ref 61]) (by rfl) ?_
          refine zq_bald hc hH (by rfl) 4 (by decide +kernel) (show vp_in (nI 3) 4 from vp_in_nI (by decide) (by decide)) ?_
          rw [show (3 : Int32).toNatClampNeg = 3 from rfl]
          refine zV1 (Z := Z) (Eq.trans (ui_o (by first | decide | omega)) (Eq.trans (ui_o (by first | decide | omega)) (Eq.trans (ui_o (by first | decide | omega)) (ui_s)))) ?_
          refine z_rcs0 hc hH 7 (pc' := 96) (lv' := [(3, .int 3), (1, .int 2), (2, .ref 79), (0, .ref 50)]) (st' := [.int ((μ.1 61 3) + (-1500)), .int 3, .ref 61]) (by rfl) ?_
          refine zq_iast hc hH (by rfl) 4 (oka_i (by decide +kernel)).2 (show vp_in (nI 3) 4 from vp_in_nI (by decide) (by decide)) ?_
          rw [show (3 : Int32).toNatClampNeg = 3 from rfl]
          show Z 1 97 [(3, .int 3), (1, .int 2), (2, .ref 79), (0, .ref 50)] [] (z_ui (z_ui (z_ui (z_ui (z_ui W3 79 3 0) 61 0 ((μ.1 61 0) + 1500)) 61 1 ((μ.1 61 1) + (-1500))) 61 2 ((μ.1 61 2) + 1500)) 61 3 ((μ.1 61 3) + (-1500)))
          refine z_rcs0 hc hH 5 (pc' := 103) (lv' := [(3, .int 4), (1, .int 2), (2, .ref 79), (0, .ref 50)]) (st' := []) (by rfl) ?_
          obtain rfl | rfl | rfl | rfl : dl = 0 ∨ dl = 1 ∨ dl = 2 ∨ dl = 3 := by omega
          · skip
            refine z_rcs0 hc hH 3 (pc' := 106) (lv' := [(3, .int 4), (1, .int 2), (2, .ref 79), (0, .ref 50)]) (st' := [.ref 50, .ref 79, .ref 50]) (by rfl) ?_
            refine zq_gfi hc hH (by rfl) (ci := 6) (f := 40) (by rfl) (by decide +kernel) (by rfl) ?_
            refine zV1 (Z := Z) (Eq.trans (ui_o (by first | decide | omega)) (Eq.trans (ui_o (by first | decide | omega)) (Eq.trans (ui_o (by first | decide | omega)) (Eq.trans (ui_o (by first | decide | omega)) (Eq.trans (ui_o (by first | decide | omega)) (Eq.trans (hO3 50 40 (by omega)).1 (Eq.trans (ui_o (by first | decide | omega)) (Eq.trans (hO2 50 40 (by omega)).1 (Eq.trans (ui_o (by first | decide | omega)) (Eq.trans (hO1 50 40 (by omega)).1 (Eq.trans (ui_o (by first | decide | omega)) (hO0 50 40 (by omega)).1))))))))))) ?_
            rw [(z_zero_o (by decide)).trans hdl]
            refine zq_bald hc hH (by rfl) 4 (by decide +kernel) (vp_in_nI (by omega) (by decide)) ?_
            rw [nI_clamp (by omega)]
            refine zV1 (Z := Z) (Eq.trans (ui_o (by first | decide | omega)) (Eq.trans (ui_o (by first | decide | omega)) (Eq.trans (ui_o (by first | decide | omega)) (Eq.trans (ui_o (by first | decide | omega)) (Eq.trans (ui_k (by first | decide | omega)) (Eq.trans (hO3 79 0 (by omega)).1 (Eq.trans (ui_k (by first | decide | omega)) (Eq.trans (hO2 79 0 (by omega)).1 (Eq.trans (ui_k (by first | decide | omega)) (Eq.trans (hO1 79 0 (by omega)).1 (ui_s))))))))))) ?_
            refine z_rcs0 hc hH 1 (pc' := 111) (lv' := [(3, .int 4), (1, .int 2), (2, .ref 79), (0, .ref 50)]) (st' := [.int 1, .int 1, .ref 50]) (by rfl) ?_
            refine zq_call hc (z_cx_ok hH (by rfl)) (gm_endsB d' (by omega) (z_ui (z_ui (z_ui (z_ui (z_ui W3 79 3 0) 61 0 ((μ.1 61 0) + 1500)) 61 1 ((μ.1 61 1) + (-1500))) 61 2 ((μ.1 61 2) + 1500)) 61 3 ((μ.1 61 3) + (-1500))) true true 0 e (by rw [ui_o (by first | decide | omega), ui_o (by first | decide | omega), ui_o (by first | decide | omega), ui_o (by first | decide | omega), ui_o (by first | decide | omega), (hO3 50 40 (by omega)).1, ui_o (by first | decide | omega), (hO2 50 40 (by omega)).1, ui_o (by first | decide | omega), (hO1 50 40 (by omega)).1, ui_o (by first | decide | omega), (hO0 50 40 (by omega)).1]; exact (z_zero_o (by decide)).trans hdl) hdl4 he) (by decide +kernel) (fun r9 μ9 hq => ?_)
            obtain ⟨hr9, hm9⟩ := hq
            rw [hr9, hm9]
            clear hr9 hm9
            show Z 1 114 [(3, .int 4), (1, .int 2), (2, .ref 79), (0, .ref 50)] [] (eMB (z_ui (z_ui (z_ui (z_ui (z_ui W3 79 3 0) 61 0 ((μ.1 61 0) + 1500)) 61 1 ((μ.1 61 1) + (-1500))) 61 2 ((μ.1 61 2) + 1500)) 61 3 ((μ.1 61 3) + (-1500))) true true 0 e)
            exact hr 1 114 _ _ _ none (by decide +kernel) (by rfl) (by refine ⟨rfl, ?_⟩; unfold nM1010; exact SM_eMB (SM_ui (SM_ui (SM_ui (SM_ui (SM_ui (SM_tr (SM_ui (SM_tr (SM_ui (SM_tr (SM_ui (SM_tr (SM_rf _) hO0)) hO1)) hO2)) hO3)))))))
          · skip
            refine z_rcs hc hH 3 (pc' := 106) (lv' := [(3, .int 4), (1, .int 2), (2, .ref 79), (0, .ref 50)]) (st' := [.ref 50, .ref 79, .ref 50]) (μ' := z_ui (z_ui (z_ui (z_ui (z_ui W3 79 3 0) 61 0 ((μ.1 61 0) + 1500)) 61 1 ((μ.1 61 1) + (-1500))) 61 2 ((μ.1 61 2) + 1500)) 61 3 ((μ.1 61 3) + (-1500))) (by rfl) ?_
            refine zq_gfi hc hH (by rfl) (ci := 6) (f := 40) (by rfl) (by decide +kernel) (by rfl) ?_
            refine zV1 (Z := Z) (Eq.trans (ui_o (by first | decide | omega)) (Eq.trans (ui_o (by first | decide | omega)) (Eq.trans (ui_o (by first | decide | omega)) (Eq.trans (ui_o (by first | decide | omega)) (Eq.trans (ui_o (by first | decide | omega)) (Eq.trans (hO3 50 40 (by omega)).1 (Eq.trans (ui_o (by first | decide | omega)) (Eq.trans (hO2 50 40 (by omega)).1 (Eq.trans (ui_o (by first | decide | omega)) (Eq.trans (hO1 50 40 (by omega)).1 (Eq.trans (ui_o (by first | decide | omega)) (hO0 50 40 (by omega)).1))))))))))) ?_
            rw [(z_zero_o (by decide)).trans hdl]
            refine zq_bald hc hH (by rfl) 4 (by decide +kernel) (vp_in_nI (by omega) (by decide)) ?_
            rw [nI_clamp (by omega)]
            refine zV1 (Z := Z) (Eq.trans (ui_o (by first | decide | omega)) (Eq.trans (ui_o (by first | decide | omega)) (Eq.trans (ui_o (by first | decide | omega)) (Eq.trans (ui_o (by first | decide | omega)) (Eq.trans (ui_k (by first | decide | omega)) (Eq.trans (hO3 79 1 (by omega)).1 (Eq.trans (ui_k (by first | decide | omega)) (Eq.trans (hO2 79 1 (by omega)).1 (ui_s))))))))) ?_
            refine z_rcs0 hc hH 1 (pc' := 111) (lv' := [(3, .int 4), (1, .int 2), (2, .ref 79), (0, .ref 50)]) (st' := [.int 1, .int 0, .ref 50]) (by rfl) ?_
            refine zq_call hc (z_cx_ok hH (by rfl)) (gm_endsB d' (by omega) (z_ui (z_ui (z_ui (z_ui (z_ui W3 79 3 0) 61 0 ((μ.1 61 0) + 1500)) 61 1 ((μ.1 61 1) + (-1500))) 61 2 ((μ.1 61 2) + 1500)) 61 3 ((μ.1 61 3) + (-1500))) false true 1 e (by rw [ui_o (by first | decide | omega), ui_o (by first | decide | omega), ui_o (by first | decide | omega), ui_o (by first | decide | omega), ui_o (by first | decide | omega), (hO3 50 40 (by omega)).1, ui_o (by first | decide | omega), (hO2 50 40 (by omega)).1, ui_o (by first | decide | omega), (hO1 50 40 (by omega)).1, ui_o (by first | decide | omega), (hO0 50 40 (by omega)).1]; exact (z_zero_o (by decide)).trans hdl) hdl4 he) (by decide +kernel) (fun r9 μ9 hq => ?_)
            obtain ⟨hr9, hm9⟩ := hq
            rw [hr9, hm9]
            clear hr9 hm9
            show Z 1 114 [(3, .int 4), (1, .int 2), (2, .ref 79), (0, .ref 50)] [] (eMB (z_ui (z_ui (z_ui (z_ui (z_ui W3 79 3 0) 61 0 ((μ.1 61 0) + 1500)) 61 1 ((μ.1 61 1) + (-1500))) 61 2 ((μ.1 61 2) + 1500)) 61 3 ((μ.1 61 3) + (-1500))) false true 1 e)
            exact hr 1 114 _ _ _ none (by decide +kernel) (by rfl) (by refine ⟨rfl, ?_⟩; unfold nM1010; exact SM_eMB (SM_ui (SM_ui (SM_ui (SM_ui (SM_ui (SM_tr (SM_ui (SM_tr (SM_ui (SM_tr (SM_ui (SM_tr (SM_rf _) hO0)) hO1)) hO2)) hO3)))))))
          · skip
            refine z_rcs hc hH 3 (pc' := 106) (lv' := [(3, .int 4), (1, .int 2), (2, .ref 79), (0, .ref 50)]) (st' := [.ref 50, .ref 79, .ref 50]) (μ' := z_ui (z_ui (z_ui (z_ui (z_ui W3 79 3 0) 61 0 ((μ.1 61 0) + 1500)) 61 1 ((μ.1 61 1) + (-1500))) 61 2 ((μ.1 61 2) + 1500)) 61 3 ((μ.1 61 3) + (-1500))) (by rfl) ?_
            refine zq_gfi hc hH (by rfl) (ci := 6) (f := 40) (by rfl) (by decide +kernel) (by rfl) ?_
            refine zV1 (Z := Z) (Eq.trans (ui_o (by first | decide | omega)) (Eq.trans (ui_o (by first | decide | omega)) (Eq.trans (ui_o (by first | decide | omega)) (Eq.trans (ui_o (by first | decide | omega)) (Eq.trans (ui_o (by first | decide | omega)) (Eq.trans (hO3 50 40 (by omega)).1 (Eq.trans (ui_o (by first | decide | omega)) (Eq.trans (hO2 50 40 (by omega)).1 (Eq.trans (ui_o (by first | decide | omega)) (Eq.trans (hO1 50 40 (by omega)).1 (Eq.trans (ui_o (by first | decide | omega)) (hO0 50 40 (by omega)).1))))))))))) ?_
            rw [(z_zero_o (by decide)).trans hdl]
            refine zq_bald hc hH (by rfl) 4 (by decide +kernel) (vp_in_nI (by omega) (by decide)) ?_
            rw [nI_clamp (by omega)]
            refine zV1 (Z := Z) (Eq.trans (ui_o (by first | decide | omega)) (Eq.trans (ui_o (by first | decide | omega)) (Eq.trans (ui_o (by first | decide | omega)) (Eq.trans (ui_o (by first | decide | omega)) (Eq.trans (ui_k (by first | decide | omega)) (Eq.trans (hO3 79 2 (by omega)).1 (ui_s))))))) ?_
            refine z_rcs0 hc hH 1 (pc' := 111) (lv' := [(3, .int 4), (1, .int 2), (2, .ref 79), (0, .ref 50)]) (st' := [.int 1, .int 1, .ref 50]) (by rfl) ?_
            refine zq_call hc (z_cx_ok hH (by rfl)) (gm_endsB d' (by omega) (z_ui (z_ui (z_ui (z_ui (z_ui W3 79 3 0) 61 0 ((μ.1 61 0) + 1500)) 61 1 ((μ.1 61 1) + (-1500))) 61 2 ((μ.1 61 2) + 1500)) 61 3 ((μ.1 61 3) + (-1500))) true true 2 e (by rw [ui_o (by first | decide | omega), ui_o (by first | decide | omega), ui_o (by first | decide | omega), ui_o (by first | decide | omega), ui_o (by first | decide | omega), (hO3 50 40 (by omega)).1, ui_o (by first | decide | omega), (hO2 50 40 (by omega)).1, ui_o (by first | decide | omega), (hO1 50 40 (by omega)).1, ui_o (by first | decide | omega), (hO0 50 40 (by omega)).1]; exact (z_zero_o (by decide)).trans hdl) hdl4 he) (by decide +kernel) (fun r9 μ9 hq => ?_)
            obtain ⟨hr9, hm9⟩ := hq
            rw [hr9, hm9]
            clear hr9 hm9
            show Z 1 114 [(3, .int 4), (1, .int 2), (2, .ref 79), (0, .ref 50)] [] (eMB (z_ui (z_ui (z_ui (z_ui (z_ui W3 79 3 0) 61 0 ((μ.1 61 0) + 1500)) 61 1 ((μ.1 61 1) + (-1500))) 61 2 ((μ.1 61 2) + 1500)) 61 3 ((μ.1 61 3) + (-1500))) true true 2 e)
            exact hr 1 114 _ _ _ none (by decide +kernel) (by rfl) (by refine ⟨rfl, ?_⟩; unfold nM1010; exact SM_eMB (SM_ui (SM_ui (SM_ui (SM_ui (SM_ui (SM_tr (SM_ui (SM_tr (SM_ui (SM_tr (SM_ui (SM_tr (SM_rf _) hO0)) hO1)) hO2)) hO3)))))))
          · skip
            refine z_rcs hc hH 3 (pc' := 106) (lv' := [(3, .int 4), (1, .int 2), (2, .ref 79), (0, .ref 50)]) (st' := [.ref 50, .ref 79, .ref 50]) (μ' := z_ui (z_ui (z_ui (z_ui (z_ui W3 79 3 0) 61 0 ((μ.1 61 0) + 1500)) 61 1 ((μ.1 61 1) + (-1500))) 61 2 ((μ.1 61 2) + 1500)) 61 3 ((μ.1 61 3) + (-1500))) (by rfl) ?_
            refine zq_gfi hc hH (by rfl) (ci := 6) (f := 40) (by rfl) (by decide +kernel) (by rfl) ?_
            refine zV1 (Z := Z) (Eq.trans (ui_o (by first | decide | omega)) (Eq.trans (ui_o (by first | decide | omega)) (Eq.trans (ui_o (by first | decide | omega)) (Eq.trans (ui_o (by first | decide | omega)) (Eq.trans (ui_o (by first | decide | omega)) (Eq.trans (hO3 50 40 (by omega)).1 (Eq.trans (ui_o (by first | decide | omega)) (Eq.trans (hO2 50 40 (by omega)).1 (Eq.trans (ui_o (by first | decide | omega)) (Eq.trans (hO1 50 40 (by omega)).1 (Eq.trans (ui_o (by first | decide | omega)) (hO0 50 40 (by omega)).1))))))))))) ?_
            rw [(z_zero_o (by decide)).trans hdl]
            refine zq_bald hc hH (by rfl) 4 (by decide +kernel) (vp_in_nI (by omega) (by decide)) ?_
            rw [nI_clamp (by omega)]
            refine zV1 (Z := Z) (Eq.trans (ui_o (by first | decide | omega)) (Eq.trans (ui_o (by first | decide | omega)) (Eq.trans (ui_o (by first | decide | omega)) (Eq.trans (ui_o (by first | decide | omega)) (ui_s))))) ?_
            refine z_rcs0 hc hH 1 (pc' := 111) (lv' := [(3, .int 4), (1, .int 2), (2, .ref 79), (0, .ref 50)]) (st' := [.int 1, .int 0, .ref 50]) (by rfl) ?_
            refine zq_call hc (z_cx_ok hH (by rfl)) (gm_endsB d' (by omega) (z_ui (z_ui (z_ui (z_ui (z_ui W3 79 3 0) 61 0 ((μ.1 61 0) + 1500)) 61 1 ((μ.1 61 1) + (-1500))) 61 2 ((μ.1 61 2) + 1500)) 61 3 ((μ.1 61 3) + (-1500))) false true 3 e (by rw [ui_o (by first | decide | omega), ui_o (by first | decide | omega), ui_o (by first | decide | omega), ui_o (by first | decide | omega), ui_o (by first | decide | omega), (hO3 50 40 (by omega)).1, ui_o (by first | decide | omega), (hO2 50 40 (by omega)).1, ui_o (by first | decide | omega), (hO1 50 40 (by omega)).1, ui_o (by first | decide | omega), (hO0 50 40 (by omega)).1]; exact (z_zero_o (by decide)).trans hdl) hdl4 he) (by decide +kernel) (fun r9 μ9 hq => ?_)
            obtain ⟨hr9, hm9⟩ := hq
            rw [hr9, hm9]
            clear hr9 hm9
            show Z 1 114 [(3, .int 4), (1, .int 2), (2, .ref 79), (0, .ref 50)] [] (eMB (z_ui (z_ui (z_ui (z_ui (z_ui W3 79 3 0) 61 0 ((μ.1 61 0) + 1500)) 61 1 ((μ.1 61 1) + (-1500))) 61 2 ((μ.1 61 2) + 1500)) 61 3 ((μ.1 61 3) + (-1500))) false true 3 e)
            exact hr 1 114 _ _ _ none (by decide +kernel) (by rfl) (by refine ⟨rfl, ?_⟩; unfold nM1010; exact SM_eMB (SM_ui (SM_ui (SM_ui (SM_ui (SM_ui (SM_tr (SM_ui (SM_tr (SM_ui (SM_tr (SM_ui (SM_tr (SM_rf _) hO0)) hO1)) hO2)) hO3)))))))
        · have h4 : (decide ((lg_cmp w3 0) = 0)) = false := decide_eq_false (cn_eq.mp h4)
          exact absurd (Eq.trans (Eq.symm (hb3)) h4) (by decide)
    · have h2 : (decide ((lg_cmp w1 0) = 0)) = false := decide_eq_false (cn_eq.mp h2)
      exact absurd (Eq.trans (Eq.symm (hb1)) h2) (by decide)
noncomputable def nM1011 (μ : zM) : zM := z_ui (z_ui (z_ui (z_ui (z_ui (z_ui (z_ui (z_ui (z_zero μ) 79 0 1) 79 1 0) 79 2 1) 79 3 1) 61 0 ((μ.1 61 0) + 1000)) 61 1 ((μ.1 61 1) + (-3000))) 61 2 ((μ.1 61 2) + 1000)) 61 3 ((μ.1 61 3) + 1000)
theorem gm_nobody1011 (d : Nat) (hd : 700 ≤ d) (μ : zM) (hH0 : a_H μ) (dl e : Nat) (hdl : μ.1 50 40 = nI dl) (hdl4 : dl < 4) (he : (dl + 1) % 4 = e) (w0 : Int64) (hw0 : ∀ M, SE μ M → a_H M → ∀ d, 699 ≤ d → z_C d mi_X7_waitsAt [.ref 50, .int 0] M (fun r W => r = some (.long w0) ∧ SMj M W ∧ a_H W)) (hb0 : decide (lg_cmp w0 0 = 0) = false) (w1 : Int64) (hw1 : ∀ M, SE μ M → a_H M → ∀ d, 699 ≤ d → z_C d mi_X7_waitsAt [.ref 50, .int 1] M (fun r W => r = some (.long w1) ∧ SMj M W ∧ a_H W)) (hb1 : decide (lg_cmp w1 0 = 0) = true) (w2 : Int64) (hw2 : ∀ M, SE μ M → a_H M → ∀ d, 699 ≤ d → z_C d mi_X7_waitsAt [.ref 50, .int 2] M (fun r W => r = some (.long w2) ∧ SMj M W ∧ a_H W)) (hb2 : decide (lg_cmp w2 0 = 0) = false) (w3 : Int64) (hw3 : ∀ M, SE μ M → a_H M → ∀ d, 699 ≤ d → z_C d mi_X7_waitsAt [.ref 50, .int 3] M (fun r W => r = some (.long w3) ∧ SMj M W ∧ a_H W)) (hb3 : decide (lg_cmp w3 0 = 0) = false) : z_C d mi_X7_nobodyWins [.ref 50] μ (fun r μ' => r = none ∧ SMj (eMB (nM1011 μ) (nbS true false true true dl) true dl e) μ') := by
  obtain ⟨d', rfl⟩ : ∃ d', d = d' + 1 := ⟨d - 1, by omega⟩
  intro Z hc hr
  refine ⟨rfl, ?_⟩
  have hH := zh_X7_nobodyWins
  refine z_rcs hc hH 9 (pc' := 17) (lv' := [(3, .int 0), (2, .ref 79), (1, .int 0), (0, .ref 50)]) (st' := [.int 0, .ref 50, .int 0, .ref 79]) (μ' := z_zero μ) (by rfl) ?_
  refine zq_call hc (z_cx_ok hH (by rfl)) (hw0 _ (SE_zr _) (a_H_zero hH0) d' (by omega)) (by decide +kernel) (fun r9 W0 hq => ?_)
  obtain ⟨rfl, hO0, hA0⟩ := hq
  show Z 1 20 [(3, .int 0), (2, .ref 79), (1, .int 0), (0, .ref 50)] [.long w0, .int 0, .ref 79] W0
  refine z_rcs hc hH 2 (pc' := 22) (lv' := [(3, .int 0), (2, .ref 79), (1, .int 0), (0, .ref 50)]) (st' := [.int (lg_cmp w0 0), .int 0, .ref 79]) (μ' := W0) (by rfl) ?_
  refine zq_if hc hH (by rfl) (tg := 29) (by rfl) (fun h1 => ?_) (fun h1 => ?_)
  · have h1 : (decide ((lg_cmp w0 0) = 0)) = true := decide_eq_true (cm_eq9.mp h1)
    exact absurd (Eq.trans (Eq.symm (hb0)) h1) (by decide)
  · have h1 : (decide ((lg_cmp w0 0) = 0)) = false := decide_eq_false (cn_eq.mp h1)
    refine z_rcs hc hH 2 (pc' := 30) (lv' := [(3, .int 0), (2, .ref 79), (1, .int 0), (0, .ref 50)]) (st' := [.int 1, .int 0, .ref 79]) (μ' := W0) (by rfl) ?_
    refine zq_bast hc hH (by rfl) 4 (by decide +kernel) (show vp_in (nI 0) 4 from vp_in_nI (by decide) (by decide)) (by decide) ?_
    rw [show (0 : Int32).toNatClampNeg = 0 from rfl]
    show Z 1 31 [(3, .int 0), (2, .ref 79), (1, .int 0), (0, .ref 50)] [] (z_ui W0 79 0 1)
    refine z_rcs hc hH 3 (pc' := 34) (lv' := [(3, .int 0), (2, .ref 79), (1, .int 0), (0, .ref 50)]) (st' := [.int 0, .ref 79, .int 0]) (μ' := z_ui W0 79 0 1) (by rfl) ?_
    refine zq_bald hc hH (by rfl) 4 (by decide +kernel) (show vp_in (nI 0) 4 from vp_in_nI (by decide) (by decide)) ?_
    rw [show (0 : Int32).toNatClampNeg = 0 from rfl]
    rw [ui_s]
    refine z_rcs hc hH 14 (pc' := 17) (lv' := [(3, .int 1), (1, .int 1), (2, .ref 79), (0, .ref 50)]) (st' := [.int 1, .ref 50, .int 1, .ref 79]) (μ' := z_ui W0 79 0 1) (by rfl) ?_
    refine zq_call hc (z_cx_ok hH (by rfl)) (hw1 _ (SE_ui (SE_sm (SE_zr _) hO0) (by omega)) (a_H_ui (r := 79) (k := 0) (hA0) ⟨by decide, by decide⟩) d' (by omega)) (by decide +kernel) (fun r9 W1 hq => ?_)
    obtain ⟨rfl, hO1, hA1⟩ := hq
    show Z 1 20 [(3, .int 1), (1, .int 1), (2, .ref 79), (0, .ref 50)] [.long w1, .int 1, .ref 79] W1
    refine z_rcs hc hH 2 (pc' := 22) (lv' := [(3, .int 1), (1, .int 1), (2, .ref 79), (0, .ref 50)]) (st' := [.int (lg_cmp w1 0), .int 1, .ref 79]) (μ' := W1) (by rfl) ?_
    refine zq_if hc hH (by rfl) (tg := 29) (by rfl) (fun h2 => ?_) (fun h2 => ?_)
    · have h2 : (decide ((lg_cmp w1 0) = 0)) = true := decide_eq_true (cm_eq9.mp h2)
      refine z_rcs hc hH 1 (pc' := 30) (lv' := [(3, .int 1), (1, .int 1), (2, .ref 79), (0, .ref 50)]) (st' := [.int 0, .int 1, .ref 79]) (μ' := W1) (by rfl) ?_
      refine zq_bast hc hH (by rfl) 4 (by decide +kernel) (show vp_in (nI 1) 4 from vp_in_nI (by decide) (by decide)) (by decide) ?_
      rw [show (1 : Int32).toNatClampNeg = 1 from rfl]
      show Z 1 31 [(3, .int 1), (1, .int 1), (2, .ref 79), (0, .ref 50)] [] (z_ui W1 79 1 0)
      refine z_rcs hc hH 3 (pc' := 34) (lv' := [(3, .int 1), (1, .int 1), (2, .ref 79), (0, .ref 50)]) (st' := [.int 1, .ref 79, .int 1]) (μ' := z_ui W1 79 1 0) (by rfl) ?_
      refine zq_bald hc hH (by rfl) 4 (by decide +kernel) (show vp_in (nI 1) 4 from vp_in_nI (by decide) (by decide)) ?_
      rw [show (1 : Int32).toNatClampNeg = 1 from rfl]
      rw [ui_s]
      refine z_rcs hc hH 13 (pc' := 17) (lv' := [(3, .int 2), (1, .int 1), (2, .ref 79), (0, .ref 50)]) (st' := [.int 2, .ref 50, .int 2, .ref 79]) (μ' := z_ui W1 79 1 0) (by rfl) ?_
      refine zq_call hc (z_cx_ok hH (by rfl)) (hw2 _ (SE_ui (SE_sm (SE_ui (SE_sm (SE_zr _) hO0) (by omega)) hO1) (by omega)) (a_H_ui (r := 79) (k := 1) (hA1) ⟨by decide, by decide⟩) d' (by omega)) (by decide +kernel) (fun r9 W2 hq => ?_)
      obtain ⟨rfl, hO2, hA2⟩ := hq
      show Z 1 20 [(3, .int 2), (1, .int 1), (2, .ref 79), (0, .ref 50)] [.long w2, .int 2, .ref 79] W2
      refine z_rcs hc hH 2 (pc' := 22) (lv' := [(3, .int 2), (1, .int 1), (2, .ref 79), (0, .ref 50)]) (st' := [.int (lg_cmp w2 0), .int 2, .ref 79]) (μ' := W2) (by rfl) ?_
      refine zq_if hc hH (by rfl) (tg := 29) (by rfl) (fun h3 => ?_) (fun h3 => ?_)
      · have h3 : (decide ((lg_cmp w2 0) = 0)) = true := decide_eq_true (cm_eq9.mp h3)
        exact absurd (Eq.trans (Eq.symm (hb2)) h3) (by decide)
      · have h3 : (decide ((lg_cmp w2 0) = 0)) = false := decide_eq_false (cn_eq.mp h3)
        refine z_rcs hc hH 2 (pc' := 30) (lv' := [(3, .int 2), (1, .int 1), (2, .ref 79), (0, .ref 50)]) (st' := [.int 1, .int 2, .ref 79]) (μ' := W2) (by rfl) ?_
        refine zq_bast hc hH (by rfl) 4 (by decide +kernel) (show vp_in (nI 2) 4 from vp_in_nI (by decide) (by decide)) (by decide) ?_
        rw [show (2 : Int32).toNatClampNeg = 2 from rfl]
        show Z 1 31 [(3, .int 2), (1, .int 1), (2, .ref 79), (0, .ref 50)] [] (z_ui W2 79 2 1)
        refine z_rcs hc hH 3 (pc' := 34) (lv' := [(3, .int 2), (1, .int 1), (2, .ref 79), (0, .ref 50)]) (st' := [.int 2, .ref 79, .int 1]) (μ' := z_ui W2 79 2 1) (by rfl) ?_
        refine zq_bald hc hH (by rfl) 4 (by decide +kernel) (show vp_in (nI 2) 4 from vp_in_nI (by decide) (by decide)) ?_
        rw [show (2 : Int32).toNatClampNeg = 2 from rfl]
        rw [ui_s]
        refine z_rcs hc hH 14 (pc' := 17) (lv' := [(3, .int 3), (1, .int 2), (2, .ref 79), (0, .ref 50)]) (st' := [.int 3, .ref 50, .int 3, .ref 79]) (μ' := z_ui W2 79 2 1) (by rfl) ?_
        refine zq_call hc (z_cx_ok hH (by rfl)) (hw3 _ (SE_ui (SE_sm (SE_ui (SE_sm (SE_ui (SE_sm (SE_zr _) hO0) (by omega)) hO1) (by omega)) hO2) (by omega)) (a_H_ui (r := 79) (k := 2) (hA2) ⟨by decide, by decide⟩) d' (by omega)) (by decide +kernel) (fun r9 W3 hq => ?_)
        obtain ⟨rfl, hO3, hA3⟩ := hq
        show Z 1 20 [(3, .int 3), (1, .int 2), (2, .ref 79), (0, .ref 50)] [.long w3, .int 3, .ref 79] W3
        refine z_rcs hc hH 2 (pc' := 22) (lv' := [(3, .int 3), (1, .int 2), (2, .ref 79), (0, .ref 50)]) (st' := [.int (lg_cmp w3 0), .int 3, .ref 79]) (μ' := W3) (by rfl) ?_
        refine zq_if hc hH (by rfl) (tg := 29) (by rfl) (fun h4 => ?_) (fun h4 => ?_)
        · have h4 : (decide ((lg_cmp w3 0) = 0)) = true := decide_eq_true (cm_eq9.mp h4)
          exact absurd (Eq.trans (Eq.symm (hb3)) h4) (by decide)
        · have h4 : (decide ((lg_cmp w3 0) = 0)) = false := decide_eq_false (cn_eq.mp h4)
          refine z_rcs hc hH 2 (pc' := 30) (lv' := [(3, .int 3), (1, .int 2), (2, .ref 79), (0, .ref 50)]) (st' := [.int 1, .int 3, .ref 79]) (μ' := W3) (by rfl) ?_
          refine zq_bast hc hH (by rfl) 4 (by decide +kernel) (show vp_in (nI 3) 4 from vp_in_nI (by decide) (by decide)) (by decide) ?_
          rw [show (3 : Int32).toNatClampNeg = 3 from rfl]
          show Z 1 31 [(3, .int 3), (1, .int 2), (2, .ref 79), (0, .ref 50)] [] (z_ui W3 79 3 1)
          refine z_rcs hc hH 3 (pc' := 34) (lv' := [(3, .int 3), (1, .int 2), (2, .ref 79), (0, .ref 50)]) (st' := [.int 3, .ref 79, .int 2]) (μ' := z_ui W3 79 3 1) (by rfl) ?_
          refine zq_bald hc hH (by rfl) 4 (by decide +kernel) (show vp_in (nI 3) 4 from vp_in_nI (by decide) (by decide)) ?_
          rw [show (3 : Int32).toNatClampNeg = 3 from rfl]
          rw [ui_s]
          refine z_rcs hc hH 21 (pc' := 68) (lv' := [(3, .int 0), (1, .int 3), (2, .ref 79), (0, .ref 50)]) (st' := [.ref 50]) (μ' := z_ui W3 79 3 1) (by rfl) ?_
          refine zq_gfr hc hH (by rfl) (ci := 6) (f := 29) (q := 61) (by rfl) (by decide +kernel) (by rfl) (by decide +kernel) ?_
          refine z_rcs hc hH 2 (pc' := 73) (lv' := [(3, .int 0), (1, .int 3), (2, .ref 79), (0, .ref 50)]) (st' := [.int 0, .ref 61, .int 0, .ref 61]) (μ' := z_ui W3 79 3 1) (by rfl) ?_
          refine zq_iald hc hH (by rfl) 4 (oka_i (by decide +kernel)) (show vp_in (nI 0) 4 from vp_in_nI (by decide) (by decide)) ?_
          rw [show (0 : Int32).toNatClampNeg = 0 from rfl]
          refine zV1 (Z := Z) (Eq.trans (ui_o (by first | decide | omega)) (Eq.trans (hO3 61 0 (by omega)).1 (Eq.trans (ui_o (by first | decide | omega)) (Eq.trans (hO2 61 0 (by omega)).1 (Eq.trans (ui_o (by first | decide | omega)) (Eq.trans (hO1 61 0 (by omega)).1 (Eq.trans (ui_o (by first | decide | omega)) (hO0 61 0 (by omega)).1))))))) ?_
          rw [z_zero_o (by decide)]
          refine z_rcs hc hH 2 (pc' := 76) (lv' := [(3, .int 0), (1, .int 3), (2, .ref 79), (0, .ref 50)]) (st' := [.int 0, .ref 79, .int (μ.1 61 0), .int 0, .ref 61]) (μ' := z_ui W3 79 3 1) (by rfl) ?_
          refine zq_bald hc hH (by rfl) 4 (by decide +kernel) (show vp_in (nI 0) 4 from vp_in_nI (by decide) (by decide)) ?_
          rw [show (0 : Int32).toNatClampNeg = 0 from rfl]
          refine zV1 (Z := Z) (Eq.trans (ui_k (by first | decide | omega)) (Eq.trans (hO3 79 0 (by omega)).1 (Eq.trans (ui_k (by first | decide | omega)) (Eq.trans (hO2 79 0 (by omega)).1 (Eq.trans (ui_k (by first | decide | omega)) (Eq.trans (hO1 79 0 (by omega)).1 (ui_s))))))) ?_
          refine z_rcs hc hH 6 (pc' := 96) (lv' := [(3, .int 0), (1, .int 3), (2, .ref 79), (0, .ref 50)]) (st' := [.int ((μ.1 61 0) + 1000), .int 0, .ref 61]) (μ' := z_ui W3 79 3 1) (by rfl) ?_
          refine zq_iast hc hH (by rfl) 4 (oka_i (by decide +kernel)).2 (show vp_in (nI 0) 4 from vp_in_nI (by decide) (by decide)) ?_
          rw [show (0 : Int32).toNatClampNeg = 0 from rfl]
          show Z 1 97 [(3, .int 0), (1, .int 3), (2, .ref 79), (0, .ref 50)] [] (z_ui (z_ui W3 79 3 1) 61 0 ((μ.1 61 0) + 1000))
          refine z_rcs0 hc hH 6 (pc' := 68) (lv' := [(3, .int 1), (1, .int 3), (2, .ref 79), (0, .ref 50)]) (st' := [.ref 50]) (by rfl) ?_
          refine zq_gfr hc hH (by rfl) (ci := 6) (f := 29) (q := 61) (by rfl) (by decide +kernel) (by rfl) (by decide +kernel) ?_
          refine z_rcs0 hc hH 2 (pc' := 73) (lv' := [(3, .int 1), (1, .int 3), (2, .ref 79), (0, .ref 50)]) (st' := [.int 1, .ref 61, .int 1, .ref 61]) (by rfl) ?_
          refine zq_iald hc hH (by rfl) 4 (oka_i (by decide +kernel)) (show vp_in (nI 1) 4 from vp_in_nI (by decide) (by decide)) ?_
          rw [show (1 : Int32).toNatClampNeg = 1 from rfl]
          refine zV1 (Z := Z) (Eq.trans (ui_k (by first | decide | omega)) (Eq.trans (ui_o (by first | decide | omega)) (Eq.trans (hO3 61 1 (by omega)).1 (Eq.trans (ui_o (by first | decide | omega)) (Eq.trans (hO2 61 1 (by omega)).1 (Eq.trans (ui_o (by first | decide | omega)) (Eq.trans (hO1 61 1 (by omega)).1 (Eq.trans (ui_o (by first | decide | omega)) (hO0 61 1 (by omega)).1)))))))) ?_
          rw [z_zero_o (by decide)]
          refine z_rcs0 hc hH 2 (pc' := 76) (lv' := [(3, .int 1), (1, .int 3), (2, .ref 79), (0, .ref 50)]) (st' := [.int 1, .ref 79, .int (μ.1 61 1), .int 1, .ref 61]) (by rfl) ?_
          refine zq_bald hc hH (by rfl) 4 (by decide +kernel) (show vp_in (nI 1) 4 from vp_in_nI (by decide) (by decide)) ?_
          rw [show (1 : Int32).toNatClampNeg = 1 from rfl]
          refine zV1 (Z := Z) (Eq.trans (ui_o (by first | decide | omega)) (Eq.trans (ui_k (by first | decide | omega)) (Eq.trans (hO3 79 1 (by omega)).1 (Eq.trans (ui_k (by first | decide | omega)) (Eq.trans (hO2 79 1 (by omega)).1 (ui_s)))))) ?_
          refine z_rcs0 hc hH 7 (pc' := 96) (lv' := [(3, .int 1), (1, .int 3), (2, .ref 79), (0, .ref 50)]) (st' := [.int ((μ.1 61 1) + (-3000)), .int 1, .ref 61]) (by rfl) ?_
          refine zq_iast hc hH (by rfl) 4 (oka_i (by decide +kernel)).2 (show vp_in (nI 1) 4 from vp_in_nI (by decide) (by decide)) ?_
          rw [show (1 : Int32).toNatClampNeg = 1 from rfl]
          show Z 1 97 [(3, .int 1), (1, .int 3), (2, .ref 79), (0, .ref 50)] [] (z_ui (z_ui (z_ui W3 79 3 1) 61 0 ((μ.1 61 0) + 1000)) 61 1 ((μ.1 61 1) + (-3000)))
          refine z_rcs0 hc hH 6 (pc' := 68) (lv' := [(3, .int 2), (1, .int 3), (2, .ref 79), (0, .ref 50)]) (st' := [.ref 50]) (by rfl) ?_
          refine zq_gfr hc hH (by rfl) (ci := 6) (f := 29) (q := 61) (by rfl) (by decide +kernel) (by rfl) (by decide +kernel) ?_
          refine z_rcs0 hc hH 2 (pc' := 73) (lv' := [(3, .int 2), (1, .int 3), (2, .ref 79), (0, .ref 50)]) (st' := [.int 2, .ref 61, .int 2, .ref 61]) (by rfl) ?_
          refine zq_iald hc hH (by rfl) 4 (oka_i (by decide +kernel)) (show vp_in (nI 2) 4 from vp_in_nI (by decide) (by decide)) ?_
          rw [show (2 : Int32).toNatClampNeg = 2 from rfl]
          refine zV1 (Z := Z) (Eq.trans (ui_k (by first | decide | omega)) (Eq.trans (ui_k (by first | decide | omega)) (Eq.trans (ui_o (by first | decide | omega)) (Eq.trans (hO3 61 2 (by omega)).1 (Eq.trans (ui_o (by first | decide | omega)) (Eq.trans (hO2 61 2 (by omega)).1 (Eq.trans (ui_o (by first | decide | omega)) (Eq.trans (hO1 61 2 (by omega)).1 (Eq.trans (ui_o (by first | decide | omega)) (hO0 61 2 (by omega)).1))))))))) ?_
          rw [z_zero_o (by decide)]
          refine z_rcs0 hc hH 2 (pc' := 76) (lv' := [(3, .int 2), (1, .int 3), (2, .ref 79), (0, .ref 50)]) (st' := [.int 2, .ref 79, .int (μ.1 61 2), .int 2, .ref 61]) (by rfl) ?_
          refine zq_bald hc hH (by rfl) 4 (by decide +kernel) (show vp_in (nI 2) 4 from vp_in_nI (by decide) (by decide)) ?_
          rw [show (2 : Int32).toNatClampNeg = 2 from rfl]
          refine zV1 (Z := Z) (Eq.trans (ui_o (by first | decide | omega)) (Eq.trans (ui_o (by first | decide | omega)) (Eq.trans (ui_k (by first | decide | omega)) (Eq.trans (hO3 79 2 (by omega)).1 (ui_s))))) ?_
          refine z_rcs0 hc hH 6 (pc' := 96) (lv' := [(3, .int 2), (1, .int 3), (2, .ref 79), (0, .ref 50)]) (st' := [.int ((μ.1 61 2) + 1000), .int 2, .ref 61]) (by rfl) ?_
          refine zq_iast hc hH (by rfl) 4 (oka_i (by decide +kernel)).2 (show vp_in (nI 2) 4 from vp_in_nI (by decide) (by decide)) ?_
          rw [show (2 : Int32).toNatClampNeg = 2 from rfl]
          show Z 1 97 [(3, .int 2), (1, .int 3), (2, .ref 79), (0, .ref 50)] [] (z_ui (z_ui (z_ui (z_ui W3 79 3 1) 61 0 ((μ.1 61 0) + 1000)) 61 1 ((μ.1 61 1) + (-3000))) 61 2 ((μ.1 61 2) + 1000))
          refine z_rcs0 hc hH 6 (pc' := 68) (lv' := [(3, .int 3), (1, .int 3), (2, .ref 79), (0, .ref 50)]) (st' := [.ref 50]) (by rfl) ?_
          refine zq_gfr hc hH (by rfl) (ci := 6) (f := 29) (q := 61) (by rfl) (by decide +kernel) (by rfl) (by decide +kernel) ?_
          refine z_rcs0 hc hH 2 (pc' := 73) (lv' := [(3, .int 3), (1, .int 3), (2, .ref 79), (0, .ref 50)]) (st' := [.int 3, .ref 61, .int 3, .ref 61]) (by rfl) ?_
          refine zq_iald hc hH (by rfl) 4 (oka_i (by decide +kernel)) (show vp_in (nI 3) 4 from vp_in_nI (by decide) (by decide)) ?_
          rw [show (3 : Int32).toNatClampNeg = 3 from rfl]
          refine zV1 (Z := Z) (Eq.trans (ui_k (by first | decide | omega)) (Eq.trans (ui_k (by first | decide | omega)) (Eq.trans (ui_k (by first | decide | omega)) (Eq.trans (ui_o (by first | decide | omega)) (Eq.trans (hO3 61 3 (by omega)).1 (Eq.trans (ui_o (by first | decide | omega)) (Eq.trans (hO2 61 3 (by omega)).1 (Eq.trans (ui_o (by first | decide | omega)) (Eq.trans (hO1 61 3 (by omega)).1 (Eq.trans (ui_o (by first | decide | omega)) (hO0 61 3 (by omega)).1)))))))))) ?_
          rw [z_zero_o (by decide)]
          refine z_rcs0 hc hH 2 (pc' := 76) (lv' := [(3, .int 3), (1, .int 3), (2, .ref 79), (0, .ref 50)]) (st' := [.int 3, .ref 79, .int (μ.1 61 3), .int 3, .ref 61]) (by rfl) ?_
          refine zq_bald hc hH (by rfl) 4 (by decide +kernel) (show vp_in (nI 3) 4 from vp_in_nI (by decide) (by decide)) ?_
          rw [show (3 : Int32).toNatClampNeg = 3 from rfl]
          refine zV1 (Z := Z) (Eq.trans (ui_o (by first | decide | omega)) (Eq.trans (ui_o (by first | decide | omega)) (Eq.trans (ui_o (by first | decide | omega)) (ui_s)))) ?_
          refine z_rcs0 hc hH 6 (pc' := 96) (lv' := [(3, .int 3), (1, .int 3), (2, .ref 79), (0, .ref 50)]) (st' := [.int ((μ.1 61 3) + 1000), .int 3, .ref 61]) (by rfl) ?_
          refine zq_iast hc hH (by rfl) 4 (oka_i (by decide +kernel)).2 (show vp_in (nI 3) 4 from vp_in_nI (by decide) (by decide)) ?_
          rw [show (3 : Int32).toNatClampNeg = 3 from rfl]
          show Z 1 97 [(3, .int 3), (1, .int 3), (2, .ref 79), (0, .ref 50)] [] (z_ui (z_ui (z_ui (z_ui (z_ui W3 79 3 1) 61 0 ((μ.1 61 0) + 1000)) 61 1 ((μ.1 61 1) + (-3000))) 61 2 ((μ.1 61 2) + 1000)) 61 3 ((μ.1 61 3) + 1000))
          refine z_rcs0 hc hH 5 (pc' := 103) (lv' := [(3, .int 4), (1, .int 3), (2, .ref 79), (0, .ref 50)]) (st' := []) (by rfl) ?_
          obtain rfl | rfl | rfl | rfl : dl = 0 ∨ dl = 1 ∨ dl = 2 ∨ dl = 3 := by omega
          · skip
            refine z_rcs0 hc hH 3 (pc' := 106) (lv' := [(3, .int 4), (1, .int 3), (2, .ref 79), (0, .ref 50)]) (st' := [.ref 50, .ref 79, .ref 50]) (by rfl) ?_
            refine zq_gfi hc hH (by rfl) (ci := 6) (f := 40) (by rfl) (by decide +kernel) (by rfl) ?_
            refine zV1 (Z := Z) (Eq.trans (ui_o (by first | decide | omega)) (Eq.trans (ui_o (by first | decide | omega)) (Eq.trans (ui_o (by first | decide | omega)) (Eq.trans (ui_o (by first | decide | omega)) (Eq.trans (ui_o (by first | decide | omega)) (Eq.trans (hO3 50 40 (by omega)).1 (Eq.trans (ui_o (by first | decide | omega)) (Eq.trans (hO2 50 40 (by omega)).1 (Eq.trans (ui_o (by first | decide | omega)) (Eq.trans (hO1 50 40 (by omega)).1 (Eq.trans (ui_o (by first | decide | omega)) (hO0 50 40 (by omega)).1))))))))))) ?_
            rw [(z_zero_o (by decide)).trans hdl]
            refine zq_bald hc hH (by rfl) 4 (by decide +kernel) (vp_in_nI (by omega) (by decide)) ?_
            rw [nI_clamp (by omega)]
            refine zV1 (Z := Z) (Eq.trans (ui_o (by first | decide | omega)) (Eq.trans (ui_o (by first | decide | omega)) (Eq.trans (ui_o (by first | decide | omega)) (Eq.trans (ui_o (by first | decide | omega)) (Eq.trans (ui_k (by first | decide | omega)) (Eq.trans (hO3 79 0 (by omega)).1 (Eq.trans (ui_k (by first | decide | omega)) (Eq.trans (hO2 79 0 (by omega)).1 (Eq.trans (ui_k (by first | decide | omega)) (Eq.trans (hO1 79 0 (by omega)).1 (ui_s))))))))))) ?_
            refine z_rcs0 hc hH 1 (pc' := 111) (lv' := [(3, .int 4), (1, .int 3), (2, .ref 79), (0, .ref 50)]) (st' := [.int 1, .int 1, .ref 50]) (by rfl) ?_
            refine zq_call hc (z_cx_ok hH (by rfl)) (gm_endsB d' (by omega) (z_ui (z_ui (z_ui (z_ui (z_ui W3 79 3 1) 61 0 ((μ.1 61 0) + 1000)) 61 1 ((μ.1 61 1) + (-3000))) 61 2 ((μ.1 61 2) + 1000)) 61 3 ((μ.1 61 3) + 1000)) true true 0 e (by rw [ui_o (by first | decide | omega), ui_o (by first | decide | omega), ui_o (by first | decide | omega), ui_o (by first | decide | omega), ui_o (by first | decide | omega), (hO3 50 40 (by omega)).1, ui_o (by first | decide | omega), (hO2 50 40 (by omega)).1, ui_o (by first | decide | omega), (hO1 50 40 (by omega)).1, ui_o (by first | decide | omega), (hO0 50 40 (by omega)).1]; exact (z_zero_o (by decide)).trans hdl) hdl4 he) (by decide +kernel) (fun r9 μ9 hq => ?_)
            obtain ⟨hr9, hm9⟩ := hq
            rw [hr9, hm9]
            clear hr9 hm9
            show Z 1 114 [(3, .int 4), (1, .int 3), (2, .ref 79), (0, .ref 50)] [] (eMB (z_ui (z_ui (z_ui (z_ui (z_ui W3 79 3 1) 61 0 ((μ.1 61 0) + 1000)) 61 1 ((μ.1 61 1) + (-3000))) 61 2 ((μ.1 61 2) + 1000)) 61 3 ((μ.1 61 3) + 1000)) true true 0 e)
            exact hr 1 114 _ _ _ none (by decide +kernel) (by rfl) (by refine ⟨rfl, ?_⟩; unfold nM1011; exact SM_eMB (SM_ui (SM_ui (SM_ui (SM_ui (SM_ui (SM_tr (SM_ui (SM_tr (SM_ui (SM_tr (SM_ui (SM_tr (SM_rf _) hO0)) hO1)) hO2)) hO3)))))))
          · skip
            refine z_rcs hc hH 3 (pc' := 106) (lv' := [(3, .int 4), (1, .int 3), (2, .ref 79), (0, .ref 50)]) (st' := [.ref 50, .ref 79, .ref 50]) (μ' := z_ui (z_ui (z_ui (z_ui (z_ui W3 79 3 1) 61 0 ((μ.1 61 0) + 1000)) 61 1 ((μ.1 61 1) + (-3000))) 61 2 ((μ.1 61 2) + 1000)) 61 3 ((μ.1 61 3) + 1000)) (by rfl) ?_
            refine zq_gfi hc hH (by rfl) (ci := 6) (f := 40) (by rfl) (by decide +kernel) (by rfl) ?_
            refine zV1 (Z := Z) (Eq.trans (ui_o (by first | decide | omega)) (Eq.trans (ui_o (by first | decide | omega)) (Eq.trans (ui_o (by first | decide | omega)) (Eq.trans (ui_o (by first | decide | omega)) (Eq.trans (ui_o (by first | decide | omega)) (Eq.trans (hO3 50 40 (by omega)).1 (Eq.trans (ui_o (by first | decide | omega)) (Eq.trans (hO2 50 40 (by omega)).1 (Eq.trans (ui_o (by first | decide | omega)) (Eq.trans (hO1 50 40 (by omega)).1 (Eq.trans (ui_o (by first | decide | omega)) (hO0 50 40 (by omega)).1))))))))))) ?_
            rw [(z_zero_o (by decide)).trans hdl]
            refine zq_bald hc hH (by rfl) 4 (by decide +kernel) (vp_in_nI (by omega) (by decide)) ?_
            rw [nI_clamp (by omega)]
            refine zV1 (Z := Z) (Eq.trans (ui_o (by first | decide | omega)) (Eq.trans (ui_o (by first | decide | omega)) (Eq.trans (ui_o (by first | decide | omega)) (Eq.trans (ui_o (by first | decide | omega)) (Eq.trans (ui_k (by first | decide | omega)) (Eq.trans (hO3 79 1 (by omega)).1 (Eq.trans (ui_k (by first | decide | omega)) (Eq.trans (hO2 79 1 (by omega)).1 (ui_s))))))))) ?_
            refine z_rcs0 hc hH 1 (pc' := 111) (lv' := [(3, .int 4), (1, .int 3), (2, .ref 79), (0, .ref 50)]) (st' := [.int 1, .int 0, .ref 50]) (by rfl) ?_
            refine zq_call hc (z_cx_ok hH (by rfl)) (gm_endsB d' (by omega) (z_ui (z_ui (z_ui (z_ui (z_ui W3 79 3 1) 61 0 ((μ.1 61 0) + 1000)) 61 1 ((μ.1 61 1) + (-3000))) 61 2 ((μ.1 61 2) + 1000)) 61 3 ((μ.1 61 3) + 1000)) false true 1 e (by rw [ui_o (by first | decide | omega), ui_o (by first | decide | omega), ui_o (by first | decide | omega), ui_o (by first | decide | omega), ui_o (by first | decide | omega), (hO3 50 40 (by omega)).1, ui_o (by first | decide | omega), (hO2 50 40 (by omega)).1, ui_o (by first | decide | omega), (hO1 50 40 (by omega)).1, ui_o (by first | decide | omega), (hO0 50 40 (by omega)).1]; exact (z_zero_o (by decide)).trans hdl) hdl4 he) (by decide +kernel) (fun r9 μ9 hq => ?_)
            obtain ⟨hr9, hm9⟩ := hq
            rw [hr9, hm9]
            clear hr9 hm9
            show Z 1 114 [(3, .int 4), (1, .int 3), (2, .ref 79), (0, .ref 50)] [] (eMB (z_ui (z_ui (z_ui (z_ui (z_ui W3 79 3 1) 61 0 ((μ.1 61 0) + 1000)) 61 1 ((μ.1 61 1) + (-3000))) 61 2 ((μ.1 61 2) + 1000)) 61 3 ((μ.1 61 3) + 1000)) false true 1 e)
            exact hr 1 114 _ _ _ none (by decide +kernel) (by rfl) (by refine ⟨rfl, ?_⟩; unfold nM1011; exact SM_eMB (SM_ui (SM_ui (SM_ui (SM_ui (SM_ui (SM_tr (SM_ui (SM_tr (SM_ui (SM_tr (SM_ui (SM_tr (SM_rf _) hO0)) hO1)) hO2)) hO3)))))))
          · skip
            refine z_rcs hc hH 3 (pc' := 106) (lv' := [(3, .int 4), (1, .int 3), (2, .ref 79), (0, .ref 50)]) (st' := [.ref 50, .ref 79, .ref 50]) (μ' := z_ui (z_ui (z_ui (z_ui (z_ui W3 79 3 1) 61 0 ((μ.1 61 0) + 1000)) 61 1 ((μ.1 61 1) + (-3000))) 61 2 ((μ.1 61 2) + 1000)) 61 3 ((μ.1 61 3) + 1000)) (by rfl) ?_
            refine zq_gfi hc hH (by rfl) (ci := 6) (f := 40) (by rfl) (by decide +kernel) (by rfl) ?_
            refine zV1 (Z := Z) (Eq.trans (ui_o (by first | decide | omega)) (Eq.trans (ui_o (by first | decide | omega)) (Eq.trans (ui_o (by first | decide | omega)) (Eq.trans (ui_o (by first | decide | omega)) (Eq.trans (ui_o (by first | decide | omega)) (Eq.trans (hO3 50 40 (by omega)).1 (Eq.trans (ui_o (by first | decide | omega)) (Eq.trans (hO2 50 40 (by omega)).1 (Eq.trans (ui_o (by first | decide | omega)) (Eq.trans (hO1 50 40 (by omega)).1 (Eq.trans (ui_o (by first | decide | omega)) (hO0 50 40 (by omega)).1))))))))))) ?_
            rw [(z_zero_o (by decide)).trans hdl]
            refine zq_bald hc hH (by rfl) 4 (by decide +kernel) (vp_in_nI (by omega) (by decide)) ?_
            rw [nI_clamp (by omega)]
            refine zV1 (Z := Z) (Eq.trans (ui_o (by first | decide | omega)) (Eq.trans (ui_o (by first | decide | omega)) (Eq.trans (ui_o (by first | decide | omega)) (Eq.trans (ui_o (by first | decide | omega)) (Eq.trans (ui_k (by first | decide | omega)) (Eq.trans (hO3 79 2 (by omega)).1 (ui_s))))))) ?_
            refine z_rcs0 hc hH 1 (pc' := 111) (lv' := [(3, .int 4), (1, .int 3), (2, .ref 79), (0, .ref 50)]) (st' := [.int 1, .int 1, .ref 50]) (by rfl) ?_
            refine zq_call hc (z_cx_ok hH (by rfl)) (gm_endsB d' (by omega) (z_ui (z_ui (z_ui (z_ui (z_ui W3 79 3 1) 61 0 ((μ.1 61 0) + 1000)) 61 1 ((μ.1 61 1) + (-3000))) 61 2 ((μ.1 61 2) + 1000)) 61 3 ((μ.1 61 3) + 1000)) true true 2 e (by rw [ui_o (by first | decide | omega), ui_o (by first | decide | omega), ui_o (by first | decide | omega), ui_o (by first | decide | omega), ui_o (by first | decide | omega), (hO3 50 40 (by omega)).1, ui_o (by first | decide | omega), (hO2 50 40 (by omega)).1, ui_o (by first | decide | omega), (hO1 50 40 (by omega)).1, ui_o (by first | decide | omega), (hO0 50 40 (by omega)).1]; exact (z_zero_o (by decide)).trans hdl) hdl4 he) (by decide +kernel) (fun r9 μ9 hq => ?_)
            obtain ⟨hr9, hm9⟩ := hq
            rw [hr9, hm9]
            clear hr9 hm9
            show Z 1 114 [(3, .int 4), (1, .int 3), (2, .ref 79), (0, .ref 50)] [] (eMB (z_ui (z_ui (z_ui (z_ui (z_ui W3 79 3 1) 61 0 ((μ.1 61 0) + 1000)) 61 1 ((μ.1 61 1) + (-3000))) 61 2 ((μ.1 61 2) + 1000)) 61 3 ((μ.1 61 3) + 1000)) true true 2 e)
            exact hr 1 114 _ _ _ none (by decide +kernel) (by rfl) (by refine ⟨rfl, ?_⟩; unfold nM1011; exact SM_eMB (SM_ui (SM_ui (SM_ui (SM_ui (SM_ui (SM_tr (SM_ui (SM_tr (SM_ui (SM_tr (SM_ui (SM_tr (SM_rf _) hO0)) hO1)) hO2)) hO3)))))))
          · skip
            refine z_rcs hc hH 3 (pc' := 106) (lv' := [(3, .int 4), (1, .int 3), (2, .ref 79), (0, .ref 50)]) (st' := [.ref 50, .ref 79, .ref 50]) (μ' := z_ui (z_ui (z_ui (z_ui (z_ui W3 79 3 1) 61 0 ((μ.1 61 0) + 1000)) 61 1 ((μ.1 61 1) + (-3000))) 61 2 ((μ.1 61 2) + 1000)) 61 3 ((μ.1 61 3) + 1000)) (by rfl) ?_
            refine zq_gfi hc hH (by rfl) (ci := 6) (f := 40) (by rfl) (by decide +kernel) (by rfl) ?_
            refine zV1 (Z := Z) (Eq.trans (ui_o (by first | decide | omega)) (Eq.trans (ui_o (by first | decide | omega)) (Eq.trans (ui_o (by first | decide | omega)) (Eq.trans (ui_o (by first | decide | omega)) (Eq.trans (ui_o (by first | decide | omega)) (Eq.trans (hO3 50 40 (by omega)).1 (Eq.trans (ui_o (by first | decide | omega)) (Eq.trans (hO2 50 40 (by omega)).1 (Eq.trans (ui_o (by first | decide | omega)) (Eq.trans (hO1 50 40 (by omega)).1 (Eq.trans (ui_o (by first | decide | omega)) (hO0 50 40 (by omega)).1))))))))))) ?_
            rw [(z_zero_o (by decide)).trans hdl]
            refine zq_bald hc hH (by rfl) 4 (by decide +kernel) (vp_in_nI (by omega) (by decide)) ?_
            rw [nI_clamp (by omega)]
            refine zV1 (Z := Z) (Eq.trans (ui_o (by first | decide | omega)) (Eq.trans (ui_o (by first | decide | omega)) (Eq.trans (ui_o (by first | decide | omega)) (Eq.trans (ui_o (by first | decide | omega)) (ui_s))))) ?_
            refine z_rcs0 hc hH 1 (pc' := 111) (lv' := [(3, .int 4), (1, .int 3), (2, .ref 79), (0, .ref 50)]) (st' := [.int 1, .int 1, .ref 50]) (by rfl) ?_
            refine zq_call hc (z_cx_ok hH (by rfl)) (gm_endsB d' (by omega) (z_ui (z_ui (z_ui (z_ui (z_ui W3 79 3 1) 61 0 ((μ.1 61 0) + 1000)) 61 1 ((μ.1 61 1) + (-3000))) 61 2 ((μ.1 61 2) + 1000)) 61 3 ((μ.1 61 3) + 1000)) true true 3 e (by rw [ui_o (by first | decide | omega), ui_o (by first | decide | omega), ui_o (by first | decide | omega), ui_o (by first | decide | omega), ui_o (by first | decide | omega), (hO3 50 40 (by omega)).1, ui_o (by first | decide | omega), (hO2 50 40 (by omega)).1, ui_o (by first | decide | omega), (hO1 50 40 (by omega)).1, ui_o (by first | decide | omega), (hO0 50 40 (by omega)).1]; exact (z_zero_o (by decide)).trans hdl) hdl4 he) (by decide +kernel) (fun r9 μ9 hq => ?_)
            obtain ⟨hr9, hm9⟩ := hq
            rw [hr9, hm9]
            clear hr9 hm9
            show Z 1 114 [(3, .int 4), (1, .int 3), (2, .ref 79), (0, .ref 50)] [] (eMB (z_ui (z_ui (z_ui (z_ui (z_ui W3 79 3 1) 61 0 ((μ.1 61 0) + 1000)) 61 1 ((μ.1 61 1) + (-3000))) 61 2 ((μ.1 61 2) + 1000)) 61 3 ((μ.1 61 3) + 1000)) true true 3 e)
            exact hr 1 114 _ _ _ none (by decide +kernel) (by rfl) (by refine ⟨rfl, ?_⟩; unfold nM1011; exact SM_eMB (SM_ui (SM_ui (SM_ui (SM_ui (SM_ui (SM_tr (SM_ui (SM_tr (SM_ui (SM_tr (SM_ui (SM_tr (SM_rf _) hO0)) hO1)) hO2)) hO3)))))))
    · have h2 : (decide ((lg_cmp w1 0) = 0)) = false := decide_eq_false (cn_eq.mp h2)
      exact absurd (Eq.trans (Eq.symm (hb1)) h2) (by decide)
noncomputable def nM1100 (μ : zM) : zM := z_ui (z_ui (z_ui (z_ui (z_ui (z_ui (z_ui (z_ui (z_zero μ) 79 0 1) 79 1 1) 79 2 0) 79 3 0) 61 0 ((μ.1 61 0) + 1500)) 61 1 ((μ.1 61 1) + 1500)) 61 2 ((μ.1 61 2) + (-1500))) 61 3 ((μ.1 61 3) + (-1500))
theorem gm_nobody1100 (d : Nat) (hd : 700 ≤ d) (μ : zM) (hH0 : a_H μ) (dl e : Nat) (hdl : μ.1 50 40 = nI dl) (hdl4 : dl < 4) (he : (dl + 1) % 4 = e) (w0 : Int64) (hw0 : ∀ M, SE μ M → a_H M → ∀ d, 699 ≤ d → z_C d mi_X7_waitsAt [.ref 50, .int 0] M (fun r W => r = some (.long w0) ∧ SMj M W ∧ a_H W)) (hb0 : decide (lg_cmp w0 0 = 0) = false) (w1 : Int64) (hw1 : ∀ M, SE μ M → a_H M → ∀ d, 699 ≤ d → z_C d mi_X7_waitsAt [.ref 50, .int 1] M (fun r W => r = some (.long w1) ∧ SMj M W ∧ a_H W)) (hb1 : decide (lg_cmp w1 0 = 0) = false) (w2 : Int64) (hw2 : ∀ M, SE μ M → a_H M → ∀ d, 699 ≤ d → z_C d mi_X7_waitsAt [.ref 50, .int 2] M (fun r W => r = some (.long w2) ∧ SMj M W ∧ a_H W)) (hb2 : decide (lg_cmp w2 0 = 0) = true) (w3 : Int64) (hw3 : ∀ M, SE μ M → a_H M → ∀ d, 699 ≤ d → z_C d mi_X7_waitsAt [.ref 50, .int 3] M (fun r W => r = some (.long w3) ∧ SMj M W ∧ a_H W)) (hb3 : decide (lg_cmp w3 0 = 0) = true) : z_C d mi_X7_nobodyWins [.ref 50] μ (fun r μ' => r = none ∧ SMj (eMB (nM1100 μ) (nbS true true false false dl) true dl e) μ') := by
  obtain ⟨d', rfl⟩ : ∃ d', d = d' + 1 := ⟨d - 1, by omega⟩
  intro Z hc hr
  refine ⟨rfl, ?_⟩
  have hH := zh_X7_nobodyWins
  refine z_rcs hc hH 9 (pc' := 17) (lv' := [(3, .int 0), (2, .ref 79), (1, .int 0), (0, .ref 50)]) (st' := [.int 0, .ref 50, .int 0, .ref 79]) (μ' := z_zero μ) (by rfl) ?_
  refine zq_call hc (z_cx_ok hH (by rfl)) (hw0 _ (SE_zr _) (a_H_zero hH0) d' (by omega)) (by decide +kernel) (fun r9 W0 hq => ?_)
  obtain ⟨rfl, hO0, hA0⟩ := hq
  show Z 1 20 [(3, .int 0), (2, .ref 79), (1, .int 0), (0, .ref 50)] [.long w0, .int 0, .ref 79] W0
  refine z_rcs hc hH 2 (pc' := 22) (lv' := [(3, .int 0), (2, .ref 79), (1, .int 0), (0, .ref 50)]) (st' := [.int (lg_cmp w0 0), .int 0, .ref 79]) (μ' := W0) (by rfl) ?_
  refine zq_if hc hH (by rfl) (tg := 29) (by rfl) (fun h1 => ?_) (fun h1 => ?_)
  · have h1 : (decide ((lg_cmp w0 0) = 0)) = true := decide_eq_true (cm_eq9.mp h1)
    exact absurd (Eq.trans (Eq.symm (hb0)) h1) (by decide)
  · have h1 : (decide ((lg_cmp w0 0) = 0)) = false := decide_eq_false (cn_eq.mp h1)
    refine z_rcs hc hH 2 (pc' := 30) (lv' := [(3, .int 0), (2, .ref 79), (1, .int 0), (0, .ref 50)]) (st' := [.int 1, .int 0, .ref 79]) (μ' := W0) (by rfl) ?_
    refine zq_bast hc hH (by rfl) 4 (by decide +kernel) (show vp_in (nI 0) 4 from vp_in_nI (by decide) (by decide)) (by decide) ?_
    rw [show (0 : Int32).toNatClampNeg = 0 from rfl]
    show Z 1 31 [(3, .int 0), (2, .ref 79), (1, .int 0), (0, .ref 50)] [] (z_ui W0 79 0 1)
    refine z_rcs hc hH 3 (pc' := 34) (lv' := [(3, .int 0), (2, .ref 79), (1, .int 0), (0, .ref 50)]) (st' := [.int 0, .ref 79, .int 0]) (μ' := z_ui W0 79 0 1) (by rfl) ?_
    refine zq_bald hc hH (by rfl) 4 (by decide +kernel) (show vp_in (nI 0) 4 from vp_in_nI (by decide) (by decide)) ?_
    rw [show (0 : Int32).toNatClampNeg = 0 from rfl]
    rw [ui_s]
    refine z_rcs hc hH 14 (pc' := 17) (lv' := [(3, .int 1), (1, .int 1), (2, .ref 79), (0, .ref 50)]) (st' := [.int 1, .ref 50, .int 1, .ref 79]) (μ' := z_ui W0 79 0 1) (by rfl) ?_
    refine zq_call hc (z_cx_ok hH (by rfl)) (hw1 _ (SE_ui (SE_sm (SE_zr _) hO0) (by omega)) (a_H_ui (r := 79) (k := 0) (hA0) ⟨by decide, by decide⟩) d' (by omega)) (by decide +kernel) (fun r9 W1 hq => ?_)
    obtain ⟨rfl, hO1, hA1⟩ := hq
    show Z 1 20 [(3, .int 1), (1, .int 1), (2, .ref 79), (0, .ref 50)] [.long w1, .int 1, .ref 79] W1
    refine z_rcs hc hH 2 (pc' := 22) (lv' := [(3, .int 1), (1, .int 1), (2, .ref 79), (0, .ref 50)]) (st' := [.int (lg_cmp w1 0), .int 1, .ref 79]) (μ' := W1) (by rfl) ?_
    refine zq_if hc hH (by rfl) (tg := 29) (by rfl) (fun h2 => ?_) (fun h2 => ?_)
    · have h2 : (decide ((lg_cmp w1 0) = 0)) = true := decide_eq_true (cm_eq9.mp h2)
      exact absurd (Eq.trans (Eq.symm (hb1)) h2) (by decide)
    · have h2 : (decide ((lg_cmp w1 0) = 0)) = false := decide_eq_false (cn_eq.mp h2)
      refine z_rcs hc hH 2 (pc' := 30) (lv' := [(3, .int 1), (1, .int 1), (2, .ref 79), (0, .ref 50)]) (st' := [.int 1, .int 1, .ref 79]) (μ' := W1) (by rfl) ?_
      refine zq_bast hc hH (by rfl) 4 (by decide +kernel) (show vp_in (nI 1) 4 from vp_in_nI (by decide) (by decide)) (by decide) ?_
      rw [show (1 : Int32).toNatClampNeg = 1 from rfl]
      show Z 1 31 [(3, .int 1), (1, .int 1), (2, .ref 79), (0, .ref 50)] [] (z_ui W1 79 1 1)
      refine z_rcs hc hH 3 (pc' := 34) (lv' := [(3, .int 1), (1, .int 1), (2, .ref 79), (0, .ref 50)]) (st' := [.int 1, .ref 79, .int 1]) (μ' := z_ui W1 79 1 1) (by rfl) ?_
      refine zq_bald hc hH (by rfl) 4 (by decide +kernel) (show vp_in (nI 1) 4 from vp_in_nI (by decide) (by decide)) ?_
      rw [show (1 : Int32).toNatClampNeg = 1 from rfl]
      rw [ui_s]
      refine z_rcs hc hH 14 (pc' := 17) (lv' := [(3, .int 2), (1, .int 2), (2, .ref 79), (0, .ref 50)]) (st' := [.int 2, .ref 50, .int 2, .ref 79]) (μ' := z_ui W1 79 1 1) (by rfl) ?_
      refine zq_call hc (z_cx_ok hH (by rfl)) (hw2 _ (SE_ui (SE_sm (SE_ui (SE_sm (SE_zr _) hO0) (by omega)) hO1) (by omega)) (a_H_ui (r := 79) (k := 1) (hA1) ⟨by decide, by decide⟩) d' (by omega)) (by decide +kernel) (fun r9 W2 hq => ?_)
      obtain ⟨rfl, hO2, hA2⟩ := hq
      show Z 1 20 [(3, .int 2), (1, .int 2), (2, .ref 79), (0, .ref 50)] [.long w2, .int 2, .ref 79] W2
      refine z_rcs hc hH 2 (pc' := 22) (lv' := [(3, .int 2), (1, .int 2), (2, .ref 79), (0, .ref 50)]) (st' := [.int (lg_cmp w2 0), .int 2, .ref 79]) (μ' := W2) (by rfl) ?_
      refine zq_if hc hH (by rfl) (tg := 29) (by rfl) (fun h3 => ?_) (fun h3 => ?_)
      · have h3 : (decide ((lg_cmp w2 0) = 0)) = true := decide_eq_true (cm_eq9.mp h3)
        refine z_rcs hc hH 1 (pc' := 30) (lv' := [(3, .int 2), (1, .int 2), (2, .ref 79), (0, .ref 50)]) (st' := [.int 0, .int 2, .ref 79]) (μ' := W2) (by rfl) ?_
        refine zq_bast hc hH (by rfl) 4 (by decide +kernel) (show vp_in (nI 2) 4 from vp_in_nI (by decide) (by decide)) (by decide) ?_
        rw [show (2 : Int32).toNatClampNeg = 2 from rfl]
        show Z 1 31 [(3, .int 2), (1, .int 2), (2, .ref 79), (0, .ref 50)] [] (z_ui W2 79 2 0)
        refine z_rcs hc hH 3 (pc' := 34) (lv' := [(3, .int 2), (1, .int 2), (2, .ref 79), (0, .ref 50)]) (st' := [.int 2, .ref 79, .int 2]) (μ' := z_ui W2 79 2 0) (by rfl) ?_
        refine zq_bald hc hH (by rfl) 4 (by decide +kernel) (show vp_in (nI 2) 4 from vp_in_nI (by decide) (by decide)) ?_
        rw [show (2 : Int32).toNatClampNeg = 2 from rfl]
        rw [ui_s]
        refine z_rcs hc hH 13 (pc' := 17) (lv' := [(3, .int 3), (1, .int 2), (2, .ref 79), (0, .ref 50)]) (st' := [.int 3, .ref 50, .int 3, .ref 79]) (μ' := z_ui W2 79 2 0) (by rfl) ?_
        refine zq_call hc (z_cx_ok hH (by rfl)) (hw3 _ (SE_ui (SE_sm (SE_ui (SE_sm (SE_ui (SE_sm (SE_zr _) hO0) (by omega)) hO1) (by omega)) hO2) (by omega)) (a_H_ui (r := 79) (k := 2) (hA2) ⟨by decide, by decide⟩) d' (by omega)) (by decide +kernel) (fun r9 W3 hq => ?_)
        obtain ⟨rfl, hO3, hA3⟩ := hq
        show Z 1 20 [(3, .int 3), (1, .int 2), (2, .ref 79), (0, .ref 50)] [.long w3, .int 3, .ref 79] W3
        refine z_rcs hc hH 2 (pc' := 22) (lv' := [(3, .int 3), (1, .int 2), (2, .ref 79), (0, .ref 50)]) (st' := [.int (lg_cmp w3 0), .int 3, .ref 79]) (μ' := W3) (by rfl) ?_
        refine zq_if hc hH (by rfl) (tg := 29) (by rfl) (fun h4 => ?_) (fun h4 => ?_)
        · have h4 : (decide ((lg_cmp w3 0) = 0)) = true := decide_eq_true (cm_eq9.mp h4)
          refine z_rcs hc hH 1 (pc' := 30) (lv' := [(3, .int 3), (1, .int 2), (2, .ref 79), (0, .ref 50)]) (st' := [.int 0, .int 3, .ref 79]) (μ' := W3) (by rfl) ?_
          refine zq_bast hc hH (by rfl) 4 (by decide +kernel) (show vp_in (nI 3) 4 from vp_in_nI (by decide) (by decide)) (by decide) ?_
          rw [show (3 : Int32).toNatClampNeg = 3 from rfl]
          show Z 1 31 [(3, .int 3), (1, .int 2), (2, .ref 79), (0, .ref 50)] [] (z_ui W3 79 3 0)
          refine z_rcs hc hH 3 (pc' := 34) (lv' := [(3, .int 3), (1, .int 2), (2, .ref 79), (0, .ref 50)]) (st' := [.int 3, .ref 79, .int 2]) (μ' := z_ui W3 79 3 0) (by rfl) ?_
          refine zq_bald hc hH (by rfl) 4 (by decide +kernel) (show vp_in (nI 3) 4 from vp_in_nI (by decide) (by decide)) ?_
          rw [show (3 : Int32).toNatClampNeg = 3 from rfl]
          rw [ui_s]
          refine z_rcs hc hH 20 (pc' := 68) (lv' := [(3, .int 0), (1, .int 2), (2, .ref 79), (0, .ref 50)]) (st' := [.ref 50]) (μ' := z_ui W3 79 3 0) (by rfl) ?_
          refine zq_gfr hc hH (by rfl) (ci := 6) (f := 29) (q := 61) (by rfl) (by decide +kernel) (by rfl) (by decide +kernel) ?_
          refine z_rcs hc hH 2 (pc' := 73) (lv' := [(3, .int 0), (1, .int 2), (2, .ref 79), (0, .ref 50)]) (st' := [.int 0, .ref 61, .int 0, .ref 61]) (μ' := z_ui W3 79 3 0) (by rfl) ?_
          refine zq_iald hc hH (by rfl) 4 (oka_i (by decide +kernel)) (show vp_in (nI 0) 4 from vp_in_nI (by decide) (by decide)) ?_
          rw [show (0 : Int32).toNatClampNeg = 0 from rfl]
          refine zV1 (Z := Z) (Eq.trans (ui_o (by first | decide | omega)) (Eq.trans (hO3 61 0 (by omega)).1 (Eq.trans (ui_o (by first | decide | omega)) (Eq.trans (hO2 61 0 (by omega)).1 (Eq.trans (ui_o (by first | decide | omega)) (Eq.trans (hO1 61 0 (by omega)).1 (Eq.trans (ui_o (by first | decide | omega)) (hO0 61 0 (by omega)).1))))))) ?_
          rw [z_zero_o (by decide)]
          refine z_rcs hc hH 2 (pc' := 76) (lv' := [(3, .int 0), (1, .int 2), (2, .ref 79), (0, .ref 50)]) (st' := [.int 0, .ref 79, .int (μ.1 61 0), .int 0, .ref 61]) (μ' := z_ui W3 79 3 0) (by rfl) ?_
          refine zq_bald hc hH (by rfl) 4 (by decide +kernel) (show vp_in (nI 0) 4 from vp_in_nI (by decide) (by decide)) ?_
          rw [show (0 : Int32).toNatClampNeg = 0 from rfl]
          refine zV1 (Z := Z) (Eq.trans (ui_k (by first | decide | omega)) (Eq.trans (hO3 79 0 (by omega)).1 (Eq.trans (ui_k (by first | decide | omega)) (Eq.trans (hO2 79 0 (by omega)).1 (Eq.trans (ui_k (by first | decide | omega)) (Eq.trans (hO1 79 0 (by omega)).1 (ui_s))))))) ?_
          refine z_rcs hc hH 6 (pc' := 96) (lv' := [(3, .int 0), (1, .int 2), (2, .ref 79), (0, .ref 50)]) (st' := [.int ((μ.1 61 0) + 1500), .int 0, .ref 61]) (μ' := z_ui W3 79 3 0) (by rfl) ?_
          refine zq_iast hc hH (by rfl) 4 (oka_i (by decide +kernel)).2 (show vp_in (nI 0) 4 from vp_in_nI (by decide) (by decide)) ?_
          rw [show (0 : Int32).toNatClampNeg = 0 from rfl]
          show Z 1 97 [(3, .int 0), (1, .int 2), (2, .ref 79), (0, .ref 50)] [] (z_ui (z_ui W3 79 3 0) 61 0 ((μ.1 61 0) + 1500))
          refine z_rcs0 hc hH 6 (pc' := 68) (lv' := [(3, .int 1), (1, .int 2), (2, .ref 79), (0, .ref 50)]) (st' := [.ref 50]) (by rfl) ?_
          refine zq_gfr hc hH (by rfl) (ci := 6) (f := 29) (q := 61) (by rfl) (by decide +kernel) (by rfl) (by decide +kernel) ?_
          refine z_rcs0 hc hH 2 (pc' := 73) (lv' := [(3, .int 1), (1, .int 2), (2, .ref 79), (0, .ref 50)]) (st' := [.int 1, .ref 61, .int 1, .ref 61]) (by rfl) ?_
          refine zq_iald hc hH (by rfl) 4 (oka_i (by decide +kernel)) (show vp_in (nI 1) 4 from vp_in_nI (by decide) (by decide)) ?_
          rw [show (1 : Int32).toNatClampNeg = 1 from rfl]
          refine zV1 (Z := Z) (Eq.trans (ui_k (by first | decide | omega)) (Eq.trans (ui_o (by first | decide | omega)) (Eq.trans (hO3 61 1 (by omega)).1 (Eq.trans (ui_o (by first | decide | omega)) (Eq.trans (hO2 61 1 (by omega)).1 (Eq.trans (ui_o (by first | decide | omega)) (Eq.trans (hO1 61 1 (by omega)).1 (Eq.trans (ui_o (by first | decide | omega)) (hO0 61 1 (by omega)).1)))))))) ?_
          rw [z_zero_o (by decide)]
          refine z_rcs0 hc hH 2 (pc' := 76) (lv' := [(3, .int 1), (1, .int 2), (2, .ref 79), (0, .ref 50)]) (st' := [.int 1, .ref 79, .int (μ.1 61 1), .int 1, .ref 61]) (by rfl) ?_
          refine zq_bald hc hH (by rfl) 4 (by decide +kernel) (show vp_in (nI 1) 4 from vp_in_nI (by decide) (by decide)) ?_
          rw [show (1 : Int32).toNatClampNeg = 1 from rfl]
          refine zV1 (Z := Z) (Eq.trans (ui_o (by first | decide | omega)) (Eq.trans (ui_k (by first | decide | omega)) (Eq.trans (hO3 79 1 (by omega)).1 (Eq.trans (ui_k (by first | decide | omega)) (Eq.trans (hO2 79 1 (by omega)).1 (ui_s)))))) ?_
          refine z_rcs0 hc hH 6 (pc' := 96) (lv' := [(3, .int 1), (1, .int 2), (2, .ref 79), (0, .ref 50)]) (st' := [.int ((μ.1 61 1) + 1500), .int 1, .ref 61]) (by rfl) ?_
          refine zq_iast hc hH (by rfl) 4 (oka_i (by decide +kernel)).2 (show vp_in (nI 1) 4 from vp_in_nI (by decide) (by decide)) ?_
          rw [show (1 : Int32).toNatClampNeg = 1 from rfl]
          show Z 1 97 [(3, .int 1), (1, .int 2), (2, .ref 79), (0, .ref 50)] [] (z_ui (z_ui (z_ui W3 79 3 0) 61 0 ((μ.1 61 0) + 1500)) 61 1 ((μ.1 61 1) + 1500))
          refine z_rcs0 hc hH 6 (pc' := 68) (lv' := [(3, .int 2), (1, .int 2), (2, .ref 79), (0, .ref 50)]) (st' := [.ref 50]) (by rfl) ?_
          refine zq_gfr hc hH (by rfl) (ci := 6) (f := 29) (q := 61) (by rfl) (by decide +kernel) (by rfl) (by decide +kernel) ?_
          refine z_rcs0 hc hH 2 (pc' := 73) (lv' := [(3, .int 2), (1, .int 2), (2, .ref 79), (0, .ref 50)]) (st' := [.int 2, .ref 61, .int 2, .ref 61]) (by rfl) ?_
          refine zq_iald hc hH (by rfl) 4 (oka_i (by decide +kernel)) (show vp_in (nI 2) 4 from vp_in_nI (by decide) (by decide)) ?_
          rw [show (2 : Int32).toNatClampNeg = 2 from rfl]
          refine zV1 (Z := Z) (Eq.trans (ui_k (by first | decide | omega)) (Eq.trans (ui_k (by first | decide | omega)) (Eq.trans (ui_o (by first | decide | omega)) (Eq.trans (hO3 61 2 (by omega)).1 (Eq.trans (ui_o (by first | decide | omega)) (Eq.trans (hO2 61 2 (by omega)).1 (Eq.trans (ui_o (by first | decide | omega)) (Eq.trans (hO1 61 2 (by omega)).1 (Eq.trans (ui_o (by first | decide | omega)) (hO0 61 2 (by omega)).1))))))))) ?_
          rw [z_zero_o (by decide)]
          refine z_rcs0 hc hH 2 (pc' := 76) (lv' := [(3, .int 2), (1, .int 2), (2, .ref 79), (0, .ref 50)]) (st' := [.int 2, .ref 79, .int (μ.1 61 2), .int 2, .ref 61]) (by rfl) ?_
          refine zq_bald hc hH (by rfl) 4 (by decide +kernel) (show vp_in (nI 2) 4 from vp_in_nI (by decide) (by decide)) ?_
          rw [show (2 : Int32).toNatClampNeg = 2 from rfl]
          refine zV1 (Z := Z) (Eq.trans (ui_o (by first | decide | omega)) (Eq.trans (ui_o (by first | decide | omega)) (Eq.trans (ui_k (by first | decide | omega)) (Eq.trans (hO3 79 2 (by omega)).1 (ui_s))))) ?_
          refine z_rcs0 hc hH 7 (pc' := 96) (lv' := [(3, .int 2), (1, .int 2), (2, .ref 79), (0, .ref 50)]) (st' := [.int ((μ.1 61 2) + (-1500)), .int 2, .ref 61]) (by rfl) ?_
          refine zq_iast hc hH (by rfl) 4 (oka_i (by decide +kernel)).2 (show vp_in (nI 2) 4 from vp_in_nI (by decide) (by decide)) ?_
          rw [show (2 : Int32).toNatClampNeg = 2 from rfl]
          show Z 1 97 [(3, .int 2), (1, .int 2), (2, .ref 79), (0, .ref 50)] [] (z_ui (z_ui (z_ui (z_ui W3 79 3 0) 61 0 ((μ.1 61 0) + 1500)) 61 1 ((μ.1 61 1) + 1500)) 61 2 ((μ.1 61 2) + (-1500)))
          refine z_rcs0 hc hH 6 (pc' := 68) (lv' := [(3, .int 3), (1, .int 2), (2, .ref 79), (0, .ref 50)]) (st' := [.ref 50]) (by rfl) ?_
          refine zq_gfr hc hH (by rfl) (ci := 6) (f := 29) (q := 61) (by rfl) (by decide +kernel) (by rfl) (by decide +kernel) ?_
          refine z_rcs0 hc hH 2 (pc' := 73) (lv' := [(3, .int 3), (1, .int 2), (2, .ref 79), (0, .ref 50)]) (st' := [.int 3, .ref 61, .int 3, .ref 61]) (by rfl) ?_
          refine zq_iald hc hH (by rfl) 4 (oka_i (by decide +kernel)) (show vp_in (nI 3) 4 from vp_in_nI (by decide) (by decide)) ?_
          rw [show (3 : Int32).toNatClampNeg = 3 from rfl]
          refine zV1 (Z := Z) (Eq.trans (ui_k (by first | decide | omega)) (Eq.trans (ui_k (by first | decide | omega)) (Eq.trans (ui_k (by first | decide | omega)) (Eq.trans (ui_o (by first | decide | omega)) (Eq.trans (hO3 61 3 (by omega)).1 (Eq.trans (ui_o (by first | decide | omega)) (Eq.trans (hO2 61 3 (by omega)).1 (Eq.trans (ui_o (by first | decide | omega)) (Eq.trans (hO1 61 3 (by omega)).1 (Eq.trans (ui_o (by first | decide | omega)) (hO0 61 3 (by omega)).1)))))))))) ?_
          rw [z_zero_o (by decide)]
          refine z_rcs0 hc hH 2 (pc' := 76) (lv' := [(3, .int 3), (1, .int 2), (2, .ref 79), (0, .ref 50)]) (st' := [.int 3, .ref 79, .int (μ.1 61 3), .int 3, .ref 61]) (by rfl) ?_
          refine zq_bald hc hH (by rfl) 4 (by decide +kernel) (show vp_in (nI 3) 4 from vp_in_nI (by decide) (by decide)) ?_
          rw [show (3 : Int32).toNatClampNeg = 3 from rfl]
          refine zV1 (Z := Z) (Eq.trans (ui_o (by first | decide | omega)) (Eq.trans (ui_o (by first | decide | omega)) (Eq.trans (ui_o (by first | decide | omega)) (ui_s)))) ?_
          refine z_rcs0 hc hH 7 (pc' := 96) (lv' := [(3, .int 3), (1, .int 2), (2, .ref 79), (0, .ref 50)]) (st' := [.int ((μ.1 61 3) + (-1500)), .int 3, .ref 61]) (by rfl) ?_
          refine zq_iast hc hH (by rfl) 4 (oka_i (by decide +kernel)).2 (show vp_in (nI 3) 4 from vp_in_nI (by decide) (by decide)) ?_
          rw [show (3 : Int32).toNatClampNeg = 3 from rfl]
          show Z 1 97 [(3, .int 3), (1, .int 2), (2, .ref 79), (0, .ref 50)] [] (z_ui (z_ui (z_ui (z_ui (z_ui W3 79 3 0) 61 0 ((μ.1 61 0) + 1500)) 61 1 ((μ.1 61 1) + 1500)) 61 2 ((μ.1 61 2) + (-1500))) 61 3 ((μ.1 61 3) + (-1500)))
          refine z_rcs0 hc hH 5 (pc' := 103) (lv' := [(3, .int 4), (1, .int 2), (2, .ref 79), (0, .ref 50)]) (st' := []) (by rfl) ?_
          obtain rfl | rfl | rfl | rfl : dl = 0 ∨ dl = 1 ∨ dl = 2 ∨ dl = 3 := by omega
          · skip
            refine z_rcs0 hc hH 3 (pc' := 106) (lv' := [(3, .int 4), (1, .int 2), (2, .ref 79), (0, .ref 50)]) (st' := [.ref 50, .ref 79, .ref 50]) (by rfl) ?_
            refine zq_gfi hc hH (by rfl) (ci := 6) (f := 40) (by rfl) (by decide +kernel) (by rfl) ?_
            refine zV1 (Z := Z) (Eq.trans (ui_o (by first | decide | omega)) (Eq.trans (ui_o (by first | decide | omega)) (Eq.trans (ui_o (by first | decide | omega)) (Eq.trans (ui_o (by first | decide | omega)) (Eq.trans (ui_o (by first | decide | omega)) (Eq.trans (hO3 50 40 (by omega)).1 (Eq.trans (ui_o (by first | decide | omega)) (Eq.trans (hO2 50 40 (by omega)).1 (Eq.trans (ui_o (by first | decide | omega)) (Eq.trans (hO1 50 40 (by omega)).1 (Eq.trans (ui_o (by first | decide | omega)) (hO0 50 40 (by omega)).1))))))))))) ?_
            rw [(z_zero_o (by decide)).trans hdl]
            refine zq_bald hc hH (by rfl) 4 (by decide +kernel) (vp_in_nI (by omega) (by decide)) ?_
            rw [nI_clamp (by omega)]
            refine zV1 (Z := Z) (Eq.trans (ui_o (by first | decide | omega)) (Eq.trans (ui_o (by first | decide | omega)) (Eq.trans (ui_o (by first | decide | omega)) (Eq.trans (ui_o (by first | decide | omega)) (Eq.trans (ui_k (by first | decide | omega)) (Eq.trans (hO3 79 0 (by omega)).1 (Eq.trans (ui_k (by first | decide | omega)) (Eq.trans (hO2 79 0 (by omega)).1 (Eq.trans (ui_k (by first | decide | omega)) (Eq.trans (hO1 79 0 (by omega)).1 (ui_s))))))))))) ?_
            refine z_rcs0 hc hH 1 (pc' := 111) (lv' := [(3, .int 4), (1, .int 2), (2, .ref 79), (0, .ref 50)]) (st' := [.int 1, .int 1, .ref 50]) (by rfl) ?_
            refine zq_call hc (z_cx_ok hH (by rfl)) (gm_endsB d' (by omega) (z_ui (z_ui (z_ui (z_ui (z_ui W3 79 3 0) 61 0 ((μ.1 61 0) + 1500)) 61 1 ((μ.1 61 1) + 1500)) 61 2 ((μ.1 61 2) + (-1500))) 61 3 ((μ.1 61 3) + (-1500))) true true 0 e (by rw [ui_o (by first | decide | omega), ui_o (by first | decide | omega), ui_o (by first | decide | omega), ui_o (by first | decide | omega), ui_o (by first | decide | omega), (hO3 50 40 (by omega)).1, ui_o (by first | decide | omega), (hO2 50 40 (by omega)).1, ui_o (by first | decide | omega), (hO1 50 40 (by omega)).1, ui_o (by first | decide | omega), (hO0 50 40 (by omega)).1]; exact (z_zero_o (by decide)).trans hdl) hdl4 he) (by decide +kernel) (fun r9 μ9 hq => ?_)
            obtain ⟨hr9, hm9⟩ := hq
            rw [hr9, hm9]
            clear hr9 hm9
            show Z 1 114 [(3, .int 4), (1, .int 2), (2, .ref 79), (0, .ref 50)] [] (eMB (z_ui (z_ui (z_ui (z_ui (z_ui W3 79 3 0) 61 0 ((μ.1 61 0) + 1500)) 61 1 ((μ.1 61 1) + 1500)) 61 2 ((μ.1 61 2) + (-1500))) 61 3 ((μ.1 61 3) + (-1500))) true true 0 e)
            exact hr 1 114 _ _ _ none (by decide +kernel) (by rfl) (by refine ⟨rfl, ?_⟩; unfold nM1100; exact SM_eMB (SM_ui (SM_ui (SM_ui (SM_ui (SM_ui (SM_tr (SM_ui (SM_tr (SM_ui (SM_tr (SM_ui (SM_tr (SM_rf _) hO0)) hO1)) hO2)) hO3)))))))
          · skip
            refine z_rcs hc hH 3 (pc' := 106) (lv' := [(3, .int 4), (1, .int 2), (2, .ref 79), (0, .ref 50)]) (st' := [.ref 50, .ref 79, .ref 50]) (μ' := z_ui (z_ui (z_ui (z_ui (z_ui W3 79 3 0) 61 0 ((μ.1 61 0) + 1500)) 61 1 ((μ.1 61 1) + 1500)) 61 2 ((μ.1 61 2) + (-1500))) 61 3 ((μ.1 61 3) + (-1500))) (by rfl) ?_
            refine zq_gfi hc hH (by rfl) (ci := 6) (f := 40) (by rfl) (by decide +kernel) (by rfl) ?_
            refine zV1 (Z := Z) (Eq.trans (ui_o (by first | decide | omega)) (Eq.trans (ui_o (by first | decide | omega)) (Eq.trans (ui_o (by first | decide | omega)) (Eq.trans (ui_o (by first | decide | omega)) (Eq.trans (ui_o (by first | decide | omega)) (Eq.trans (hO3 50 40 (by omega)).1 (Eq.trans (ui_o (by first | decide | omega)) (Eq.trans (hO2 50 40 (by omega)).1 (Eq.trans (ui_o (by first | decide | omega)) (Eq.trans (hO1 50 40 (by omega)).1 (Eq.trans (ui_o (by first | decide | omega)) (hO0 50 40 (by omega)).1))))))))))) ?_
            rw [(z_zero_o (by decide)).trans hdl]
            refine zq_bald hc hH (by rfl) 4 (by decide +kernel) (vp_in_nI (by omega) (by decide)) ?_
            rw [nI_clamp (by omega)]
            refine zV1 (Z := Z) (Eq.trans (ui_o (by first | decide | omega)) (Eq.trans (ui_o (by first | decide | omega)) (Eq.trans (ui_o (by first | decide | omega)) (Eq.trans (ui_o (by first | decide | omega)) (Eq.trans (ui_k (by first | decide | omega)) (Eq.trans (hO3 79 1 (by omega)).1 (Eq.trans (ui_k (by first | decide | omega)) (Eq.trans (hO2 79 1 (by omega)).1 (ui_s))))))))) ?_
            refine z_rcs0 hc hH 1 (pc' := 111) (lv' := [(3, .int 4), (1, .int 2), (2, .ref 79), (0, .ref 50)]) (st' := [.int 1, .int 1, .ref 50]) (by rfl) ?_
            refine zq_call hc (z_cx_ok hH (by rfl)) (gm_endsB d' (by omega) (z_ui (z_ui (z_ui (z_ui (z_ui W3 79 3 0) 61 0 ((μ.1 61 0) + 1500)) 61 1 ((μ.1 61 1) + 1500)) 61 2 ((μ.1 61 2) + (-1500))) 61 3 ((μ.1 61 3) + (-1500))) true true 1 e (by rw [ui_o (by first | decide | omega), ui_o (by first | decide | omega), ui_o (by first | decide | omega), ui_o (by first | decide | omega), ui_o (by first | decide | omega), (hO3 50 40 (by omega)).1, ui_o (by first | decide | omega), (hO2 50 40 (by omega)).1, ui_o (by first | decide | omega), (hO1 50 40 (by omega)).1, ui_o (by first | decide | omega), (hO0 50 40 (by omega)).1]; exact (z_zero_o (by decide)).trans hdl) hdl4 he) (by decide +kernel) (fun r9 μ9 hq => ?_)
            obtain ⟨hr9, hm9⟩ := hq
            rw [hr9, hm9]
            clear hr9 hm9
            show Z 1 114 [(3, .int 4), (1, .int 2), (2, .ref 79), (0, .ref 50)] [] (eMB (z_ui (z_ui (z_ui (z_ui (z_ui W3 79 3 0) 61 0 ((μ.1 61 0) + 1500)) 61 1 ((μ.1 61 1) + 1500)) 61 2 ((μ.1 61 2) + (-1500))) 61 3 ((μ.1 61 3) + (-1500))) true true 1 e)
            exact hr 1 114 _ _ _ none (by decide +kernel) (by rfl) (by refine ⟨rfl, ?_⟩; unfold nM1100; exact SM_eMB (SM_ui (SM_ui (SM_ui (SM_ui (SM_ui (SM_tr (SM_ui (SM_tr (SM_ui (SM_tr (SM_ui (SM_tr (SM_rf _) hO0)) hO1)) hO2)) hO3)))))))
          · skip
            refine z_rcs hc hH 3 (pc' := 106) (lv' := [(3, .int 4), (1, .int 2), (2, .ref 79), (0, .ref 50)]) (st' := [.ref 50, .ref 79, .ref 50]) (μ' := z_ui (z_ui (z_ui (z_ui (z_ui W3 79 3 0) 61 0 ((μ.1 61 0) + 1500)) 61 1 ((μ.1 61 1) + 1500)) 61 2 ((μ.1 61 2) + (-1500))) 61 3 ((μ.1 61 3) + (-1500))) (by rfl) ?_
            refine zq_gfi hc hH (by rfl) (ci := 6) (f := 40) (by rfl) (by decide +kernel) (by rfl) ?_
            refine zV1 (Z := Z) (Eq.trans (ui_o (by first | decide | omega)) (Eq.trans (ui_o (by first | decide | omega)) (Eq.trans (ui_o (by first | decide | omega)) (Eq.trans (ui_o (by first | decide | omega)) (Eq.trans (ui_o (by first | decide | omega)) (Eq.trans (hO3 50 40 (by omega)).1 (Eq.trans (ui_o (by first | decide | omega)) (Eq.trans (hO2 50 40 (by omega)).1 (Eq.trans (ui_o (by first | decide | omega)) (Eq.trans (hO1 50 40 (by omega)).1 (Eq.trans (ui_o (by first | decide | omega)) (hO0 50 40 (by omega)).1))))))))))) ?_
            rw [(z_zero_o (by decide)).trans hdl]
            refine zq_bald hc hH (by rfl) 4 (by decide +kernel) (vp_in_nI (by omega) (by decide)) ?_
            rw [nI_clamp (by omega)]
            refine zV1 (Z := Z) (Eq.trans (ui_o (by first | decide | omega)) (Eq.trans (ui_o (by first | decide | omega)) (Eq.trans (ui_o (by first | decide | omega)) (Eq.trans (ui_o (by first | decide | omega)) (Eq.trans (ui_k (by first | decide | omega)) (Eq.trans (hO3 79 2 (by omega)).1 (ui_s))))))) ?_
            refine z_rcs0 hc hH 1 (pc' := 111) (lv' := [(3, .int 4), (1, .int 2), (2, .ref 79), (0, .ref 50)]) (st' := [.int 1, .int 0, .ref 50]) (by rfl) ?_
            refine zq_call hc (z_cx_ok hH (by rfl)) (gm_endsB d' (by omega) (z_ui (z_ui (z_ui (z_ui (z_ui W3 79 3 0) 61 0 ((μ.1 61 0) + 1500)) 61 1 ((μ.1 61 1) + 1500)) 61 2 ((μ.1 61 2) + (-1500))) 61 3 ((μ.1 61 3) + (-1500))) false true 2 e (by rw [ui_o (by first | decide | omega), ui_o (by first | decide | omega), ui_o (by first | decide | omega), ui_o (by first | decide | omega), ui_o (by first | decide | omega), (hO3 50 40 (by omega)).1, ui_o (by first | decide | omega), (hO2 50 40 (by omega)).1, ui_o (by first | decide | omega), (hO1 50 40 (by omega)).1, ui_o (by first | decide | omega), (hO0 50 40 (by omega)).1]; exact (z_zero_o (by decide)).trans hdl) hdl4 he) (by decide +kernel) (fun r9 μ9 hq => ?_)
            obtain ⟨hr9, hm9⟩ := hq
            rw [hr9, hm9]
            clear hr9 hm9
            show Z 1 114 [(3, .int 4), (1, .int 2), (2, .ref 79), (0, .ref 50)] [] (eMB (z_ui (z_ui (z_ui (z_ui (z_ui W3 79 3 0) 61 0 ((μ.1 61 0) + 1500)) 61 1 ((μ.1 61 1) + 1500)) 61 2 ((μ.1 61 2) + (-1500))) 61 3 ((μ.1 61 3) + (-1500))) false true 2 e)
            exact hr 1 114 _ _ _ none (by decide +kernel) (by rfl) (by refine ⟨rfl, ?_⟩; unfold nM1100; exact SM_eMB (SM_ui (SM_ui (SM_ui (SM_ui (SM_ui (SM_tr (SM_ui (SM_tr (SM_ui (SM_tr (SM_ui (SM_tr (SM_rf _) hO0)) hO1)) hO2)) hO3)))))))
          · skip
            refine z_rcs hc hH 3 (pc' := 106) (lv' := [(3, .int 4), (1, .int 2), (2, .ref 79), (0, .ref 50)]) (st' := [.ref 50, .ref 79, .ref 50]) (μ' := z_ui (z_ui (z_ui (z_ui (z_ui W3 79 3 0) 61 0 ((μ.1 61 0) + 1500)) 61 1 ((μ.1 61 1) + 1500)) 61 2 ((μ.1 61 2) + (-1500))) 61 3 ((μ.1 61 3) + (-1500))) (by rfl) ?_
            refine zq_gfi hc hH (by rfl) (ci := 6) (f := 40) (by rfl) (by decide +kernel) (by rfl) ?_
            refine zV1 (Z := Z) (Eq.trans (ui_o (by first | decide | omega)) (Eq.trans (ui_o (by first | decide | omega)) (Eq.trans (ui_o (by first | decide | omega)) (Eq.trans (ui_o (by first | decide | omega)) (Eq.trans (ui_o (by first | decide | omega)) (Eq.trans (hO3 50 40 (by omega)).1 (Eq.trans (ui_o (by first | decide | omega)) (Eq.trans (hO2 50 40 (by omega)).1 (Eq.trans (ui_o (by first | decide | omega)) (Eq.trans (hO1 50 40 (by omega)).1 (Eq.trans (ui_o (by first | decide | omega)) (hO0 50 40 (by omega)).1))))))))))) ?_
            rw [(z_zero_o (by decide)).trans hdl]
            refine zq_bald hc hH (by rfl) 4 (by decide +kernel) (vp_in_nI (by omega) (by decide)) ?_
            rw [nI_clamp (by omega)]
            refine zV1 (Z := Z) (Eq.trans (ui_o (by first | decide | omega)) (Eq.trans (ui_o (by first | decide | omega)) (Eq.trans (ui_o (by first | decide | omega)) (Eq.trans (ui_o (by first | decide | omega)) (ui_s))))) ?_
            refine z_rcs0 hc hH 1 (pc' := 111) (lv' := [(3, .int 4), (1, .int 2), (2, .ref 79), (0, .ref 50)]) (st' := [.int 1, .int 0, .ref 50]) (by rfl) ?_
            refine zq_call hc (z_cx_ok hH (by rfl)) (gm_endsB d' (by omega) (z_ui (z_ui (z_ui (z_ui (z_ui W3 79 3 0) 61 0 ((μ.1 61 0) + 1500)) 61 1 ((μ.1 61 1) + 1500)) 61 2 ((μ.1 61 2) + (-1500))) 61 3 ((μ.1 61 3) + (-1500))) false true 3 e (by rw [ui_o (by first | decide | omega), ui_o (by first | decide | omega), ui_o (by first | decide | omega), ui_o (by first | decide | omega), ui_o (by first | decide | omega), (hO3 50 40 (by omega)).1, ui_o (by first | decide | omega), (hO2 50 40 (by omega)).1, ui_o (by first | decide | omega), (hO1 50 40 (by omega)).1, ui_o (by first | decide | omega), (hO0 50 40 (by omega)).1]; exact (z_zero_o (by decide)).trans hdl) hdl4 he) (by decide +kernel) (fun r9 μ9 hq => ?_)
            obtain ⟨hr9, hm9⟩ := hq
            rw [hr9, hm9]
            clear hr9 hm9
            show Z 1 114 [(3, .int 4), (1, .int 2), (2, .ref 79), (0, .ref 50)] [] (eMB (z_ui (z_ui (z_ui (z_ui (z_ui W3 79 3 0) 61 0 ((μ.1 61 0) + 1500)) 61 1 ((μ.1 61 1) + 1500)) 61 2 ((μ.1 61 2) + (-1500))) 61 3 ((μ.1 61 3) + (-1500))) false true 3 e)
            exact hr 1 114 _ _ _ none (by decide +kernel) (by rfl) (by refine ⟨rfl, ?_⟩; unfold nM1100; exact SM_eMB (SM_ui (SM_ui (SM_ui (SM_ui (SM_ui (SM_tr (SM_ui (SM_tr (SM_ui (SM_tr (SM_ui (SM_tr (SM_rf _) hO0)) hO1)) hO2)) hO3)))))))
        · have h4 : (decide ((lg_cmp w3 0) = 0)) = false := decide_eq_false (cn_eq.mp h4)
          exact absurd (Eq.trans (Eq.symm (hb3)) h4) (by decide)
      · have h3 : (decide ((lg_cmp w2 0) = 0)) = false := decide_eq_false (cn_eq.mp h3)
        exact absurd (Eq.trans (Eq.symm (hb2)) h3) (by decide)
noncomputable def nM1101 (μ : zM) : zM := z_ui (z_ui (z_ui (z_ui (z_ui (z_ui (z_ui (z_ui (z_zero μ) 79 0 1) 79 1 1) 79 2 0) 79 3 1) 61 0 ((μ.1 61 0) + 1000)) 61 1 ((μ.1 61 1) + 1000)) 61 2 ((μ.1 61 2) + (-3000))) 61 3 ((μ.1 61 3) + 1000)
theorem gm_nobody1101 (d : Nat) (hd : 700 ≤ d) (μ : zM) (hH0 : a_H μ) (dl e : Nat) (hdl : μ.1 50 40 = nI dl) (hdl4 : dl < 4) (he : (dl + 1) % 4 = e) (w0 : Int64) (hw0 : ∀ M, SE μ M → a_H M → ∀ d, 699 ≤ d → z_C d mi_X7_waitsAt [.ref 50, .int 0] M (fun r W => r = some (.long w0) ∧ SMj M W ∧ a_H W)) (hb0 : decide (lg_cmp w0 0 = 0) = false) (w1 : Int64) (hw1 : ∀ M, SE μ M → a_H M → ∀ d, 699 ≤ d → z_C d mi_X7_waitsAt [.ref 50, .int 1] M (fun r W => r = some (.long w1) ∧ SMj M W ∧ a_H W)) (hb1 : decide (lg_cmp w1 0 = 0) = false) (w2 : Int64) (hw2 : ∀ M, SE μ M → a_H M → ∀ d, 699 ≤ d → z_C d mi_X7_waitsAt [.ref 50, .int 2] M (fun r W => r = some (.long w2) ∧ SMj M W ∧ a_H W)) (hb2 : decide (lg_cmp w2 0 = 0) = true) (w3 : Int64) (hw3 : ∀ M, SE μ M → a_H M → ∀ d, 699 ≤ d → z_C d mi_X7_waitsAt [.ref 50, .int 3] M (fun r W => r = some (.long w3) ∧ SMj M W ∧ a_H W)) (hb3 : decide (lg_cmp w3 0 = 0) = false) : z_C d mi_X7_nobodyWins [.ref 50] μ (fun r μ' => r = none ∧ SMj (eMB (nM1101 μ) (nbS true true false true dl) true dl e) μ') := by
  obtain ⟨d', rfl⟩ : ∃ d', d = d' + 1 := ⟨d - 1, by omega⟩
  intro Z hc hr
  refine ⟨rfl, ?_⟩
  have hH := zh_X7_nobodyWins
  refine z_rcs hc hH 9 (pc' := 17) (lv' := [(3, .int 0), (2, .ref 79), (1, .int 0), (0, .ref 50)]) (st' := [.int 0, .ref 50, .int 0, .ref 79]) (μ' := z_zero μ) (by rfl) ?_
  refine zq_call hc (z_cx_ok hH (by rfl)) (hw0 _ (SE_zr _) (a_H_zero hH0) d' (by omega)) (by decide +kernel) (fun r9 W0 hq => ?_)
  obtain ⟨rfl, hO0, hA0⟩ := hq
  show Z 1 20 [(3, .int 0), (2, .ref 79), (1, .int 0), (0, .ref 50)] [.long w0, .int 0, .ref 79] W0
  refine z_rcs hc hH 2 (pc' := 22) (lv' := [(3, .int 0), (2, .ref 79), (1, .int 0), (0, .ref 50)]) (st' := [.int (lg_cmp w0 0), .int 0, .ref 79]) (μ' := W0) (by rfl) ?_
  refine zq_if hc hH (by rfl) (tg := 29) (by rfl) (fun h1 => ?_) (fun h1 => ?_)
  · have h1 : (decide ((lg_cmp w0 0) = 0)) = true := decide_eq_true (cm_eq9.mp h1)
    exact absurd (Eq.trans (Eq.symm (hb0)) h1) (by decide)
  · have h1 : (decide ((lg_cmp w0 0) = 0)) = false := decide_eq_false (cn_eq.mp h1)
    refine z_rcs hc hH 2 (pc' := 30) (lv' := [(3, .int 0), (2, .ref 79), (1, .int 0), (0, .ref 50)]) (st' := [.int 1, .int 0, .ref 79]) (μ' := W0) (by rfl) ?_
    refine zq_bast hc hH (by rfl) 4 (by decide +kernel) (show vp_in (nI 0) 4 from vp_in_nI (by decide) (by decide)) (by decide) ?_
    rw [show (0 : Int32).toNatClampNeg = 0 from rfl]
    show Z 1 31 [(3, .int 0), (2, .ref 79), (1, .int 0), (0, .ref 50)] [] (z_ui W0 79 0 1)
    refine z_rcs hc hH 3 (pc' := 34) (lv' := [(3, .int 0), (2, .ref 79), (1, .int 0), (0, .ref 50)]) (st' := [.int 0, .ref 79, .int 0]) (μ' := z_ui W0 79 0 1) (by rfl) ?_
    refine zq_bald hc hH (by rfl) 4 (by decide +kernel) (show vp_in (nI 0) 4 from vp_in_nI (by decide) (by decide)) ?_
    rw [show (0 : Int32).toNatClampNeg = 0 from rfl]
    rw [ui_s]
    refine z_rcs hc hH 14 (pc' := 17) (lv' := [(3, .int 1), (1, .int 1), (2, .ref 79), (0, .ref 50)]) (st' := [.int 1, .ref 50, .int 1, .ref 79]) (μ' := z_ui W0 79 0 1) (by rfl) ?_
    refine zq_call hc (z_cx_ok hH (by rfl)) (hw1 _ (SE_ui (SE_sm (SE_zr _) hO0) (by omega)) (a_H_ui (r := 79) (k := 0) (hA0) ⟨by decide, by decide⟩) d' (by omega)) (by decide +kernel) (fun r9 W1 hq => ?_)
    obtain ⟨rfl, hO1, hA1⟩ := hq
    show Z 1 20 [(3, .int 1), (1, .int 1), (2, .ref 79), (0, .ref 50)] [.long w1, .int 1, .ref 79] W1
    refine z_rcs hc hH 2 (pc' := 22) (lv' := [(3, .int 1), (1, .int 1), (2, .ref 79), (0, .ref 50)]) (st' := [.int (lg_cmp w1 0), .int 1, .ref 79]) (μ' := W1) (by rfl) ?_
    refine zq_if hc hH (by rfl) (tg := 29) (by rfl) (fun h2 => ?_) (fun h2 => ?_)
    · have h2 : (decide ((lg_cmp w1 0) = 0)) = true := decide_eq_true (cm_eq9.mp h2)
      exact absurd (Eq.trans (Eq.symm (hb1)) h2) (by decide)
    · have h2 : (decide ((lg_cmp w1 0) = 0)) = false := decide_eq_false (cn_eq.mp h2)
      refine z_rcs hc hH 2 (pc' := 30) (lv' := [(3, .int 1), (1, .int 1), (2, .ref 79), (0, .ref 50)]) (st' := [.int 1, .int 1, .ref 79]) (μ' := W1) (by rfl) ?_
      refine zq_bast hc hH (by rfl) 4 (by decide +kernel) (show vp_in (nI 1) 4 from vp_in_nI (by decide) (by decide)) (by decide) ?_
      rw [show (1 : Int32).toNatClampNeg = 1 from rfl]
      show Z 1 31 [(3, .int 1), (1, .int 1), (2, .ref 79), (0, .ref 50)] [] (z_ui W1 79 1 1)
      refine z_rcs hc hH 3 (pc' := 34) (lv' := [(3, .int 1), (1, .int 1), (2, .ref 79), (0, .ref 50)]) (st' := [.int 1, .ref 79, .int 1]) (μ' := z_ui W1 79 1 1) (by rfl) ?_
      refine zq_bald hc hH (by rfl) 4 (by decide +kernel) (show vp_in (nI 1) 4 from vp_in_nI (by decide) (by decide)) ?_
      rw [show (1 : Int32).toNatClampNeg = 1 from rfl]
      rw [ui_s]
      refine z_rcs hc hH 14 (pc' := 17) (lv' := [(3, .int 2), (1, .int 2), (2, .ref 79), (0, .ref 50)]) (st' := [.int 2, .ref 50, .int 2, .ref 79]) (μ' := z_ui W1 79 1 1) (by rfl) ?_
      refine zq_call hc (z_cx_ok hH (by rfl)) (hw2 _ (SE_ui (SE_sm (SE_ui (SE_sm (SE_zr _) hO0) (by omega)) hO1) (by omega)) (a_H_ui (r := 79) (k := 1) (hA1) ⟨by decide, by decide⟩) d' (by omega)) (by decide +kernel) (fun r9 W2 hq => ?_)
      obtain ⟨rfl, hO2, hA2⟩ := hq
      show Z 1 20 [(3, .int 2), (1, .int 2), (2, .ref 79), (0, .ref 50)] [.long w2, .int 2, .ref 79] W2
      refine z_rcs hc hH 2 (pc' := 22) (lv' := [(3, .int 2), (1, .int 2), (2, .ref 79), (0, .ref 50)]) (st' := [.int (lg_cmp w2 0), .int 2, .ref 79]) (μ' := W2) (by rfl) ?_
      refine zq_if hc hH (by rfl) (tg := 29) (by rfl) (fun h3 => ?_) (fun h3 => ?_)
      · have h3 : (decide ((lg_cmp w2 0) = 0)) = true := decide_eq_true (cm_eq9.mp h3)
        refine z_rcs hc hH 1 (pc' := 30) (lv' := [(3, .int 2), (1, .int 2), (2, .ref 79), (0, .ref 50)]) (st' := [.int 0, .int 2, .ref 79]) (μ' := W2) (by rfl) ?_
        refine zq_bast hc hH (by rfl) 4 (by decide +kernel) (show vp_in (nI 2) 4 from vp_in_nI (by decide) (by decide)) (by decide) ?_
        rw [show (2 : Int32).toNatClampNeg = 2 from rfl]
        show Z 1 31 [(3, .int 2), (1, .int 2), (2, .ref 79), (0, .ref 50)] [] (z_ui W2 79 2 0)
        refine z_rcs hc hH 3 (pc' := 34) (lv' := [(3, .int 2), (1, .int 2), (2, .ref 79), (0, .ref 50)]) (st' := [.int 2, .ref 79, .int 2]) (μ' := z_ui W2 79 2 0) (by rfl) ?_
        refine zq_bald hc hH (by rfl) 4 (by decide +kernel) (show vp_in (nI 2) 4 from vp_in_nI (by decide) (by decide)) ?_
        rw [show (2 : Int32).toNatClampNeg = 2 from rfl]
        rw [ui_s]
        refine z_rcs hc hH 13 (pc' := 17) (lv' := [(3, .int 3), (1, .int 2), (2, .ref 79), (0, .ref 50)]) (st' := [.int 3, .ref 50, .int 3, .ref 79]) (μ' := z_ui W2 79 2 0) (by rfl) ?_
        refine zq_call hc (z_cx_ok hH (by rfl)) (hw3 _ (SE_ui (SE_sm (SE_ui (SE_sm (SE_ui (SE_sm (SE_zr _) hO0) (by omega)) hO1) (by omega)) hO2) (by omega)) (a_H_ui (r := 79) (k := 2) (hA2) ⟨by decide, by decide⟩) d' (by omega)) (by decide +kernel) (fun r9 W3 hq => ?_)
        obtain ⟨rfl, hO3, hA3⟩ := hq
        show Z 1 20 [(3, .int 3), (1, .int 2), (2, .ref 79), (0, .ref 50)] [.long w3, .int 3, .ref 79] W3
        refine z_rcs hc hH 2 (pc' := 22) (lv' := [(3, .int 3), (1, .int 2), (2, .ref 79), (0, .ref 50)]) (st' := [.int (lg_cmp w3 0), .int 3, .ref 79]) (μ' := W3) (by rfl) ?_
        refine zq_if hc hH (by rfl) (tg := 29) (by rfl) (fun h4 => ?_) (fun h4 => ?_)
        · have h4 : (decide ((lg_cmp w3 0) = 0)) = true := decide_eq_true (cm_eq9.mp h4)
          exact absurd (Eq.trans (Eq.symm (hb3)) h4) (by decide)
        · have h4 : (decide ((lg_cmp w3 0) = 0)) = false := decide_eq_false (cn_eq.mp h4)
          refine z_rcs hc hH 2 (pc' := 30) (lv' := [(3, .int 3), (1, .int 2), (2, .ref 79), (0, .ref 50)]) (st' := [.int 1, .int 3, .ref 79]) (μ' := W3) (by rfl) ?_
          refine zq_bast hc hH (by rfl) 4 (by decide +kernel) (show vp_in (nI 3) 4 from vp_in_nI (by decide) (by decide)) (by decide) ?_
          rw [show (3 : Int32).toNatClampNeg = 3 from rfl]
          show Z 1 31 [(3, .int 3), (1, .int 2), (2, .ref 79), (0, .ref 50)] [] (z_ui W3 79 3 1)
          refine z_rcs hc hH 3 (pc' := 34) (lv' := [(3, .int 3), (1, .int 2), (2, .ref 79), (0, .ref 50)]) (st' := [.int 3, .ref 79, .int 2]) (μ' := z_ui W3 79 3 1) (by rfl) ?_
          refine zq_bald hc hH (by rfl) 4 (by decide +kernel) (show vp_in (nI 3) 4 from vp_in_nI (by decide) (by decide)) ?_
          rw [show (3 : Int32).toNatClampNeg = 3 from rfl]
          rw [ui_s]
          refine z_rcs hc hH 21 (pc' := 68) (lv' := [(3, .int 0), (1, .int 3), (2, .ref 79), (0, .ref 50)]) (st' := [.ref 50]) (μ' := z_ui W3 79 3 1) (by rfl) ?_
          refine zq_gfr hc hH (by rfl) (ci := 6) (f := 29) (q := 61) (by rfl) (by decide +kernel) (by rfl) (by decide +kernel) ?_
          refine z_rcs hc hH 2 (pc' := 73) (lv' := [(3, .int 0), (1, .int 3), (2, .ref 79), (0, .ref 50)]) (st' := [.int 0, .ref 61, .int 0, .ref 61]) (μ' := z_ui W3 79 3 1) (by rfl) ?_
          refine zq_iald hc hH (by rfl) 4 (oka_i (by decide +kernel)) (show vp_in (nI 0) 4 from vp_in_nI (by decide) (by decide)) ?_
          rw [show (0 : Int32).toNatClampNeg = 0 from rfl]
          refine zV1 (Z := Z) (Eq.trans (ui_o (by first | decide | omega)) (Eq.trans (hO3 61 0 (by omega)).1 (Eq.trans (ui_o (by first | decide | omega)) (Eq.trans (hO2 61 0 (by omega)).1 (Eq.trans (ui_o (by first | decide | omega)) (Eq.trans (hO1 61 0 (by omega)).1 (Eq.trans (ui_o (by first | decide | omega)) (hO0 61 0 (by omega)).1))))))) ?_
          rw [z_zero_o (by decide)]
          refine z_rcs hc hH 2 (pc' := 76) (lv' := [(3, .int 0), (1, .int 3), (2, .ref 79), (0, .ref 50)]) (st' := [.int 0, .ref 79, .int (μ.1 61 0), .int 0, .ref 61]) (μ' := z_ui W3 79 3 1) (by rfl) ?_
          refine zq_bald hc hH (by rfl) 4 (by decide +kernel) (show vp_in (nI 0) 4 from vp_in_nI (by decide) (by decide)) ?_
          rw [show (0 : Int32).toNatClampNeg = 0 from rfl]
          refine zV1 (Z := Z) (Eq.trans (ui_k (by first | decide | omega)) (Eq.trans (hO3 79 0 (by omega)).1 (Eq.trans (ui_k (by first | decide | omega)) (Eq.trans (hO2 79 0 (by omega)).1 (Eq.trans (ui_k (by first | decide | omega)) (Eq.trans (hO1 79 0 (by omega)).1 (ui_s))))))) ?_
          refine z_rcs hc hH 6 (pc' := 96) (lv' := [(3, .int 0), (1, .int 3), (2, .ref 79), (0, .ref 50)]) (st' := [.int ((μ.1 61 0) + 1000), .int 0, .ref 61]) (μ' := z_ui W3 79 3 1) (by rfl) ?_
          refine zq_iast hc hH (by rfl) 4 (oka_i (by decide +kernel)).2 (show vp_in (nI 0) 4 from vp_in_nI (by decide) (by decide)) ?_
          rw [show (0 : Int32).toNatClampNeg = 0 from rfl]
          show Z 1 97 [(3, .int 0), (1, .int 3), (2, .ref 79), (0, .ref 50)] [] (z_ui (z_ui W3 79 3 1) 61 0 ((μ.1 61 0) + 1000))
          refine z_rcs0 hc hH 6 (pc' := 68) (lv' := [(3, .int 1), (1, .int 3), (2, .ref 79), (0, .ref 50)]) (st' := [.ref 50]) (by rfl) ?_
          refine zq_gfr hc hH (by rfl) (ci := 6) (f := 29) (q := 61) (by rfl) (by decide +kernel) (by rfl) (by decide +kernel) ?_
          refine z_rcs0 hc hH 2 (pc' := 73) (lv' := [(3, .int 1), (1, .int 3), (2, .ref 79), (0, .ref 50)]) (st' := [.int 1, .ref 61, .int 1, .ref 61]) (by rfl) ?_
          refine zq_iald hc hH (by rfl) 4 (oka_i (by decide +kernel)) (show vp_in (nI 1) 4 from vp_in_nI (by decide) (by decide)) ?_
          rw [show (1 : Int32).toNatClampNeg = 1 from rfl]
          refine zV1 (Z := Z) (Eq.trans (ui_k (by first | decide | omega)) (Eq.trans (ui_o (by first | decide | omega)) (Eq.trans (hO3 61 1 (by omega)).1 (Eq.trans (ui_o (by first | decide | omega)) (Eq.trans (hO2 61 1 (by omega)).1 (Eq.trans (ui_o (by first | decide | omega)) (Eq.trans (hO1 61 1 (by omega)).1 (Eq.trans (ui_o (by first | decide | omega)) (hO0 61 1 (by omega)).1)))))))) ?_
          rw [z_zero_o (by decide)]
          refine z_rcs0 hc hH 2 (pc' := 76) (lv' := [(3, .int 1), (1, .int 3), (2, .ref 79), (0, .ref 50)]) (st' := [.int 1, .ref 79, .int (μ.1 61 1), .int 1, .ref 61]) (by rfl) ?_
          refine zq_bald hc hH (by rfl) 4 (by decide +kernel) (show vp_in (nI 1) 4 from vp_in_nI (by decide) (by decide)) ?_
          rw [show (1 : Int32).toNatClampNeg = 1 from rfl]
          refine zV1 (Z := Z) (Eq.trans (ui_o (by first | decide | omega)) (Eq.trans (ui_k (by first | decide | omega)) (Eq.trans (hO3 79 1 (by omega)).1 (Eq.trans (ui_k (by first | decide | omega)) (Eq.trans (hO2 79 1 (by omega)).1 (ui_s)))))) ?_
          refine z_rcs0 hc hH 6 (pc' := 96) (lv' := [(3, .int 1), (1, .int 3), (2, .ref 79), (0, .ref 50)]) (st' := [.int ((μ.1 61 1) + 1000), .int 1, .ref 61]) (by rfl) ?_
          refine zq_iast hc hH (by rfl) 4 (oka_i (by decide +kernel)).2 (show vp_in (nI 1) 4 from vp_in_nI (by decide) (by decide)) ?_
          rw [show (1 : Int32).toNatClampNeg = 1 from rfl]
          show Z 1 97 [(3, .int 1), (1, .int 3), (2, .ref 79), (0, .ref 50)] [] (z_ui (z_ui (z_ui W3 79 3 1) 61 0 ((μ.1 61 0) + 1000)) 61 1 ((μ.1 61 1) + 1000))
          refine z_rcs0 hc hH 6 (pc' := 68) (lv' := [(3, .int 2), (1, .int 3), (2, .ref 79), (0, .ref 50)]) (st' := [.ref 50]) (by rfl) ?_
          refine zq_gfr hc hH (by rfl) (ci := 6) (f := 29) (q := 61) (by rfl) (by decide +kernel) (by rfl) (by decide +kernel) ?_
          refine z_rcs0 hc hH 2 (pc' := 73) (lv' := [(3, .int 2), (1, .int 3), (2, .ref 79), (0, .ref 50)]) (st' := [.int 2, .ref 61, .int 2, .ref 61]) (by rfl) ?_
          refine zq_iald hc hH (by rfl) 4 (oka_i (by decide +kernel)) (show vp_in (nI 2) 4 from vp_in_nI (by decide) (by decide)) ?_
          rw [show (2 : Int32).toNatClampNeg = 2 from rfl]
          refine zV1 (Z := Z) (Eq.trans (ui_k (by first | decide | omega)) (Eq.trans (ui_k (by first | decide | omega)) (Eq.trans (ui_o (by first | decide | omega)) (Eq.trans (hO3 61 2 (by omega)).1 (Eq.trans (ui_o (by first | decide | omega)) (Eq.trans (hO2 61 2 (by omega)).1 (Eq.trans (ui_o (by first | decide | omega)) (Eq.trans (hO1 61 2 (by omega)).1 (Eq.trans (ui_o (by first | decide | omega)) (hO0 61 2 (by omega)).1))))))))) ?_
          rw [z_zero_o (by decide)]
          refine z_rcs0 hc hH 2 (pc' := 76) (lv' := [(3, .int 2), (1, .int 3), (2, .ref 79), (0, .ref 50)]) (st' := [.int 2, .ref 79, .int (μ.1 61 2), .int 2, .ref 61]) (by rfl) ?_
          refine zq_bald hc hH (by rfl) 4 (by decide +kernel) (show vp_in (nI 2) 4 from vp_in_nI (by decide) (by decide)) ?_
          rw [show (2 : Int32).toNatClampNeg = 2 from rfl]
          refine zV1 (Z := Z) (Eq.trans (ui_o (by first | decide | omega)) (Eq.trans (ui_o (by first | decide | omega)) (Eq.trans (ui_k (by first | decide | omega)) (Eq.trans (hO3 79 2 (by omega)).1 (ui_s))))) ?_
          refine z_rcs0 hc hH 7 (pc' := 96) (lv' := [(3, .int 2), (1, .int 3), (2, .ref 79), (0, .ref 50)]) (st' := [.int ((μ.1 61 2) + (-3000)), .int 2, .ref 61]) (by rfl) ?_
          refine zq_iast hc hH (by rfl) 4 (oka_i (by decide +kernel)).2 (show vp_in (nI 2) 4 from vp_in_nI (by decide) (by decide)) ?_
          rw [show (2 : Int32).toNatClampNeg = 2 from rfl]
          show Z 1 97 [(3, .int 2), (1, .int 3), (2, .ref 79), (0, .ref 50)] [] (z_ui (z_ui (z_ui (z_ui W3 79 3 1) 61 0 ((μ.1 61 0) + 1000)) 61 1 ((μ.1 61 1) + 1000)) 61 2 ((μ.1 61 2) + (-3000)))
          refine z_rcs0 hc hH 6 (pc' := 68) (lv' := [(3, .int 3), (1, .int 3), (2, .ref 79), (0, .ref 50)]) (st' := [.ref 50]) (by rfl) ?_
          refine zq_gfr hc hH (by rfl) (ci := 6) (f := 29) (q := 61) (by rfl) (by decide +kernel) (by rfl) (by decide +kernel) ?_
          refine z_rcs0 hc hH 2 (pc' := 73) (lv' := [(3, .int 3), (1, .int 3), (2, .ref 79), (0, .ref 50)]) (st' := [.int 3, .ref 61, .int 3, .ref 61]) (by rfl) ?_
          refine zq_iald hc hH (by rfl) 4 (oka_i (by decide +kernel)) (show vp_in (nI 3) 4 from vp_in_nI (by decide) (by decide)) ?_
          rw [show (3 : Int32).toNatClampNeg = 3 from rfl]
          refine zV1 (Z := Z) (Eq.trans (ui_k (by first | decide | omega)) (Eq.trans (ui_k (by first | decide | omega)) (Eq.trans (ui_k (by first | decide | omega)) (Eq.trans (ui_o (by first | decide | omega)) (Eq.trans (hO3 61 3 (by omega)).1 (Eq.trans (ui_o (by first | decide | omega)) (Eq.trans (hO2 61 3 (by omega)).1 (Eq.trans (ui_o (by first | decide | omega)) (Eq.trans (hO1 61 3 (by omega)).1 (Eq.trans (ui_o (by first | decide | omega)) (hO0 61 3 (by omega)).1)))))))))) ?_
          rw [z_zero_o (by decide)]
          refine z_rcs0 hc hH 2 (pc' := 76) (lv' := [(3, .int 3), (1, .int 3), (2, .ref 79), (0, .ref 50)]) (st' := [.int 3, .ref 79, .int (μ.1 61 3), .int 3, .ref 61]) (by rfl) ?_
          refine zq_bald hc hH (by rfl) 4 (by decide +kernel) (show vp_in (nI 3) 4 from vp_in_nI (by decide) (by decide)) ?_
          rw [show (3 : Int32).toNatClampNeg = 3 from rfl]
          refine zV1 (Z := Z) (Eq.trans (ui_o (by first | decide | omega)) (Eq.trans (ui_o (by first | decide | omega)) (Eq.trans (ui_o (by first | decide | omega)) (ui_s)))) ?_
          refine z_rcs0 hc hH 6 (pc' := 96) (lv' := [(3, .int 3), (1, .int 3), (2, .ref 79), (0, .ref 50)]) (st' := [.int ((μ.1 61 3) + 1000), .int 3, .ref 61]) (by rfl) ?_
          refine zq_iast hc hH (by rfl) 4 (oka_i (by decide +kernel)).2 (show vp_in (nI 3) 4 from vp_in_nI (by decide) (by decide)) ?_
          rw [show (3 : Int32).toNatClampNeg = 3 from rfl]
          show Z 1 97 [(3, .int 3), (1, .int 3), (2, .ref 79), (0, .ref 50)] [] (z_ui (z_ui (z_ui (z_ui (z_ui W3 79 3 1) 61 0 ((μ.1 61 0) + 1000)) 61 1 ((μ.1 61 1) + 1000)) 61 2 ((μ.1 61 2) + (-3000))) 61 3 ((μ.1 61 3) + 1000))
          refine z_rcs0 hc hH 5 (pc' := 103) (lv' := [(3, .int 4), (1, .int 3), (2, .ref 79), (0, .ref 50)]) (st' := []) (by rfl) ?_
          obtain rfl | rfl | rfl | rfl : dl = 0 ∨ dl = 1 ∨ dl = 2 ∨ dl = 3 := by omega
          · skip
            refine z_rcs0 hc hH 3 (pc' := 106) (lv' := [(3, .int 4), (1, .int 3), (2, .ref 79), (0, .ref 50)]) (st' := [.ref 50, .ref 79, .ref 50]) (by rfl) ?_
            refine zq_gfi hc hH (by rfl) (ci := 6) (f := 40) (by rfl) (by decide +kernel) (by rfl) ?_
            refine zV1 (Z := Z) (Eq.trans (ui_o (by first | decide | omega)) (Eq.trans (ui_o (by first | decide | omega)) (Eq.trans (ui_o (by first | decide | omega)) (Eq.trans (ui_o (by first | decide | omega)) (Eq.trans (ui_o (by first | decide | omega)) (Eq.trans (hO3 50 40 (by omega)).1 (Eq.trans (ui_o (by first | decide | omega)) (Eq.trans (hO2 50 40 (by omega)).1 (Eq.trans (ui_o (by first | decide | omega)) (Eq.trans (hO1 50 40 (by omega)).1 (Eq.trans (ui_o (by first | decide | omega)) (hO0 50 40 (by omega)).1))))))))))) ?_
            rw [(z_zero_o (by decide)).trans hdl]
            refine zq_bald hc hH (by rfl) 4 (by decide +kernel) (vp_in_nI (by omega) (by decide)) ?_
            rw [nI_clamp (by omega)]
            refine zV1 (Z := Z) (Eq.trans (ui_o (by first | decide | omega)) (Eq.trans (ui_o (by first | decide | omega)) (Eq.trans (ui_o (by first | decide | omega)) (Eq.trans (ui_o (by first | decide | omega)) (Eq.trans (ui_k (by first | decide | omega)) (Eq.trans (hO3 79 0 (by omega)).1 (Eq.trans (ui_k (by first | decide | omega)) (Eq.trans (hO2 79 0 (by omega)).1 (Eq.trans (ui_k (by first | decide | omega)) (Eq.trans (hO1 79 0 (by omega)).1 (ui_s))))))))))) ?_
            refine z_rcs0 hc hH 1 (pc' := 111) (lv' := [(3, .int 4), (1, .int 3), (2, .ref 79), (0, .ref 50)]) (st' := [.int 1, .int 1, .ref 50]) (by rfl) ?_
            refine zq_call hc (z_cx_ok hH (by rfl)) (gm_endsB d' (by omega) (z_ui (z_ui (z_ui (z_ui (z_ui W3 79 3 1) 61 0 ((μ.1 61 0) + 1000)) 61 1 ((μ.1 61 1) + 1000)) 61 2 ((μ.1 61 2) + (-3000))) 61 3 ((μ.1 61 3) + 1000)) true true 0 e (by rw [ui_o (by first | decide | omega), ui_o (by first | decide | omega), ui_o (by first | decide | omega), ui_o (by first | decide | omega), ui_o (by first | decide | omega), (hO3 50 40 (by omega)).1, ui_o (by first | decide | omega), (hO2 50 40 (by omega)).1, ui_o (by first | decide | omega), (hO1 50 40 (by omega)).1, ui_o (by first | decide | omega), (hO0 50 40 (by omega)).1]; exact (z_zero_o (by decide)).trans hdl) hdl4 he) (by decide +kernel) (fun r9 μ9 hq => ?_)
            obtain ⟨hr9, hm9⟩ := hq
            rw [hr9, hm9]
            clear hr9 hm9
            show Z 1 114 [(3, .int 4), (1, .int 3), (2, .ref 79), (0, .ref 50)] [] (eMB (z_ui (z_ui (z_ui (z_ui (z_ui W3 79 3 1) 61 0 ((μ.1 61 0) + 1000)) 61 1 ((μ.1 61 1) + 1000)) 61 2 ((μ.1 61 2) + (-3000))) 61 3 ((μ.1 61 3) + 1000)) true true 0 e)
            exact hr 1 114 _ _ _ none (by decide +kernel) (by rfl) (by refine ⟨rfl, ?_⟩; unfold nM1101; exact SM_eMB (SM_ui (SM_ui (SM_ui (SM_ui (SM_ui (SM_tr (SM_ui (SM_tr (SM_ui (SM_tr (SM_ui (SM_tr (SM_rf _) hO0)) hO1)) hO2)) hO3)))))))
          · skip
            refine z_rcs hc hH 3 (pc' := 106) (lv' := [(3, .int 4), (1, .int 3), (2, .ref 79), (0, .ref 50)]) (st' := [.ref 50, .ref 79, .ref 50]) (μ' := z_ui (z_ui (z_ui (z_ui (z_ui W3 79 3 1) 61 0 ((μ.1 61 0) + 1000)) 61 1 ((μ.1 61 1) + 1000)) 61 2 ((μ.1 61 2) + (-3000))) 61 3 ((μ.1 61 3) + 1000)) (by rfl) ?_
            refine zq_gfi hc hH (by rfl) (ci := 6) (f := 40) (by rfl) (by decide +kernel) (by rfl) ?_
            refine zV1 (Z := Z) (Eq.trans (ui_o (by first | decide | omega)) (Eq.trans (ui_o (by first | decide | omega)) (Eq.trans (ui_o (by first | decide | omega)) (Eq.trans (ui_o (by first | decide | omega)) (Eq.trans (ui_o (by first | decide | omega)) (Eq.trans (hO3 50 40 (by omega)).1 (Eq.trans (ui_o (by first | decide | omega)) (Eq.trans (hO2 50 40 (by omega)).1 (Eq.trans (ui_o (by first | decide | omega)) (Eq.trans (hO1 50 40 (by omega)).1 (Eq.trans (ui_o (by first | decide | omega)) (hO0 50 40 (by omega)).1))))))))))) ?_
            rw [(z_zero_o (by decide)).trans hdl]
            refine zq_bald hc hH (by rfl) 4 (by decide +kernel) (vp_in_nI (by omega) (by decide)) ?_
            rw [nI_clamp (by omega)]
            refine zV1 (Z := Z) (Eq.trans (ui_o (by first | decide | omega)) (Eq.trans (ui_o (by first | decide | omega)) (Eq.trans (ui_o (by first | decide | omega)) (Eq.trans (ui_o (by first | decide | omega)) (Eq.trans (ui_k (by first | decide | omega)) (Eq.trans (hO3 79 1 (by omega)).1 (Eq.trans (ui_k (by first | decide | omega)) (Eq.trans (hO2 79 1 (by omega)).1 (ui_s))))))))) ?_
            refine z_rcs0 hc hH 1 (pc' := 111) (lv' := [(3, .int 4), (1, .int 3), (2, .ref 79), (0, .ref 50)]) (st' := [.int 1, .int 1, .ref 50]) (by rfl) ?_
            refine zq_call hc (z_cx_ok hH (by rfl)) (gm_endsB d' (by omega) (z_ui (z_ui (z_ui (z_ui (z_ui W3 79 3 1) 61 0 ((μ.1 61 0) + 1000)) 61 1 ((μ.1 61 1) + 1000)) 61 2 ((μ.1 61 2) + (-3000))) 61 3 ((μ.1 61 3) + 1000)) true true 1 e (by rw [ui_o (by first | decide | omega), ui_o (by first | decide | omega), ui_o (by first | decide | omega), ui_o (by first | decide | omega), ui_o (by first | decide | omega), (hO3 50 40 (by omega)).1, ui_o (by first | decide | omega), (hO2 50 40 (by omega)).1, ui_o (by first | decide | omega), (hO1 50 40 (by omega)).1, ui_o (by first | decide | omega), (hO0 50 40 (by omega)).1]; exact (z_zero_o (by decide)).trans hdl) hdl4 he) (by decide +kernel) (fun r9 μ9 hq => ?_)
            obtain ⟨hr9, hm9⟩ := hq
            rw [hr9, hm9]
            clear hr9 hm9
            show Z 1 114 [(3, .int 4), (1, .int 3), (2, .ref 79), (0, .ref 50)] [] (eMB (z_ui (z_ui (z_ui (z_ui (z_ui W3 79 3 1) 61 0 ((μ.1 61 0) + 1000)) 61 1 ((μ.1 61 1) + 1000)) 61 2 ((μ.1 61 2) + (-3000))) 61 3 ((μ.1 61 3) + 1000)) true true 1 e)
            exact hr 1 114 _ _ _ none (by decide +kernel) (by rfl) (by refine ⟨rfl, ?_⟩; unfold nM1101; exact SM_eMB (SM_ui (SM_ui (SM_ui (SM_ui (SM_ui (SM_tr (SM_ui (SM_tr (SM_ui (SM_tr (SM_ui (SM_tr (SM_rf _) hO0)) hO1)) hO2)) hO3)))))))
          · skip
            refine z_rcs hc hH 3 (pc' := 106) (lv' := [(3, .int 4), (1, .int 3), (2, .ref 79), (0, .ref 50)]) (st' := [.ref 50, .ref 79, .ref 50]) (μ' := z_ui (z_ui (z_ui (z_ui (z_ui W3 79 3 1) 61 0 ((μ.1 61 0) + 1000)) 61 1 ((μ.1 61 1) + 1000)) 61 2 ((μ.1 61 2) + (-3000))) 61 3 ((μ.1 61 3) + 1000)) (by rfl) ?_
            refine zq_gfi hc hH (by rfl) (ci := 6) (f := 40) (by rfl) (by decide +kernel) (by rfl) ?_
            refine zV1 (Z := Z) (Eq.trans (ui_o (by first | decide | omega)) (Eq.trans (ui_o (by first | decide | omega)) (Eq.trans (ui_o (by first | decide | omega)) (Eq.trans (ui_o (by first | decide | omega)) (Eq.trans (ui_o (by first | decide | omega)) (Eq.trans (hO3 50 40 (by omega)).1 (Eq.trans (ui_o (by first | decide | omega)) (Eq.trans (hO2 50 40 (by omega)).1 (Eq.trans (ui_o (by first | decide | omega)) (Eq.trans (hO1 50 40 (by omega)).1 (Eq.trans (ui_o (by first | decide | omega)) (hO0 50 40 (by omega)).1))))))))))) ?_
            rw [(z_zero_o (by decide)).trans hdl]
            refine zq_bald hc hH (by rfl) 4 (by decide +kernel) (vp_in_nI (by omega) (by decide)) ?_
            rw [nI_clamp (by omega)]
            refine zV1 (Z := Z) (Eq.trans (ui_o (by first | decide | omega)) (Eq.trans (ui_o (by first | decide | omega)) (Eq.trans (ui_o (by first | decide | omega)) (Eq.trans (ui_o (by first | decide | omega)) (Eq.trans (ui_k (by first | decide | omega)) (Eq.trans (hO3 79 2 (by omega)).1 (ui_s))))))) ?_
            refine z_rcs0 hc hH 1 (pc' := 111) (lv' := [(3, .int 4), (1, .int 3), (2, .ref 79), (0, .ref 50)]) (st' := [.int 1, .int 0, .ref 50]) (by rfl) ?_
            refine zq_call hc (z_cx_ok hH (by rfl)) (gm_endsB d' (by omega) (z_ui (z_ui (z_ui (z_ui (z_ui W3 79 3 1) 61 0 ((μ.1 61 0) + 1000)) 61 1 ((μ.1 61 1) + 1000)) 61 2 ((μ.1 61 2) + (-3000))) 61 3 ((μ.1 61 3) + 1000)) false true 2 e (by rw [ui_o (by first | decide | omega), ui_o (by first | decide | omega), ui_o (by first | decide | omega), ui_o (by first | decide | omega), ui_o (by first | decide | omega), (hO3 50 40 (by omega)).1, ui_o (by first | decide | omega), (hO2 50 40 (by omega)).1, ui_o (by first | decide | omega), (hO1 50 40 (by omega)).1, ui_o (by first | decide | omega), (hO0 50 40 (by omega)).1]; exact (z_zero_o (by decide)).trans hdl) hdl4 he) (by decide +kernel) (fun r9 μ9 hq => ?_)
            obtain ⟨hr9, hm9⟩ := hq
            rw [hr9, hm9]
            clear hr9 hm9
            show Z 1 114 [(3, .int 4), (1, .int 3), (2, .ref 79), (0, .ref 50)] [] (eMB (z_ui (z_ui (z_ui (z_ui (z_ui W3 79 3 1) 61 0 ((μ.1 61 0) + 1000)) 61 1 ((μ.1 61 1) + 1000)) 61 2 ((μ.1 61 2) + (-3000))) 61 3 ((μ.1 61 3) + 1000)) false true 2 e)
            exact hr 1 114 _ _ _ none (by decide +kernel) (by rfl) (by refine ⟨rfl, ?_⟩; unfold nM1101; exact SM_eMB (SM_ui (SM_ui (SM_ui (SM_ui (SM_ui (SM_tr (SM_ui (SM_tr (SM_ui (SM_tr (SM_ui (SM_tr (SM_rf _) hO0)) hO1)) hO2)) hO3)))))))
          · skip
            refine z_rcs hc hH 3 (pc' := 106) (lv' := [(3, .int 4), (1, .int 3), (2, .ref 79), (0, .ref 50)]) (st' := [.ref 50, .ref 79, .ref 50]) (μ' := z_ui (z_ui (z_ui (z_ui (z_ui W3 79 3 1) 61 0 ((μ.1 61 0) + 1000)) 61 1 ((μ.1 61 1) + 1000)) 61 2 ((μ.1 61 2) + (-3000))) 61 3 ((μ.1 61 3) + 1000)) (by rfl) ?_
            refine zq_gfi hc hH (by rfl) (ci := 6) (f := 40) (by rfl) (by decide +kernel) (by rfl) ?_
            refine zV1 (Z := Z) (Eq.trans (ui_o (by first | decide | omega)) (Eq.trans (ui_o (by first | decide | omega)) (Eq.trans (ui_o (by first | decide | omega)) (Eq.trans (ui_o (by first | decide | omega)) (Eq.trans (ui_o (by first | decide | omega)) (Eq.trans (hO3 50 40 (by omega)).1 (Eq.trans (ui_o (by first | decide | omega)) (Eq.trans (hO2 50 40 (by omega)).1 (Eq.trans (ui_o (by first | decide | omega)) (Eq.trans (hO1 50 40 (by omega)).1 (Eq.trans (ui_o (by first | decide | omega)) (hO0 50 40 (by omega)).1))))))))))) ?_
            rw [(z_zero_o (by decide)).trans hdl]
            refine zq_bald hc hH (by rfl) 4 (by decide +kernel) (vp_in_nI (by omega) (by decide)) ?_
            rw [nI_clamp (by omega)]
            refine zV1 (Z := Z) (Eq.trans (ui_o (by first | decide | omega)) (Eq.trans (ui_o (by first | decide | omega)) (Eq.trans (ui_o (by first | decide | omega)) (Eq.trans (ui_o (by first | decide | omega)) (ui_s))))) ?_
            refine z_rcs0 hc hH 1 (pc' := 111) (lv' := [(3, .int 4), (1, .int 3), (2, .ref 79), (0, .ref 50)]) (st' := [.int 1, .int 1, .ref 50]) (by rfl) ?_
            refine zq_call hc (z_cx_ok hH (by rfl)) (gm_endsB d' (by omega) (z_ui (z_ui (z_ui (z_ui (z_ui W3 79 3 1) 61 0 ((μ.1 61 0) + 1000)) 61 1 ((μ.1 61 1) + 1000)) 61 2 ((μ.1 61 2) + (-3000))) 61 3 ((μ.1 61 3) + 1000)) true true 3 e (by rw [ui_o (by first | decide | omega), ui_o (by first | decide | omega), ui_o (by first | decide | omega), ui_o (by first | decide | omega), ui_o (by first | decide | omega), (hO3 50 40 (by omega)).1, ui_o (by first | decide | omega), (hO2 50 40 (by omega)).1, ui_o (by first | decide | omega), (hO1 50 40 (by omega)).1, ui_o (by first | decide | omega), (hO0 50 40 (by omega)).1]; exact (z_zero_o (by decide)).trans hdl) hdl4 he) (by decide +kernel) (fun r9 μ9 hq => ?_)
            obtain ⟨hr9, hm9⟩ := hq
            rw [hr9, hm9]
            clear hr9 hm9
            show Z 1 114 [(3, .int 4), (1, .int 3), (2, .ref 79), (0, .ref 50)] [] (eMB (z_ui (z_ui (z_ui (z_ui (z_ui W3 79 3 1) 61 0 ((μ.1 61 0) + 1000)) 61 1 ((μ.1 61 1) + 1000)) 61 2 ((μ.1 61 2) + (-3000))) 61 3 ((μ.1 61 3) + 1000)) true true 3 e)
            exact hr 1 114 _ _ _ none (by decide +kernel) (by rfl) (by refine ⟨rfl, ?_⟩; unfold nM1101; exact SM_eMB (SM_ui (SM_ui (SM_ui (SM_ui (SM_ui (SM_tr (SM_ui (SM_tr (SM_ui (SM_tr (SM_ui (SM_tr (SM_rf _) hO0)) hO1)) hO2)) hO3)))))))
      · have h3 : (decide ((lg_cmp w2 0) = 0)) = false := decide_eq_false (cn_eq.mp h3)
        exact absurd (Eq.trans (Eq.symm (hb2)) h3) (by decide)
noncomputable def nM1110 (μ : zM) : zM := z_ui (z_ui (z_ui (z_ui (z_ui (z_ui (z_ui (z_ui (z_zero μ) 79 0 1) 79 1 1) 79 2 1) 79 3 0) 61 0 ((μ.1 61 0) + 1000)) 61 1 ((μ.1 61 1) + 1000)) 61 2 ((μ.1 61 2) + 1000)) 61 3 ((μ.1 61 3) + (-3000))
theorem gm_nobody1110 (d : Nat) (hd : 700 ≤ d) (μ : zM) (hH0 : a_H μ) (dl e : Nat) (hdl : μ.1 50 40 = nI dl) (hdl4 : dl < 4) (he : (dl + 1) % 4 = e) (w0 : Int64) (hw0 : ∀ M, SE μ M → a_H M → ∀ d, 699 ≤ d → z_C d mi_X7_waitsAt [.ref 50, .int 0] M (fun r W => r = some (.long w0) ∧ SMj M W ∧ a_H W)) (hb0 : decide (lg_cmp w0 0 = 0) = false) (w1 : Int64) (hw1 : ∀ M, SE μ M → a_H M → ∀ d, 699 ≤ d → z_C d mi_X7_waitsAt [.ref 50, .int 1] M (fun r W => r = some (.long w1) ∧ SMj M W ∧ a_H W)) (hb1 : decide (lg_cmp w1 0 = 0) = false) (w2 : Int64) (hw2 : ∀ M, SE μ M → a_H M → ∀ d, 699 ≤ d → z_C d mi_X7_waitsAt [.ref 50, .int 2] M (fun r W => r = some (.long w2) ∧ SMj M W ∧ a_H W)) (hb2 : decide (lg_cmp w2 0 = 0) = false) (w3 : Int64) (hw3 : ∀ M, SE μ M → a_H M → ∀ d, 699 ≤ d → z_C d mi_X7_waitsAt [.ref 50, .int 3] M (fun r W => r = some (.long w3) ∧ SMj M W ∧ a_H W)) (hb3 : decide (lg_cmp w3 0 = 0) = true) : z_C d mi_X7_nobodyWins [.ref 50] μ (fun r μ' => r = none ∧ SMj (eMB (nM1110 μ) (nbS true true true false dl) true dl e) μ') := by
  obtain ⟨d', rfl⟩ : ∃ d', d = d' + 1 := ⟨d - 1, by omega⟩
  intro Z hc hr
  refine ⟨rfl, ?_⟩
  have hH := zh_X7_nobodyWins
  refine z_rcs hc hH 9 (pc' := 17) (lv' := [(3, .int 0), (2, .ref 79), (1, .int 0), (0, .ref 50)]) (st' := [.int 0, .ref 50, .int 0, .ref 79]) (μ' := z_zero μ) (by rfl) ?_
  refine zq_call hc (z_cx_ok hH (by rfl)) (hw0 _ (SE_zr _) (a_H_zero hH0) d' (by omega)) (by decide +kernel) (fun r9 W0 hq => ?_)
  obtain ⟨rfl, hO0, hA0⟩ := hq
  show Z 1 20 [(3, .int 0), (2, .ref 79), (1, .int 0), (0, .ref 50)] [.long w0, .int 0, .ref 79] W0
  refine z_rcs hc hH 2 (pc' := 22) (lv' := [(3, .int 0), (2, .ref 79), (1, .int 0), (0, .ref 50)]) (st' := [.int (lg_cmp w0 0), .int 0, .ref 79]) (μ' := W0) (by rfl) ?_
  refine zq_if hc hH (by rfl) (tg := 29) (by rfl) (fun h1 => ?_) (fun h1 => ?_)
  · have h1 : (decide ((lg_cmp w0 0) = 0)) = true := decide_eq_true (cm_eq9.mp h1)
    exact absurd (Eq.trans (Eq.symm (hb0)) h1) (by decide)
  · have h1 : (decide ((lg_cmp w0 0) = 0)) = false := decide_eq_false (cn_eq.mp h1)
    refine z_rcs hc hH 2 (pc' := 30) (lv' := [(3, .int 0), (2, .ref 79), (1, .int 0), (0, .ref 50)]) (st' := [.int 1, .int 0, .ref 79]) (μ' := W0) (by rfl) ?_
    refine zq_bast hc hH (by rfl) 4 (by decide +kernel) (show vp_in (nI 0) 4 from vp_in_nI (by decide) (by decide)) (by decide) ?_
    rw [show (0 : Int32).toNatClampNeg = 0 from rfl]
    show Z 1 31 [(3, .int 0), (2, .ref 79), (1, .int 0), (0, .ref 50)] [] (z_ui W0 79 0 1)
    refine z_rcs hc hH 3 (pc' := 34) (lv' := [(3, .int 0), (2, .ref 79), (1, .int 0), (0, .ref 50)]) (st' := [.int 0, .ref 79, .int 0]) (μ' := z_ui W0 79 0 1) (by rfl) ?_
    refine zq_bald hc hH (by rfl) 4 (by decide +kernel) (show vp_in (nI 0) 4 from vp_in_nI (by decide) (by decide)) ?_
    rw [show (0 : Int32).toNatClampNeg = 0 from rfl]
    rw [ui_s]
    refine z_rcs hc hH 14 (pc' := 17) (lv' := [(3, .int 1), (1, .int 1), (2, .ref 79), (0, .ref 50)]) (st' := [.int 1, .ref 50, .int 1, .ref 79]) (μ' := z_ui W0 79 0 1) (by rfl) ?_
    refine zq_call hc (z_cx_ok hH (by rfl)) (hw1 _ (SE_ui (SE_sm (SE_zr _) hO0) (by omega)) (a_H_ui (r := 79) (k := 0) (hA0) ⟨by decide, by decide⟩) d' (by omega)) (by decide +kernel) (fun r9 W1 hq => ?_)
    obtain ⟨rfl, hO1, hA1⟩ := hq
    show Z 1 20 [(3, .int 1), (1, .int 1), (2, .ref 79), (0, .ref 50)] [.long w1, .int 1, .ref 79] W1
    refine z_rcs hc hH 2 (pc' := 22) (lv' := [(3, .int 1), (1, .int 1), (2, .ref 79), (0, .ref 50)]) (st' := [.int (lg_cmp w1 0), .int 1, .ref 79]) (μ' := W1) (by rfl) ?_
    refine zq_if hc hH (by rfl) (tg := 29) (by rfl) (fun h2 => ?_) (fun h2 => ?_)
    · have h2 : (decide ((lg_cmp w1 0) = 0)) = true := decide_eq_true (cm_eq9.mp h2)
      exact absurd (Eq.trans (Eq.symm (hb1)) h2) (by decide)
    · have h2 : (decide ((lg_cmp w1 0) = 0)) = false := decide_eq_false (cn_eq.mp h2)
      refine z_rcs hc hH 2 (pc' := 30) (lv' := [(3, .int 1), (1, .int 1), (2, .ref 79), (0, .ref 50)]) (st' := [.int 1, .int 1, .ref 79]) (μ' := W1) (by rfl) ?_
      refine zq_bast hc hH (by rfl) 4 (by decide +kernel) (show vp_in (nI 1) 4 from vp_in_nI (by decide) (by decide)) (by decide) ?_
      rw [show (1 : Int32).toNatClampNeg = 1 from rfl]
      show Z 1 31 [(3, .int 1), (1, .int 1), (2, .ref 79), (0, .ref 50)] [] (z_ui W1 79 1 1)
      refine z_rcs hc hH 3 (pc' := 34) (lv' := [(3, .int 1), (1, .int 1), (2, .ref 79), (0, .ref 50)]) (st' := [.int 1, .ref 79, .int 1]) (μ' := z_ui W1 79 1 1) (by rfl) ?_
      refine zq_bald hc hH (by rfl) 4 (by decide +kernel) (show vp_in (nI 1) 4 from vp_in_nI (by decide) (by decide)) ?_
      rw [show (1 : Int32).toNatClampNeg = 1 from rfl]
      rw [ui_s]
      refine z_rcs hc hH 14 (pc' := 17) (lv' := [(3, .int 2), (1, .int 2), (2, .ref 79), (0, .ref 50)]) (st' := [.int 2, .ref 50, .int 2, .ref 79]) (μ' := z_ui W1 79 1 1) (by rfl) ?_
      refine zq_call hc (z_cx_ok hH (by rfl)) (hw2 _ (SE_ui (SE_sm (SE_ui (SE_sm (SE_zr _) hO0) (by omega)) hO1) (by omega)) (a_H_ui (r := 79) (k := 1) (hA1) ⟨by decide, by decide⟩) d' (by omega)) (by decide +kernel) (fun r9 W2 hq => ?_)
      obtain ⟨rfl, hO2, hA2⟩ := hq
      show Z 1 20 [(3, .int 2), (1, .int 2), (2, .ref 79), (0, .ref 50)] [.long w2, .int 2, .ref 79] W2
      refine z_rcs hc hH 2 (pc' := 22) (lv' := [(3, .int 2), (1, .int 2), (2, .ref 79), (0, .ref 50)]) (st' := [.int (lg_cmp w2 0), .int 2, .ref 79]) (μ' := W2) (by rfl) ?_
      refine zq_if hc hH (by rfl) (tg := 29) (by rfl) (fun h3 => ?_) (fun h3 => ?_)
      · have h3 : (decide ((lg_cmp w2 0) = 0)) = true := decide_eq_true (cm_eq9.mp h3)
        exact absurd (Eq.trans (Eq.symm (hb2)) h3) (by decide)
      · have h3 : (decide ((lg_cmp w2 0) = 0)) = false := decide_eq_false (cn_eq.mp h3)
        refine z_rcs hc hH 2 (pc' := 30) (lv' := [(3, .int 2), (1, .int 2), (2, .ref 79), (0, .ref 50)]) (st' := [.int 1, .int 2, .ref 79]) (μ' := W2) (by rfl) ?_
        refine zq_bast hc hH (by rfl) 4 (by decide +kernel) (show vp_in (nI 2) 4 from vp_in_nI (by decide) (by decide)) (by decide) ?_
        rw [show (2 : Int32).toNatClampNeg = 2 from rfl]
        show Z 1 31 [(3, .int 2), (1, .int 2), (2, .ref 79), (0, .ref 50)] [] (z_ui W2 79 2 1)
        refine z_rcs hc hH 3 (pc' := 34) (lv' := [(3, .int 2), (1, .int 2), (2, .ref 79), (0, .ref 50)]) (st' := [.int 2, .ref 79, .int 2]) (μ' := z_ui W2 79 2 1) (by rfl) ?_
        refine zq_bald hc hH (by rfl) 4 (by decide +kernel) (show vp_in (nI 2) 4 from vp_in_nI (by decide) (by decide)) ?_
        rw [show (2 : Int32).toNatClampNeg = 2 from rfl]
        rw [ui_s]
        refine z_rcs hc hH 14 (pc' := 17) (lv' := [(3, .int 3), (1, .int 3), (2, .ref 79), (0, .ref 50)]) (st' := [.int 3, .ref 50, .int 3, .ref 79]) (μ' := z_ui W2 79 2 1) (by rfl) ?_
        refine zq_call hc (z_cx_ok hH (by rfl)) (hw3 _ (SE_ui (SE_sm (SE_ui (SE_sm (SE_ui (SE_sm (SE_zr _) hO0) (by omega)) hO1) (by omega)) hO2) (by omega)) (a_H_ui (r := 79) (k := 2) (hA2) ⟨by decide, by decide⟩) d' (by omega)) (by decide +kernel) (fun r9 W3 hq => ?_)
        obtain ⟨rfl, hO3, hA3⟩ := hq
        show Z 1 20 [(3, .int 3), (1, .int 3), (2, .ref 79), (0, .ref 50)] [.long w3, .int 3, .ref 79] W3
        refine z_rcs hc hH 2 (pc' := 22) (lv' := [(3, .int 3), (1, .int 3), (2, .ref 79), (0, .ref 50)]) (st' := [.int (lg_cmp w3 0), .int 3, .ref 79]) (μ' := W3) (by rfl) ?_
        refine zq_if hc hH (by rfl) (tg := 29) (by rfl) (fun h4 => ?_) (fun h4 => ?_)
        · have h4 : (decide ((lg_cmp w3 0) = 0)) = true := decide_eq_true (cm_eq9.mp h4)
          refine z_rcs hc hH 1 (pc' := 30) (lv' := [(3, .int 3), (1, .int 3), (2, .ref 79), (0, .ref 50)]) (st' := [.int 0, .int 3, .ref 79]) (μ' := W3) (by rfl) ?_
          refine zq_bast hc hH (by rfl) 4 (by decide +kernel) (show vp_in (nI 3) 4 from vp_in_nI (by decide) (by decide)) (by decide) ?_
          rw [show (3 : Int32).toNatClampNeg = 3 from rfl]
          show Z 1 31 [(3, .int 3), (1, .int 3), (2, .ref 79), (0, .ref 50)] [] (z_ui W3 79 3 0)
          refine z_rcs hc hH 3 (pc' := 34) (lv' := [(3, .int 3), (1, .int 3), (2, .ref 79), (0, .ref 50)]) (st' := [.int 3, .ref 79, .int 3]) (μ' := z_ui W3 79 3 0) (by rfl) ?_
          refine zq_bald hc hH (by rfl) 4 (by decide +kernel) (show vp_in (nI 3) 4 from vp_in_nI (by decide) (by decide)) ?_
          rw [show (3 : Int32).toNatClampNeg = 3 from rfl]
          rw [ui_s]
          refine z_rcs hc hH 20 (pc' := 68) (lv' := [(3, .int 0), (1, .int 3), (2, .ref 79), (0, .ref 50)]) (st' := [.ref 50]) (μ' := z_ui W3 79 3 0) (by rfl) ?_
          refine zq_gfr hc hH (by rfl) (ci := 6) (f := 29) (q := 61) (by rfl) (by decide +kernel) (by rfl) (by decide +kernel) ?_
          refine z_rcs hc hH 2 (pc' := 73) (lv' := [(3, .int 0), (1, .int 3), (2, .ref 79), (0, .ref 50)]) (st' := [.int 0, .ref 61, .int 0, .ref 61]) (μ' := z_ui W3 79 3 0) (by rfl) ?_
          refine zq_iald hc hH (by rfl) 4 (oka_i (by decide +kernel)) (show vp_in (nI 0) 4 from vp_in_nI (by decide) (by decide)) ?_
          rw [show (0 : Int32).toNatClampNeg = 0 from rfl]
          refine zV1 (Z := Z) (Eq.trans (ui_o (by first | decide | omega)) (Eq.trans (hO3 61 0 (by omega)).1 (Eq.trans (ui_o (by first | decide | omega)) (Eq.trans (hO2 61 0 (by omega)).1 (Eq.trans (ui_o (by first | decide | omega)) (Eq.trans (hO1 61 0 (by omega)).1 (Eq.trans (ui_o (by first | decide | omega)) (hO0 61 0 (by omega)).1))))))) ?_
          rw [z_zero_o (by decide)]
          refine z_rcs hc hH 2 (pc' := 76) (lv' := [(3, .int 0), (1, .int 3), (2, .ref 79), (0, .ref 50)]) (st' := [.int 0, .ref 79, .int (μ.1 61 0), .int 0, .ref 61]) (μ' := z_ui W3 79 3 0) (by rfl) ?_
          refine zq_bald hc hH (by rfl) 4 (by decide +kernel) (show vp_in (nI 0) 4 from vp_in_nI (by decide) (by decide)) ?_
          rw [show (0 : Int32).toNatClampNeg = 0 from rfl]
          refine zV1 (Z := Z) (Eq.trans (ui_k (by first | decide | omega)) (Eq.trans (hO3 79 0 (by omega)).1 (Eq.trans (ui_k (by first | decide | omega)) (Eq.trans (hO2 79 0 (by omega)).1 (Eq.trans (ui_k (by first | decide | omega)) (Eq.trans (hO1 79 0 (by omega)).1 (ui_s))))))) ?_
          refine z_rcs hc hH 6 (pc' := 96) (lv' := [(3, .int 0), (1, .int 3), (2, .ref 79), (0, .ref 50)]) (st' := [.int ((μ.1 61 0) + 1000), .int 0, .ref 61]) (μ' := z_ui W3 79 3 0) (by rfl) ?_
          refine zq_iast hc hH (by rfl) 4 (oka_i (by decide +kernel)).2 (show vp_in (nI 0) 4 from vp_in_nI (by decide) (by decide)) ?_
          rw [show (0 : Int32).toNatClampNeg = 0 from rfl]
          show Z 1 97 [(3, .int 0), (1, .int 3), (2, .ref 79), (0, .ref 50)] [] (z_ui (z_ui W3 79 3 0) 61 0 ((μ.1 61 0) + 1000))
          refine z_rcs0 hc hH 6 (pc' := 68) (lv' := [(3, .int 1), (1, .int 3), (2, .ref 79), (0, .ref 50)]) (st' := [.ref 50]) (by rfl) ?_
          refine zq_gfr hc hH (by rfl) (ci := 6) (f := 29) (q := 61) (by rfl) (by decide +kernel) (by rfl) (by decide +kernel) ?_
          refine z_rcs0 hc hH 2 (pc' := 73) (lv' := [(3, .int 1), (1, .int 3), (2, .ref 79), (0, .ref 50)]) (st' := [.int 1, .ref 61, .int 1, .ref 61]) (by rfl) ?_
          refine zq_iald hc hH (by rfl) 4 (oka_i (by decide +kernel)) (show vp_in (nI 1) 4 from vp_in_nI (by decide) (by decide)) ?_
          rw [show (1 : Int32).toNatClampNeg = 1 from rfl]
          refine zV1 (Z := Z) (Eq.trans (ui_k (by first | decide | omega)) (Eq.trans (ui_o (by first | decide | omega)) (Eq.trans (hO3 61 1 (by omega)).1 (Eq.trans (ui_o (by first | decide | omega)) (Eq.trans (hO2 61 1 (by omega)).1 (Eq.trans (ui_o (by first | decide | omega)) (Eq.trans (hO1 61 1 (by omega)).1 (Eq.trans (ui_o (by first | decide | omega)) (hO0 61 1 (by omega)).1)))))))) ?_
          rw [z_zero_o (by decide)]
          refine z_rcs0 hc hH 2 (pc' := 76) (lv' := [(3, .int 1), (1, .int 3), (2, .ref 79), (0, .ref 50)]) (st' := [.int 1, .ref 79, .int (μ.1 61 1), .int 1, .ref 61]) (by rfl) ?_
          refine zq_bald hc hH (by rfl) 4 (by decide +kernel) (show vp_in (nI 1) 4 from vp_in_nI (by decide) (by decide)) ?_
          rw [show (1 : Int32).toNatClampNeg = 1 from rfl]
          refine zV1 (Z := Z) (Eq.trans (ui_o (by first | decide | omega)) (Eq.trans (ui_k (by first | decide | omega)) (Eq.trans (hO3 79 1 (by omega)).1 (Eq.trans (ui_k (by first | decide | omega)) (Eq.trans (hO2 79 1 (by omega)).1 (ui_s)))))) ?_
          refine z_rcs0 hc hH 6 (pc' := 96) (lv' := [(3, .int 1), (1, .int 3), (2, .ref 79), (0, .ref 50)]) (st' := [.int ((μ.1 61 1) + 1000), .int 1, .ref 61]) (by rfl) ?_
          refine zq_iast hc hH (by rfl) 4 (oka_i (by decide +kernel)).2 (show vp_in (nI 1) 4 from vp_in_nI (by decide) (by decide)) ?_
          rw [show (1 : Int32).toNatClampNeg = 1 from rfl]
          show Z 1 97 [(3, .int 1), (1, .int 3), (2, .ref 79), (0, .ref 50)] [] (z_ui (z_ui (z_ui W3 79 3 0) 61 0 ((μ.1 61 0) + 1000)) 61 1 ((μ.1 61 1) + 1000))
          refine z_rcs0 hc hH 6 (pc' := 68) (lv' := [(3, .int 2), (1, .int 3), (2, .ref 79), (0, .ref 50)]) (st' := [.ref 50]) (by rfl) ?_
          refine zq_gfr hc hH (by rfl) (ci := 6) (f := 29) (q := 61) (by rfl) (by decide +kernel) (by rfl) (by decide +kernel) ?_
          refine z_rcs0 hc hH 2 (pc' := 73) (lv' := [(3, .int 2), (1, .int 3), (2, .ref 79), (0, .ref 50)]) (st' := [.int 2, .ref 61, .int 2, .ref 61]) (by rfl) ?_
          refine zq_iald hc hH (by rfl) 4 (oka_i (by decide +kernel)) (show vp_in (nI 2) 4 from vp_in_nI (by decide) (by decide)) ?_
          rw [show (2 : Int32).toNatClampNeg = 2 from rfl]
          refine zV1 (Z := Z) (Eq.trans (ui_k (by first | decide | omega)) (Eq.trans (ui_k (by first | decide | omega)) (Eq.trans (ui_o (by first | decide | omega)) (Eq.trans (hO3 61 2 (by omega)).1 (Eq.trans (ui_o (by first | decide | omega)) (Eq.trans (hO2 61 2 (by omega)).1 (Eq.trans (ui_o (by first | decide | omega)) (Eq.trans (hO1 61 2 (by omega)).1 (Eq.trans (ui_o (by first | decide | omega)) (hO0 61 2 (by omega)).1))))))))) ?_
          rw [z_zero_o (by decide)]
          refine z_rcs0 hc hH 2 (pc' := 76) (lv' := [(3, .int 2), (1, .int 3), (2, .ref 79), (0, .ref 50)]) (st' := [.int 2, .ref 79, .int (μ.1 61 2), .int 2, .ref 61]) (by rfl) ?_
          refine zq_bald hc hH (by rfl) 4 (by decide +kernel) (show vp_in (nI 2) 4 from vp_in_nI (by decide) (by decide)) ?_
          rw [show (2 : Int32).toNatClampNeg = 2 from rfl]
          refine zV1 (Z := Z) (Eq.trans (ui_o (by first | decide | omega)) (Eq.trans (ui_o (by first | decide | omega)) (Eq.trans (ui_k (by first | decide | omega)) (Eq.trans (hO3 79 2 (by omega)).1 (ui_s))))) ?_
          refine z_rcs0 hc hH 6 (pc' := 96) (lv' := [(3, .int 2), (1, .int 3), (2, .ref 79), (0, .ref 50)]) (st' := [.int ((μ.1 61 2) + 1000), .int 2, .ref 61]) (by rfl) ?_
          refine zq_iast hc hH (by rfl) 4 (oka_i (by decide +kernel)).2 (show vp_in (nI 2) 4 from vp_in_nI (by decide) (by decide)) ?_
          rw [show (2 : Int32).toNatClampNeg = 2 from rfl]
          show Z 1 97 [(3, .int 2), (1, .int 3), (2, .ref 79), (0, .ref 50)] [] (z_ui (z_ui (z_ui (z_ui W3 79 3 0) 61 0 ((μ.1 61 0) + 1000)) 61 1 ((μ.1 61 1) + 1000)) 61 2 ((μ.1 61 2) + 1000))
          refine z_rcs0 hc hH 6 (pc' := 68) (lv' := [(3, .int 3), (1, .int 3), (2, .ref 79), (0, .ref 50)]) (st' := [.ref 50]) (by rfl) ?_
          refine zq_gfr hc hH (by rfl) (ci := 6) (f := 29) (q := 61) (by rfl) (by decide +kernel) (by rfl) (by decide +kernel) ?_
          refine z_rcs0 hc hH 2 (pc' := 73) (lv' := [(3, .int 3), (1, .int 3), (2, .ref 79), (0, .ref 50)]) (st' := [.int 3, .ref 61, .int 3, .ref 61]) (by rfl) ?_
          refine zq_iald hc hH (by rfl) 4 (oka_i (by decide +kernel)) (show vp_in (nI 3) 4 from vp_in_nI (by decide) (by decide)) ?_
          rw [show (3 : Int32).toNatClampNeg = 3 from rfl]
          refine zV1 (Z := Z) (Eq.trans (ui_k (by first | decide | omega)) (Eq.trans (ui_k (by first | decide | omega)) (Eq.trans (ui_k (by first | decide | omega)) (Eq.trans (ui_o (by first | decide | omega)) (Eq.trans (hO3 61 3 (by omega)).1 (Eq.trans (ui_o (by first | decide | omega)) (Eq.trans (hO2 61 3 (by omega)).1 (Eq.trans (ui_o (by first | decide | omega)) (Eq.trans (hO1 61 3 (by omega)).1 (Eq.trans (ui_o (by first | decide | omega)) (hO0 61 3 (by omega)).1)))))))))) ?_
          rw [z_zero_o (by decide)]
          refine z_rcs0 hc hH 2 (pc' := 76) (lv' := [(3, .int 3), (1, .int 3), (2, .ref 79), (0, .ref 50)]) (st' := [.int 3, .ref 79, .int (μ.1 61 3), .int 3, .ref 61]) (by rfl) ?_
          refine zq_bald hc hH (by rfl) 4 (by decide +kernel) (show vp_in (nI 3) 4 from vp_in_nI (by decide) (by decide)) ?_
          rw [show (3 : Int32).toNatClampNeg = 3 from rfl]
          refine zV1 (Z := Z) (Eq.trans (ui_o (by first | decide | omega)) (Eq.trans (ui_o (by first | decide | omega)) (Eq.trans (ui_o (by first | decide | omega)) (ui_s)))) ?_
          refine z_rcs0 hc hH 7 (pc' := 96) (lv' := [(3, .int 3), (1, .int 3), (2, .ref 79), (0, .ref 50)]) (st' := [.int ((μ.1 61 3) + (-3000)), .int 3, .ref 61]) (by rfl) ?_
          refine zq_iast hc hH (by rfl) 4 (oka_i (by decide +kernel)).2 (show vp_in (nI 3) 4 from vp_in_nI (by decide) (by decide)) ?_
          rw [show (3 : Int32).toNatClampNeg = 3 from rfl]
          show Z 1 97 [(3, .int 3), (1, .int 3), (2, .ref 79), (0, .ref 50)] [] (z_ui (z_ui (z_ui (z_ui (z_ui W3 79 3 0) 61 0 ((μ.1 61 0) + 1000)) 61 1 ((μ.1 61 1) + 1000)) 61 2 ((μ.1 61 2) + 1000)) 61 3 ((μ.1 61 3) + (-3000)))
          refine z_rcs0 hc hH 5 (pc' := 103) (lv' := [(3, .int 4), (1, .int 3), (2, .ref 79), (0, .ref 50)]) (st' := []) (by rfl) ?_
          obtain rfl | rfl | rfl | rfl : dl = 0 ∨ dl = 1 ∨ dl = 2 ∨ dl = 3 := by omega
          · skip
            refine z_rcs0 hc hH 3 (pc' := 106) (lv' := [(3, .int 4), (1, .int 3), (2, .ref 79), (0, .ref 50)]) (st' := [.ref 50, .ref 79, .ref 50]) (by rfl) ?_
            refine zq_gfi hc hH (by rfl) (ci := 6) (f := 40) (by rfl) (by decide +kernel) (by rfl) ?_
            refine zV1 (Z := Z) (Eq.trans (ui_o (by first | decide | omega)) (Eq.trans (ui_o (by first | decide | omega)) (Eq.trans (ui_o (by first | decide | omega)) (Eq.trans (ui_o (by first | decide | omega)) (Eq.trans (ui_o (by first | decide | omega)) (Eq.trans (hO3 50 40 (by omega)).1 (Eq.trans (ui_o (by first | decide | omega)) (Eq.trans (hO2 50 40 (by omega)).1 (Eq.trans (ui_o (by first | decide | omega)) (Eq.trans (hO1 50 40 (by omega)).1 (Eq.trans (ui_o (by first | decide | omega)) (hO0 50 40 (by omega)).1))))))))))) ?_
            rw [(z_zero_o (by decide)).trans hdl]
            refine zq_bald hc hH (by rfl) 4 (by decide +kernel) (vp_in_nI (by omega) (by decide)) ?_
            rw [nI_clamp (by omega)]
            refine zV1 (Z := Z) (Eq.trans (ui_o (by first | decide | omega)) (Eq.trans (ui_o (by first | decide | omega)) (Eq.trans (ui_o (by first | decide | omega)) (Eq.trans (ui_o (by first | decide | omega)) (Eq.trans (ui_k (by first | decide | omega)) (Eq.trans (hO3 79 0 (by omega)).1 (Eq.trans (ui_k (by first | decide | omega)) (Eq.trans (hO2 79 0 (by omega)).1 (Eq.trans (ui_k (by first | decide | omega)) (Eq.trans (hO1 79 0 (by omega)).1 (ui_s))))))))))) ?_
            refine z_rcs0 hc hH 1 (pc' := 111) (lv' := [(3, .int 4), (1, .int 3), (2, .ref 79), (0, .ref 50)]) (st' := [.int 1, .int 1, .ref 50]) (by rfl) ?_
            refine zq_call hc (z_cx_ok hH (by rfl)) (gm_endsB d' (by omega) (z_ui (z_ui (z_ui (z_ui (z_ui W3 79 3 0) 61 0 ((μ.1 61 0) + 1000)) 61 1 ((μ.1 61 1) + 1000)) 61 2 ((μ.1 61 2) + 1000)) 61 3 ((μ.1 61 3) + (-3000))) true true 0 e (by rw [ui_o (by first | decide | omega), ui_o (by first | decide | omega), ui_o (by first | decide | omega), ui_o (by first | decide | omega), ui_o (by first | decide | omega), (hO3 50 40 (by omega)).1, ui_o (by first | decide | omega), (hO2 50 40 (by omega)).1, ui_o (by first | decide | omega), (hO1 50 40 (by omega)).1, ui_o (by first | decide | omega), (hO0 50 40 (by omega)).1]; exact (z_zero_o (by decide)).trans hdl) hdl4 he) (by decide +kernel) (fun r9 μ9 hq => ?_)
            obtain ⟨hr9, hm9⟩ := hq
            rw [hr9, hm9]
            clear hr9 hm9
            show Z 1 114 [(3, .int 4), (1, .int 3), (2, .ref 79), (0, .ref 50)] [] (eMB (z_ui (z_ui (z_ui (z_ui (z_ui W3 79 3 0) 61 0 ((μ.1 61 0) + 1000)) 61 1 ((μ.1 61 1) + 1000)) 61 2 ((μ.1 61 2) + 1000)) 61 3 ((μ.1 61 3) + (-3000))) true true 0 e)
            exact hr 1 114 _ _ _ none (by decide +kernel) (by rfl) (by refine ⟨rfl, ?_⟩; unfold nM1110; exact SM_eMB (SM_ui (SM_ui (SM_ui (SM_ui (SM_ui (SM_tr (SM_ui (SM_tr (SM_ui (SM_tr (SM_ui (SM_tr (SM_rf _) hO0)) hO1)) hO2)) hO3)))))))
          · skip
            refine z_rcs hc hH 3 (pc' := 106) (lv' := [(3, .int 4), (1, .int 3), (2, .ref 79), (0, .ref 50)]) (st' := [.ref 50, .ref 79, .ref 50]) (μ' := z_ui (z_ui (z_ui (z_ui (z_ui W3 79 3 0) 61 0 ((μ.1 61 0) + 1000)) 61 1 ((μ.1 61 1) + 1000)) 61 2 ((μ.1 61 2) + 1000)) 61 3 ((μ.1 61 3) + (-3000))) (by rfl) ?_
            refine zq_gfi hc hH (by rfl) (ci := 6) (f := 40) (by rfl) (by decide +kernel) (by rfl) ?_
            refine zV1 (Z := Z) (Eq.trans (ui_o (by first | decide | omega)) (Eq.trans (ui_o (by first | decide | omega)) (Eq.trans (ui_o (by first | decide | omega)) (Eq.trans (ui_o (by first | decide | omega)) (Eq.trans (ui_o (by first | decide | omega)) (Eq.trans (hO3 50 40 (by omega)).1 (Eq.trans (ui_o (by first | decide | omega)) (Eq.trans (hO2 50 40 (by omega)).1 (Eq.trans (ui_o (by first | decide | omega)) (Eq.trans (hO1 50 40 (by omega)).1 (Eq.trans (ui_o (by first | decide | omega)) (hO0 50 40 (by omega)).1))))))))))) ?_
            rw [(z_zero_o (by decide)).trans hdl]
            refine zq_bald hc hH (by rfl) 4 (by decide +kernel) (vp_in_nI (by omega) (by decide)) ?_
            rw [nI_clamp (by omega)]
            refine zV1 (Z := Z) (Eq.trans (ui_o (by first | decide | omega)) (Eq.trans (ui_o (by first | decide | omega)) (Eq.trans (ui_o (by first | decide | omega)) (Eq.trans (ui_o (by first | decide | omega)) (Eq.trans (ui_k (by first | decide | omega)) (Eq.trans (hO3 79 1 (by omega)).1 (Eq.trans (ui_k (by first | decide | omega)) (Eq.trans (hO2 79 1 (by omega)).1 (ui_s))))))))) ?_
            refine z_rcs0 hc hH 1 (pc' := 111) (lv' := [(3, .int 4), (1, .int 3), (2, .ref 79), (0, .ref 50)]) (st' := [.int 1, .int 1, .ref 50]) (by rfl) ?_
            refine zq_call hc (z_cx_ok hH (by rfl)) (gm_endsB d' (by omega) (z_ui (z_ui (z_ui (z_ui (z_ui W3 79 3 0) 61 0 ((μ.1 61 0) + 1000)) 61 1 ((μ.1 61 1) + 1000)) 61 2 ((μ.1 61 2) + 1000)) 61 3 ((μ.1 61 3) + (-3000))) true true 1 e (by rw [ui_o (by first | decide | omega), ui_o (by first | decide | omega), ui_o (by first | decide | omega), ui_o (by first | decide | omega), ui_o (by first | decide | omega), (hO3 50 40 (by omega)).1, ui_o (by first | decide | omega), (hO2 50 40 (by omega)).1, ui_o (by first | decide | omega), (hO1 50 40 (by omega)).1, ui_o (by first | decide | omega), (hO0 50 40 (by omega)).1]; exact (z_zero_o (by decide)).trans hdl) hdl4 he) (by decide +kernel) (fun r9 μ9 hq => ?_)
            obtain ⟨hr9, hm9⟩ := hq
            rw [hr9, hm9]
            clear hr9 hm9
            show Z 1 114 [(3, .int 4), (1, .int 3), (2, .ref 79), (0, .ref 50)] [] (eMB (z_ui (z_ui (z_ui (z_ui (z_ui W3 79 3 0) 61 0 ((μ.1 61 0) + 1000)) 61 1 ((μ.1 61 1) + 1000)) 61 2 ((μ.1 61 2) + 1000)) 61 3 ((μ.1 61 3) + (-3000))) true true 1 e)
            exact hr 1 114 _ _ _ none (by decide +kernel) (by rfl) (by refine ⟨rfl, ?_⟩; unfold nM1110; exact SM_eMB (SM_ui (SM_ui (SM_ui (SM_ui (SM_ui (SM_tr (SM_ui (SM_tr (SM_ui (SM_tr (SM_ui (SM_tr (SM_rf _) hO0)) hO1)) hO2)) hO3)))))))
          · skip
            refine z_rcs hc hH 3 (pc' := 106) (lv' := [(3, .int 4), (1, .int 3), (2, .ref 79), (0, .ref 50)]) (st' := [.ref 50, .ref 79, .ref 50]) (μ' := z_ui (z_ui (z_ui (z_ui (z_ui W3 79 3 0) 61 0 ((μ.1 61 0) + 1000)) 61 1 ((μ.1 61 1) + 1000)) 61 2 ((μ.1 61 2) + 1000)) 61 3 ((μ.1 61 3) + (-3000))) (by rfl) ?_
            refine zq_gfi hc hH (by rfl) (ci := 6) (f := 40) (by rfl) (by decide +kernel) (by rfl) ?_
            refine zV1 (Z := Z) (Eq.trans (ui_o (by first | decide | omega)) (Eq.trans (ui_o (by first | decide | omega)) (Eq.trans (ui_o (by first | decide | omega)) (Eq.trans (ui_o (by first | decide | omega)) (Eq.trans (ui_o (by first | decide | omega)) (Eq.trans (hO3 50 40 (by omega)).1 (Eq.trans (ui_o (by first | decide | omega)) (Eq.trans (hO2 50 40 (by omega)).1 (Eq.trans (ui_o (by first | decide | omega)) (Eq.trans (hO1 50 40 (by omega)).1 (Eq.trans (ui_o (by first | decide | omega)) (hO0 50 40 (by omega)).1))))))))))) ?_
            rw [(z_zero_o (by decide)).trans hdl]
            refine zq_bald hc hH (by rfl) 4 (by decide +kernel) (vp_in_nI (by omega) (by decide)) ?_
            rw [nI_clamp (by omega)]
            refine zV1 (Z := Z) (Eq.trans (ui_o (by first | decide | omega)) (Eq.trans (ui_o (by first | decide | omega)) (Eq.trans (ui_o (by first | decide | omega)) (Eq.trans (ui_o (by first | decide | omega)) (Eq.trans (ui_k (by first | decide | omega)) (Eq.trans (hO3 79 2 (by omega)).1 (ui_s))))))) ?_
            refine z_rcs0 hc hH 1 (pc' := 111) (lv' := [(3, .int 4), (1, .int 3), (2, .ref 79), (0, .ref 50)]) (st' := [.int 1, .int 1, .ref 50]) (by rfl) ?_
            refine zq_call hc (z_cx_ok hH (by rfl)) (gm_endsB d' (by omega) (z_ui (z_ui (z_ui (z_ui (z_ui W3 79 3 0) 61 0 ((μ.1 61 0) + 1000)) 61 1 ((μ.1 61 1) + 1000)) 61 2 ((μ.1 61 2) + 1000)) 61 3 ((μ.1 61 3) + (-3000))) true true 2 e (by rw [ui_o (by first | decide | omega), ui_o (by first | decide | omega), ui_o (by first | decide | omega), ui_o (by first | decide | omega), ui_o (by first | decide | omega), (hO3 50 40 (by omega)).1, ui_o (by first | decide | omega), (hO2 50 40 (by omega)).1, ui_o (by first | decide | omega), (hO1 50 40 (by omega)).1, ui_o (by first | decide | omega), (hO0 50 40 (by omega)).1]; exact (z_zero_o (by decide)).trans hdl) hdl4 he) (by decide +kernel) (fun r9 μ9 hq => ?_)
            obtain ⟨hr9, hm9⟩ := hq
            rw [hr9, hm9]
            clear hr9 hm9
            show Z 1 114 [(3, .int 4), (1, .int 3), (2, .ref 79), (0, .ref 50)] [] (eMB (z_ui (z_ui (z_ui (z_ui (z_ui W3 79 3 0) 61 0 ((μ.1 61 0) + 1000)) 61 1 ((μ.1 61 1) + 1000)) 61 2 ((μ.1 61 2) + 1000)) 61 3 ((μ.1 61 3) + (-3000))) true true 2 e)
            exact hr 1 114 _ _ _ none (by decide +kernel) (by rfl) (by refine ⟨rfl, ?_⟩; unfold nM1110; exact SM_eMB (SM_ui (SM_ui (SM_ui (SM_ui (SM_ui (SM_tr (SM_ui (SM_tr (SM_ui (SM_tr (SM_ui (SM_tr (SM_rf _) hO0)) hO1)) hO2)) hO3)))))))
          · skip
            refine z_rcs hc hH 3 (pc' := 106) (lv' := [(3, .int 4), (1, .int 3), (2, .ref 79), (0, .ref 50)]) (st' := [.ref 50, .ref 79, .ref 50]) (μ' := z_ui (z_ui (z_ui (z_ui (z_ui W3 79 3 0) 61 0 ((μ.1 61 0) + 1000)) 61 1 ((μ.1 61 1) + 1000)) 61 2 ((μ.1 61 2) + 1000)) 61 3 ((μ.1 61 3) + (-3000))) (by rfl) ?_
            refine zq_gfi hc hH (by rfl) (ci := 6) (f := 40) (by rfl) (by decide +kernel) (by rfl) ?_
            refine zV1 (Z := Z) (Eq.trans (ui_o (by first | decide | omega)) (Eq.trans (ui_o (by first | decide | omega)) (Eq.trans (ui_o (by first | decide | omega)) (Eq.trans (ui_o (by first | decide | omega)) (Eq.trans (ui_o (by first | decide | omega)) (Eq.trans (hO3 50 40 (by omega)).1 (Eq.trans (ui_o (by first | decide | omega)) (Eq.trans (hO2 50 40 (by omega)).1 (Eq.trans (ui_o (by first | decide | omega)) (Eq.trans (hO1 50 40 (by omega)).1 (Eq.trans (ui_o (by first | decide | omega)) (hO0 50 40 (by omega)).1))))))))))) ?_
            rw [(z_zero_o (by decide)).trans hdl]
            refine zq_bald hc hH (by rfl) 4 (by decide +kernel) (vp_in_nI (by omega) (by decide)) ?_
            rw [nI_clamp (by omega)]
            refine zV1 (Z := Z) (Eq.trans (ui_o (by first | decide | omega)) (Eq.trans (ui_o (by first | decide | omega)) (Eq.trans (ui_o (by first | decide | omega)) (Eq.trans (ui_o (by first | decide | omega)) (ui_s))))) ?_
            refine z_rcs0 hc hH 1 (pc' := 111) (lv' := [(3, .int 4), (1, .int 3), (2, .ref 79), (0, .ref 50)]) (st' := [.int 1, .int 0, .ref 50]) (by rfl) ?_
            refine zq_call hc (z_cx_ok hH (by rfl)) (gm_endsB d' (by omega) (z_ui (z_ui (z_ui (z_ui (z_ui W3 79 3 0) 61 0 ((μ.1 61 0) + 1000)) 61 1 ((μ.1 61 1) + 1000)) 61 2 ((μ.1 61 2) + 1000)) 61 3 ((μ.1 61 3) + (-3000))) false true 3 e (by rw [ui_o (by first | decide | omega), ui_o (by first | decide | omega), ui_o (by first | decide | omega), ui_o (by first | decide | omega), ui_o (by first | decide | omega), (hO3 50 40 (by omega)).1, ui_o (by first | decide | omega), (hO2 50 40 (by omega)).1, ui_o (by first | decide | omega), (hO1 50 40 (by omega)).1, ui_o (by first | decide | omega), (hO0 50 40 (by omega)).1]; exact (z_zero_o (by decide)).trans hdl) hdl4 he) (by decide +kernel) (fun r9 μ9 hq => ?_)
            obtain ⟨hr9, hm9⟩ := hq
            rw [hr9, hm9]
            clear hr9 hm9
            show Z 1 114 [(3, .int 4), (1, .int 3), (2, .ref 79), (0, .ref 50)] [] (eMB (z_ui (z_ui (z_ui (z_ui (z_ui W3 79 3 0) 61 0 ((μ.1 61 0) + 1000)) 61 1 ((μ.1 61 1) + 1000)) 61 2 ((μ.1 61 2) + 1000)) 61 3 ((μ.1 61 3) + (-3000))) false true 3 e)
            exact hr 1 114 _ _ _ none (by decide +kernel) (by rfl) (by refine ⟨rfl, ?_⟩; unfold nM1110; exact SM_eMB (SM_ui (SM_ui (SM_ui (SM_ui (SM_ui (SM_tr (SM_ui (SM_tr (SM_ui (SM_tr (SM_ui (SM_tr (SM_rf _) hO0)) hO1)) hO2)) hO3)))))))
        · have h4 : (decide ((lg_cmp w3 0) = 0)) = false := decide_eq_false (cn_eq.mp h4)
          exact absurd (Eq.trans (Eq.symm (hb3)) h4) (by decide)
noncomputable def nM1111 (μ : zM) : zM := z_ui (z_ui (z_ui (z_ui (z_zero μ) 79 0 1) 79 1 1) 79 2 1) 79 3 1
theorem gm_nobody1111 (d : Nat) (hd : 700 ≤ d) (μ : zM) (hH0 : a_H μ) (dl e : Nat) (hdl : μ.1 50 40 = nI dl) (hdl4 : dl < 4) (he : (dl + 1) % 4 = e) (w0 : Int64) (hw0 : ∀ M, SE μ M → a_H M → ∀ d, 699 ≤ d → z_C d mi_X7_waitsAt [.ref 50, .int 0] M (fun r W => r = some (.long w0) ∧ SMj M W ∧ a_H W)) (hb0 : decide (lg_cmp w0 0 = 0) = false) (w1 : Int64) (hw1 : ∀ M, SE μ M → a_H M → ∀ d, 699 ≤ d → z_C d mi_X7_waitsAt [.ref 50, .int 1] M (fun r W => r = some (.long w1) ∧ SMj M W ∧ a_H W)) (hb1 : decide (lg_cmp w1 0 = 0) = false) (w2 : Int64) (hw2 : ∀ M, SE μ M → a_H M → ∀ d, 699 ≤ d → z_C d mi_X7_waitsAt [.ref 50, .int 2] M (fun r W => r = some (.long w2) ∧ SMj M W ∧ a_H W)) (hb2 : decide (lg_cmp w2 0 = 0) = false) (w3 : Int64) (hw3 : ∀ M, SE μ M → a_H M → ∀ d, 699 ≤ d → z_C d mi_X7_waitsAt [.ref 50, .int 3] M (fun r W => r = some (.long w3) ∧ SMj M W ∧ a_H W)) (hb3 : decide (lg_cmp w3 0 = 0) = false) : z_C d mi_X7_nobodyWins [.ref 50] μ (fun r μ' => r = none ∧ SMj (eMB (nM1111 μ) (nbS true true true true dl) true dl e) μ') := by
  obtain ⟨d', rfl⟩ : ∃ d', d = d' + 1 := ⟨d - 1, by omega⟩
  intro Z hc hr
  refine ⟨rfl, ?_⟩
  have hH := zh_X7_nobodyWins
  refine z_rcs hc hH 9 (pc' := 17) (lv' := [(3, .int 0), (2, .ref 79), (1, .int 0), (0, .ref 50)]) (st' := [.int 0, .ref 50, .int 0, .ref 79]) (μ' := z_zero μ) (by rfl) ?_
  refine zq_call hc (z_cx_ok hH (by rfl)) (hw0 _ (SE_zr _) (a_H_zero hH0) d' (by omega)) (by decide +kernel) (fun r9 W0 hq => ?_)
  obtain ⟨rfl, hO0, hA0⟩ := hq
  show Z 1 20 [(3, .int 0), (2, .ref 79), (1, .int 0), (0, .ref 50)] [.long w0, .int 0, .ref 79] W0
  refine z_rcs hc hH 2 (pc' := 22) (lv' := [(3, .int 0), (2, .ref 79), (1, .int 0), (0, .ref 50)]) (st' := [.int (lg_cmp w0 0), .int 0, .ref 79]) (μ' := W0) (by rfl) ?_
  refine zq_if hc hH (by rfl) (tg := 29) (by rfl) (fun h1 => ?_) (fun h1 => ?_)
  · have h1 : (decide ((lg_cmp w0 0) = 0)) = true := decide_eq_true (cm_eq9.mp h1)
    exact absurd (Eq.trans (Eq.symm (hb0)) h1) (by decide)
  · have h1 : (decide ((lg_cmp w0 0) = 0)) = false := decide_eq_false (cn_eq.mp h1)
    refine z_rcs hc hH 2 (pc' := 30) (lv' := [(3, .int 0), (2, .ref 79), (1, .int 0), (0, .ref 50)]) (st' := [.int 1, .int 0, .ref 79]) (μ' := W0) (by rfl) ?_
    refine zq_bast hc hH (by rfl) 4 (by decide +kernel) (show vp_in (nI 0) 4 from vp_in_nI (by decide) (by decide)) (by decide) ?_
    rw [show (0 : Int32).toNatClampNeg = 0 from rfl]
    show Z 1 31 [(3, .int 0), (2, .ref 79), (1, .int 0), (0, .ref 50)] [] (z_ui W0 79 0 1)
    refine z_rcs hc hH 3 (pc' := 34) (lv' := [(3, .int 0), (2, .ref 79), (1, .int 0), (0, .ref 50)]) (st' := [.int 0, .ref 79, .int 0]) (μ' := z_ui W0 79 0 1) (by rfl) ?_
    refine zq_bald hc hH (by rfl) 4 (by decide +kernel) (show vp_in (nI 0) 4 from vp_in_nI (by decide) (by decide)) ?_
    rw [show (0 : Int32).toNatClampNeg = 0 from rfl]
    rw [ui_s]
    refine z_rcs hc hH 14 (pc' := 17) (lv' := [(3, .int 1), (1, .int 1), (2, .ref 79), (0, .ref 50)]) (st' := [.int 1, .ref 50, .int 1, .ref 79]) (μ' := z_ui W0 79 0 1) (by rfl) ?_
    refine zq_call hc (z_cx_ok hH (by rfl)) (hw1 _ (SE_ui (SE_sm (SE_zr _) hO0) (by omega)) (a_H_ui (r := 79) (k := 0) (hA0) ⟨by decide, by decide⟩) d' (by omega)) (by decide +kernel) (fun r9 W1 hq => ?_)
    obtain ⟨rfl, hO1, hA1⟩ := hq
    show Z 1 20 [(3, .int 1), (1, .int 1), (2, .ref 79), (0, .ref 50)] [.long w1, .int 1, .ref 79] W1
    refine z_rcs hc hH 2 (pc' := 22) (lv' := [(3, .int 1), (1, .int 1), (2, .ref 79), (0, .ref 50)]) (st' := [.int (lg_cmp w1 0), .int 1, .ref 79]) (μ' := W1) (by rfl) ?_
    refine zq_if hc hH (by rfl) (tg := 29) (by rfl) (fun h2 => ?_) (fun h2 => ?_)
    · have h2 : (decide ((lg_cmp w1 0) = 0)) = true := decide_eq_true (cm_eq9.mp h2)
      exact absurd (Eq.trans (Eq.symm (hb1)) h2) (by decide)
    · have h2 : (decide ((lg_cmp w1 0) = 0)) = false := decide_eq_false (cn_eq.mp h2)
      refine z_rcs hc hH 2 (pc' := 30) (lv' := [(3, .int 1), (1, .int 1), (2, .ref 79), (0, .ref 50)]) (st' := [.int 1, .int 1, .ref 79]) (μ' := W1) (by rfl) ?_
      refine zq_bast hc hH (by rfl) 4 (by decide +kernel) (show vp_in (nI 1) 4 from vp_in_nI (by decide) (by decide)) (by decide) ?_
      rw [show (1 : Int32).toNatClampNeg = 1 from rfl]
      show Z 1 31 [(3, .int 1), (1, .int 1), (2, .ref 79), (0, .ref 50)] [] (z_ui W1 79 1 1)
      refine z_rcs hc hH 3 (pc' := 34) (lv' := [(3, .int 1), (1, .int 1), (2, .ref 79), (0, .ref 50)]) (st' := [.int 1, .ref 79, .int 1]) (μ' := z_ui W1 79 1 1) (by rfl) ?_
      refine zq_bald hc hH (by rfl) 4 (by decide +kernel) (show vp_in (nI 1) 4 from vp_in_nI (by decide) (by decide)) ?_
      rw [show (1 : Int32).toNatClampNeg = 1 from rfl]
      rw [ui_s]
      refine z_rcs hc hH 14 (pc' := 17) (lv' := [(3, .int 2), (1, .int 2), (2, .ref 79), (0, .ref 50)]) (st' := [.int 2, .ref 50, .int 2, .ref 79]) (μ' := z_ui W1 79 1 1) (by rfl) ?_
      refine zq_call hc (z_cx_ok hH (by rfl)) (hw2 _ (SE_ui (SE_sm (SE_ui (SE_sm (SE_zr _) hO0) (by omega)) hO1) (by omega)) (a_H_ui (r := 79) (k := 1) (hA1) ⟨by decide, by decide⟩) d' (by omega)) (by decide +kernel) (fun r9 W2 hq => ?_)
      obtain ⟨rfl, hO2, hA2⟩ := hq
      show Z 1 20 [(3, .int 2), (1, .int 2), (2, .ref 79), (0, .ref 50)] [.long w2, .int 2, .ref 79] W2
      refine z_rcs hc hH 2 (pc' := 22) (lv' := [(3, .int 2), (1, .int 2), (2, .ref 79), (0, .ref 50)]) (st' := [.int (lg_cmp w2 0), .int 2, .ref 79]) (μ' := W2) (by rfl) ?_
      refine zq_if hc hH (by rfl) (tg := 29) (by rfl) (fun h3 => ?_) (fun h3 => ?_)
      · have h3 : (decide ((lg_cmp w2 0) = 0)) = true := decide_eq_true (cm_eq9.mp h3)
        exact absurd (Eq.trans (Eq.symm (hb2)) h3) (by decide)
      · have h3 : (decide ((lg_cmp w2 0) = 0)) = false := decide_eq_false (cn_eq.mp h3)
        refine z_rcs hc hH 2 (pc' := 30) (lv' := [(3, .int 2), (1, .int 2), (2, .ref 79), (0, .ref 50)]) (st' := [.int 1, .int 2, .ref 79]) (μ' := W2) (by rfl) ?_
        refine zq_bast hc hH (by rfl) 4 (by decide +kernel) (show vp_in (nI 2) 4 from vp_in_nI (by decide) (by decide)) (by decide) ?_
        rw [show (2 : Int32).toNatClampNeg = 2 from rfl]
        show Z 1 31 [(3, .int 2), (1, .int 2), (2, .ref 79), (0, .ref 50)] [] (z_ui W2 79 2 1)
        refine z_rcs hc hH 3 (pc' := 34) (lv' := [(3, .int 2), (1, .int 2), (2, .ref 79), (0, .ref 50)]) (st' := [.int 2, .ref 79, .int 2]) (μ' := z_ui W2 79 2 1) (by rfl) ?_
        refine zq_bald hc hH (by rfl) 4 (by decide +kernel) (show vp_in (nI 2) 4 from vp_in_nI (by decide) (by decide)) ?_
        rw [show (2 : Int32).toNatClampNeg = 2 from rfl]
        rw [ui_s]
        refine z_rcs hc hH 14 (pc' := 17) (lv' := [(3, .int 3), (1, .int 3), (2, .ref 79), (0, .ref 50)]) (st' := [.int 3, .ref 50, .int 3, .ref 79]) (μ' := z_ui W2 79 2 1) (by rfl) ?_
        refine zq_call hc (z_cx_ok hH (by rfl)) (hw3 _ (SE_ui (SE_sm (SE_ui (SE_sm (SE_ui (SE_sm (SE_zr _) hO0) (by omega)) hO1) (by omega)) hO2) (by omega)) (a_H_ui (r := 79) (k := 2) (hA2) ⟨by decide, by decide⟩) d' (by omega)) (by decide +kernel) (fun r9 W3 hq => ?_)
        obtain ⟨rfl, hO3, hA3⟩ := hq
        show Z 1 20 [(3, .int 3), (1, .int 3), (2, .ref 79), (0, .ref 50)] [.long w3, .int 3, .ref 79] W3
        refine z_rcs hc hH 2 (pc' := 22) (lv' := [(3, .int 3), (1, .int 3), (2, .ref 79), (0, .ref 50)]) (st' := [.int (lg_cmp w3 0), .int 3, .ref 79]) (μ' := W3) (by rfl) ?_
        refine zq_if hc hH (by rfl) (tg := 29) (by rfl) (fun h4 => ?_) (fun h4 => ?_)
        · have h4 : (decide ((lg_cmp w3 0) = 0)) = true := decide_eq_true (cm_eq9.mp h4)
          exact absurd (Eq.trans (Eq.symm (hb3)) h4) (by decide)
        · have h4 : (decide ((lg_cmp w3 0) = 0)) = false := decide_eq_false (cn_eq.mp h4)
          refine z_rcs hc hH 2 (pc' := 30) (lv' := [(3, .int 3), (1, .int 3), (2, .ref 79), (0, .ref 50)]) (st' := [.int 1, .int 3, .ref 79]) (μ' := W3) (by rfl) ?_
          refine zq_bast hc hH (by rfl) 4 (by decide +kernel) (show vp_in (nI 3) 4 from vp_in_nI (by decide) (by decide)) (by decide) ?_
          rw [show (3 : Int32).toNatClampNeg = 3 from rfl]
          show Z 1 31 [(3, .int 3), (1, .int 3), (2, .ref 79), (0, .ref 50)] [] (z_ui W3 79 3 1)
          refine z_rcs hc hH 3 (pc' := 34) (lv' := [(3, .int 3), (1, .int 3), (2, .ref 79), (0, .ref 50)]) (st' := [.int 3, .ref 79, .int 3]) (μ' := z_ui W3 79 3 1) (by rfl) ?_
          refine zq_bald hc hH (by rfl) 4 (by decide +kernel) (show vp_in (nI 3) 4 from vp_in_nI (by decide) (by decide)) ?_
          rw [show (3 : Int32).toNatClampNeg = 3 from rfl]
          rw [ui_s]
          refine z_rcs hc hH 15 (pc' := 103) (lv' := [(3, .int 4), (1, .int 4), (2, .ref 79), (0, .ref 50)]) (st' := []) (μ' := z_ui W3 79 3 1) (by rfl) ?_
          obtain rfl | rfl | rfl | rfl : dl = 0 ∨ dl = 1 ∨ dl = 2 ∨ dl = 3 := by omega
          · skip
            refine z_rcs hc hH 3 (pc' := 106) (lv' := [(3, .int 4), (1, .int 4), (2, .ref 79), (0, .ref 50)]) (st' := [.ref 50, .ref 79, .ref 50]) (μ' := z_ui W3 79 3 1) (by rfl) ?_
            refine zq_gfi hc hH (by rfl) (ci := 6) (f := 40) (by rfl) (by decide +kernel) (by rfl) ?_
            refine zV1 (Z := Z) (Eq.trans (ui_o (by first | decide | omega)) (Eq.trans (hO3 50 40 (by omega)).1 (Eq.trans (ui_o (by first | decide | omega)) (Eq.trans (hO2 50 40 (by omega)).1 (Eq.trans (ui_o (by first | decide | omega)) (Eq.trans (hO1 50 40 (by omega)).1 (Eq.trans (ui_o (by first | decide | omega)) (hO0 50 40 (by omega)).1))))))) ?_
            rw [(z_zero_o (by decide)).trans hdl]
            refine zq_bald hc hH (by rfl) 4 (by decide +kernel) (vp_in_nI (by omega) (by decide)) ?_
            rw [nI_clamp (by omega)]
            refine zV1 (Z := Z) (Eq.trans (ui_k (by first | decide | omega)) (Eq.trans (hO3 79 0 (by omega)).1 (Eq.trans (ui_k (by first | decide | omega)) (Eq.trans (hO2 79 0 (by omega)).1 (Eq.trans (ui_k (by first | decide | omega)) (Eq.trans (hO1 79 0 (by omega)).1 (ui_s))))))) ?_
            refine z_rcs hc hH 1 (pc' := 111) (lv' := [(3, .int 4), (1, .int 4), (2, .ref 79), (0, .ref 50)]) (st' := [.int 1, .int 1, .ref 50]) (μ' := z_ui W3 79 3 1) (by rfl) ?_
            refine zq_call hc (z_cx_ok hH (by rfl)) (gm_endsB d' (by omega) (z_ui W3 79 3 1) true true 0 e (by rw [ui_o (by first | decide | omega), (hO3 50 40 (by omega)).1, ui_o (by first | decide | omega), (hO2 50 40 (by omega)).1, ui_o (by first | decide | omega), (hO1 50 40 (by omega)).1, ui_o (by first | decide | omega), (hO0 50 40 (by omega)).1]; exact (z_zero_o (by decide)).trans hdl) hdl4 he) (by decide +kernel) (fun r9 μ9 hq => ?_)
            obtain ⟨hr9, hm9⟩ := hq
            rw [hr9, hm9]
            clear hr9 hm9
            show Z 1 114 [(3, .int 4), (1, .int 4), (2, .ref 79), (0, .ref 50)] [] (eMB (z_ui W3 79 3 1) true true 0 e)
            exact hr 1 114 _ _ _ none (by decide +kernel) (by rfl) (by refine ⟨rfl, ?_⟩; unfold nM1111; exact SM_eMB (SM_ui (SM_tr (SM_ui (SM_tr (SM_ui (SM_tr (SM_ui (SM_tr (SM_rf _) hO0)) hO1)) hO2)) hO3)))
          · skip
            refine z_rcs hc hH 3 (pc' := 106) (lv' := [(3, .int 4), (1, .int 4), (2, .ref 79), (0, .ref 50)]) (st' := [.ref 50, .ref 79, .ref 50]) (μ' := z_ui W3 79 3 1) (by rfl) ?_
            refine zq_gfi hc hH (by rfl) (ci := 6) (f := 40) (by rfl) (by decide +kernel) (by rfl) ?_
            refine zV1 (Z := Z) (Eq.trans (ui_o (by first | decide | omega)) (Eq.trans (hO3 50 40 (by omega)).1 (Eq.trans (ui_o (by first | decide | omega)) (Eq.trans (hO2 50 40 (by omega)).1 (Eq.trans (ui_o (by first | decide | omega)) (Eq.trans (hO1 50 40 (by omega)).1 (Eq.trans (ui_o (by first | decide | omega)) (hO0 50 40 (by omega)).1))))))) ?_
            rw [(z_zero_o (by decide)).trans hdl]
            refine zq_bald hc hH (by rfl) 4 (by decide +kernel) (vp_in_nI (by omega) (by decide)) ?_
            rw [nI_clamp (by omega)]
            refine zV1 (Z := Z) (Eq.trans (ui_k (by first | decide | omega)) (Eq.trans (hO3 79 1 (by omega)).1 (Eq.trans (ui_k (by first | decide | omega)) (Eq.trans (hO2 79 1 (by omega)).1 (ui_s))))) ?_
            refine z_rcs hc hH 1 (pc' := 111) (lv' := [(3, .int 4), (1, .int 4), (2, .ref 79), (0, .ref 50)]) (st' := [.int 1, .int 1, .ref 50]) (μ' := z_ui W3 79 3 1) (by rfl) ?_
            refine zq_call hc (z_cx_ok hH (by rfl)) (gm_endsB d' (by omega) (z_ui W3 79 3 1) true true 1 e (by rw [ui_o (by first | decide | omega), (hO3 50 40 (by omega)).1, ui_o (by first | decide | omega), (hO2 50 40 (by omega)).1, ui_o (by first | decide | omega), (hO1 50 40 (by omega)).1, ui_o (by first | decide | omega), (hO0 50 40 (by omega)).1]; exact (z_zero_o (by decide)).trans hdl) hdl4 he) (by decide +kernel) (fun r9 μ9 hq => ?_)
            obtain ⟨hr9, hm9⟩ := hq
            rw [hr9, hm9]
            clear hr9 hm9
            show Z 1 114 [(3, .int 4), (1, .int 4), (2, .ref 79), (0, .ref 50)] [] (eMB (z_ui W3 79 3 1) true true 1 e)
            exact hr 1 114 _ _ _ none (by decide +kernel) (by rfl) (by refine ⟨rfl, ?_⟩; unfold nM1111; exact SM_eMB (SM_ui (SM_tr (SM_ui (SM_tr (SM_ui (SM_tr (SM_ui (SM_tr (SM_rf _) hO0)) hO1)) hO2)) hO3)))
          · skip
            refine z_rcs hc hH 3 (pc' := 106) (lv' := [(3, .int 4), (1, .int 4), (2, .ref 79), (0, .ref 50)]) (st' := [.ref 50, .ref 79, .ref 50]) (μ' := z_ui W3 79 3 1) (by rfl) ?_
            refine zq_gfi hc hH (by rfl) (ci := 6) (f := 40) (by rfl) (by decide +kernel) (by rfl) ?_
            refine zV1 (Z := Z) (Eq.trans (ui_o (by first | decide | omega)) (Eq.trans (hO3 50 40 (by omega)).1 (Eq.trans (ui_o (by first | decide | omega)) (Eq.trans (hO2 50 40 (by omega)).1 (Eq.trans (ui_o (by first | decide | omega)) (Eq.trans (hO1 50 40 (by omega)).1 (Eq.trans (ui_o (by first | decide | omega)) (hO0 50 40 (by omega)).1))))))) ?_
            rw [(z_zero_o (by decide)).trans hdl]
            refine zq_bald hc hH (by rfl) 4 (by decide +kernel) (vp_in_nI (by omega) (by decide)) ?_
            rw [nI_clamp (by omega)]
            refine zV1 (Z := Z) (Eq.trans (ui_k (by first | decide | omega)) (Eq.trans (hO3 79 2 (by omega)).1 (ui_s))) ?_
            refine z_rcs hc hH 1 (pc' := 111) (lv' := [(3, .int 4), (1, .int 4), (2, .ref 79), (0, .ref 50)]) (st' := [.int 1, .int 1, .ref 50]) (μ' := z_ui W3 79 3 1) (by rfl) ?_
            refine zq_call hc (z_cx_ok hH (by rfl)) (gm_endsB d' (by omega) (z_ui W3 79 3 1) true true 2 e (by rw [ui_o (by first | decide | omega), (hO3 50 40 (by omega)).1, ui_o (by first | decide | omega), (hO2 50 40 (by omega)).1, ui_o (by first | decide | omega), (hO1 50 40 (by omega)).1, ui_o (by first | decide | omega), (hO0 50 40 (by omega)).1]; exact (z_zero_o (by decide)).trans hdl) hdl4 he) (by decide +kernel) (fun r9 μ9 hq => ?_)
            obtain ⟨hr9, hm9⟩ := hq
            rw [hr9, hm9]
            clear hr9 hm9
            show Z 1 114 [(3, .int 4), (1, .int 4), (2, .ref 79), (0, .ref 50)] [] (eMB (z_ui W3 79 3 1) true true 2 e)
            exact hr 1 114 _ _ _ none (by decide +kernel) (by rfl) (by refine ⟨rfl, ?_⟩; unfold nM1111; exact SM_eMB (SM_ui (SM_tr (SM_ui (SM_tr (SM_ui (SM_tr (SM_ui (SM_tr (SM_rf _) hO0)) hO1)) hO2)) hO3)))
          · skip
            refine z_rcs hc hH 3 (pc' := 106) (lv' := [(3, .int 4), (1, .int 4), (2, .ref 79), (0, .ref 50)]) (st' := [.ref 50, .ref 79, .ref 50]) (μ' := z_ui W3 79 3 1) (by rfl) ?_
            refine zq_gfi hc hH (by rfl) (ci := 6) (f := 40) (by rfl) (by decide +kernel) (by rfl) ?_
            refine zV1 (Z := Z) (Eq.trans (ui_o (by first | decide | omega)) (Eq.trans (hO3 50 40 (by omega)).1 (Eq.trans (ui_o (by first | decide | omega)) (Eq.trans (hO2 50 40 (by omega)).1 (Eq.trans (ui_o (by first | decide | omega)) (Eq.trans (hO1 50 40 (by omega)).1 (Eq.trans (ui_o (by first | decide | omega)) (hO0 50 40 (by omega)).1))))))) ?_
            rw [(z_zero_o (by decide)).trans hdl]
            refine zq_bald hc hH (by rfl) 4 (by decide +kernel) (vp_in_nI (by omega) (by decide)) ?_
            rw [nI_clamp (by omega)]
            rw [ui_s]
            refine z_rcs hc hH 1 (pc' := 111) (lv' := [(3, .int 4), (1, .int 4), (2, .ref 79), (0, .ref 50)]) (st' := [.int 1, .int 1, .ref 50]) (μ' := z_ui W3 79 3 1) (by rfl) ?_
            refine zq_call hc (z_cx_ok hH (by rfl)) (gm_endsB d' (by omega) (z_ui W3 79 3 1) true true 3 e (by rw [ui_o (by first | decide | omega), (hO3 50 40 (by omega)).1, ui_o (by first | decide | omega), (hO2 50 40 (by omega)).1, ui_o (by first | decide | omega), (hO1 50 40 (by omega)).1, ui_o (by first | decide | omega), (hO0 50 40 (by omega)).1]; exact (z_zero_o (by decide)).trans hdl) hdl4 he) (by decide +kernel) (fun r9 μ9 hq => ?_)
            obtain ⟨hr9, hm9⟩ := hq
            rw [hr9, hm9]
            clear hr9 hm9
            show Z 1 114 [(3, .int 4), (1, .int 4), (2, .ref 79), (0, .ref 50)] [] (eMB (z_ui W3 79 3 1) true true 3 e)
            exact hr 1 114 _ _ _ none (by decide +kernel) (by rfl) (by refine ⟨rfl, ?_⟩; unfold nM1111; exact SM_eMB (SM_ui (SM_tr (SM_ui (SM_tr (SM_ui (SM_tr (SM_ui (SM_tr (SM_rf _) hO0)) hO1)) hO2)) hO3)))

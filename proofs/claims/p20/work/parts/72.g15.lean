/-! the game: the reference, leaves -/
set_option maxRecDepth 8000
theorem gm_anySays (d : Nat) (hd : 1 ≤ d) (μ : zM) : z_C d mi_X7_anySays [.ref 50] μ (zR μ (.int (nB (!(decide ((μ.1 71 0) = 0)) || (!(decide ((μ.1 71 1) = 0)) || (!(decide ((μ.1 71 2) = 0)) || (!(decide ((μ.1 71 3) = 0))))))))) := by
  refine z_C_in (by decide) (by omega) (fun d' Z ed hc hr => ?_)
  have hH : zH mi_X7_anySays zt_X7_anySays 79 7 1 := hh_X7_anySays
  refine z_rcs hc hH 1 (pc' := 1) (lv' := [(0, .ref 50)]) (st' := [.ref 50]) (μ' := μ) (by rfl) ?_
  refine zq_gfr hc hH (by rfl) (ci := 6) (f := 39) (q := 71) (by rfl) (by decide +kernel) (by rfl) (by decide +kernel) ?_
  refine z_rcs hc hH 1 (pc' := 5) (lv' := [(0, .ref 50)]) (st' := [.int 0, .ref 71]) (μ' := μ) (by rfl) ?_
  refine zq_bald hc hH (by rfl) 4 (by decide +kernel) (show vp_in (nI 0) 4 from vp_in_nI (by decide) (by decide)) ?_
  rw [show (0 : Int32).toNatClampNeg = 0 from rfl]
  have hJ1 : Z 0 41 [(0, .ref 50)] [.int (nB (!(decide ((μ.1 71 0) = 0)) || (!(decide ((μ.1 71 1) = 0)) || (!(decide ((μ.1 71 2) = 0)) || (!(decide ((μ.1 71 3) = 0)))))))] μ := by
    generalize hee2 : (!(decide ((μ.1 71 0) = 0)) || (!(decide ((μ.1 71 1) = 0)) || (!(decide ((μ.1 71 2) = 0)) || (!(decide ((μ.1 71 3) = 0)))))) = ee2
    exact hr 0 41 _ _ _ (some (.int (nB ee2))) (by decide +kernel) ((fun b : Bool => (by cases b <;> rfl : z_rn mi_X7_anySays 41 [.int (nB b)] = some (some (.int (nB b))))) ee2) (⟨rfl, (by subst hee2; rfl)⟩)
  refine zq_if hc hH (by rfl) (tg := 36) (by rfl) (fun h3 => ?_) (fun h3 => ?_)
  · have h3 : (decide ((μ.1 71 0) = 0)) = false := decide_eq_false (cm_ne.mp h3)
    refine z_rcs hc hH 2 (pc' := 41) (lv' := [(0, .ref 50)]) (st' := [.int 1]) (μ' := μ) (by rfl) ?_
    exact zJ hJ1 rfl (by first | with_reducible rfl | (simp only [h3, lb_f, Int64.or_zero, Int32.add_zero, nB_t, nB_f, Bool.not_true, Bool.not_false, Bool.and_true, Bool.true_and, Bool.false_and, Bool.and_false, Bool.or_true, Bool.true_or, Bool.false_or, Bool.or_false, cond_true, cond_false]; done) | rfl) rfl
  · have h3 : (decide ((μ.1 71 0) = 0)) = true := decide_eq_true (cn_ne.mp h3)
    refine z_rcs hc hH 1 (pc' := 10) (lv' := [(0, .ref 50)]) (st' := [.ref 50]) (μ' := μ) (by rfl) ?_
    refine zq_gfr hc hH (by rfl) (ci := 6) (f := 39) (q := 71) (by rfl) (by decide +kernel) (by rfl) (by decide +kernel) ?_
    refine z_rcs hc hH 1 (pc' := 14) (lv' := [(0, .ref 50)]) (st' := [.int 1, .ref 71]) (μ' := μ) (by rfl) ?_
    refine zq_bald hc hH (by rfl) 4 (by decide +kernel) (show vp_in (nI 1) 4 from vp_in_nI (by decide) (by decide)) ?_
    rw [show (1 : Int32).toNatClampNeg = 1 from rfl]
    refine zq_if hc hH (by rfl) (tg := 36) (by rfl) (fun h4 => ?_) (fun h4 => ?_)
    · have h4 : (decide ((μ.1 71 1) = 0)) = false := decide_eq_false (cm_ne.mp h4)
      refine z_rcs hc hH 2 (pc' := 41) (lv' := [(0, .ref 50)]) (st' := [.int 1]) (μ' := μ) (by rfl) ?_
      exact zJ hJ1 rfl (by first | with_reducible rfl | (simp only [h3, h4, lb_f, Int64.or_zero, Int32.add_zero, nB_t, nB_f, Bool.not_true, Bool.not_false, Bool.and_true, Bool.true_and, Bool.false_and, Bool.and_false, Bool.or_true, Bool.true_or, Bool.false_or, Bool.or_false, cond_true, cond_false]; done) | rfl) rfl
    · have h4 : (decide ((μ.1 71 1) = 0)) = true := decide_eq_true (cn_ne.mp h4)
      refine z_rcs hc hH 1 (pc' := 19) (lv' := [(0, .ref 50)]) (st' := [.ref 50]) (μ' := μ) (by rfl) ?_
      refine zq_gfr hc hH (by rfl) (ci := 6) (f := 39) (q := 71) (by rfl) (by decide +kernel) (by rfl) (by decide +kernel) ?_
      refine z_rcs hc hH 1 (pc' := 23) (lv' := [(0, .ref 50)]) (st' := [.int 2, .ref 71]) (μ' := μ) (by rfl) ?_
      refine zq_bald hc hH (by rfl) 4 (by decide +kernel) (show vp_in (nI 2) 4 from vp_in_nI (by decide) (by decide)) ?_
      rw [show (2 : Int32).toNatClampNeg = 2 from rfl]
      refine zq_if hc hH (by rfl) (tg := 36) (by rfl) (fun h5 => ?_) (fun h5 => ?_)
      · have h5 : (decide ((μ.1 71 2) = 0)) = false := decide_eq_false (cm_ne.mp h5)
        refine z_rcs hc hH 2 (pc' := 41) (lv' := [(0, .ref 50)]) (st' := [.int 1]) (μ' := μ) (by rfl) ?_
        exact zJ hJ1 rfl (by first | with_reducible rfl | (simp only [h3, h4, h5, lb_f, Int64.or_zero, Int32.add_zero, nB_t, nB_f, Bool.not_true, Bool.not_false, Bool.and_true, Bool.true_and, Bool.false_and, Bool.and_false, Bool.or_true, Bool.true_or, Bool.false_or, Bool.or_false, cond_true, cond_false]; done) | rfl) rfl
      · have h5 : (decide ((μ.1 71 2) = 0)) = true := decide_eq_true (cn_ne.mp h5)
        refine z_rcs hc hH 1 (pc' := 28) (lv' := [(0, .ref 50)]) (st' := [.ref 50]) (μ' := μ) (by rfl) ?_
        refine zq_gfr hc hH (by rfl) (ci := 6) (f := 39) (q := 71) (by rfl) (by decide +kernel) (by rfl) (by decide +kernel) ?_
        refine z_rcs hc hH 1 (pc' := 32) (lv' := [(0, .ref 50)]) (st' := [.int 3, .ref 71]) (μ' := μ) (by rfl) ?_
        refine zq_bald hc hH (by rfl) 4 (by decide +kernel) (show vp_in (nI 3) 4 from vp_in_nI (by decide) (by decide)) ?_
        rw [show (3 : Int32).toNatClampNeg = 3 from rfl]
        refine zq_if hc hH (by rfl) (tg := 40) (by rfl) (fun h6 => ?_) (fun h6 => ?_)
        · have h6 : (decide ((μ.1 71 3) = 0)) = true := decide_eq_true (cm_eq9.mp h6)
          refine z_rcs hc hH 1 (pc' := 41) (lv' := [(0, .ref 50)]) (st' := [.int 0]) (μ' := μ) (by rfl) ?_
          exact zJ hJ1 rfl (by first | with_reducible rfl | (simp only [h3, h4, h5, h6, lb_f, Int64.or_zero, Int32.add_zero, nB_t, nB_f, Bool.not_true, Bool.not_false, Bool.and_true, Bool.true_and, Bool.false_and, Bool.and_false, Bool.or_true, Bool.true_or, Bool.false_or, Bool.or_false, cond_true, cond_false]; done) | rfl) rfl
        · have h6 : (decide ((μ.1 71 3) = 0)) = false := decide_eq_false (cn_eq.mp h6)
          refine z_rcs hc hH 2 (pc' := 41) (lv' := [(0, .ref 50)]) (st' := [.int 1]) (μ' := μ) (by rfl) ?_
          exact zJ hJ1 rfl (by first | with_reducible rfl | (simp only [h3, h4, h5, h6, lb_f, Int64.or_zero, Int32.add_zero, nB_t, nB_f, Bool.not_true, Bool.not_false, Bool.and_true, Bool.true_and, Bool.false_and, Bool.and_false, Bool.or_true, Bool.true_or, Bool.false_or, Bool.or_false, cond_true, cond_false]; done) | rfl) rfl
noncomputable def toM (μ : zM) : zM := z_ui (z_ui (z_ui (z_ui (z_ui μ 50 56 0) 69 0 0) 69 1 0) 69 2 0) 69 3 0
theorem gm_touched (d : Nat) (hd : 1 ≤ d) (μ : zM) : z_C d mi_X7_touched [.ref 50] μ (fun r μ' => r = none ∧ μ' = toM μ ) := by
  refine z_C_in (by decide) (by omega) (fun d' Z ed hc hr => ?_)
  have hH : zH mi_X7_touched zt_X7_touched 79 7 2 := hh_X7_touched
  refine z_rcs hc hH 2 (pc' := 2) (lv' := [(0, .ref 50)]) (st' := [.int 0, .ref 50]) (μ' := μ) (by rfl) ?_
  refine zq_pfb hc hH (by rfl) (ci := 6) (f := 56) (by rfl) (by decide +kernel) (by rfl) (by decide) ?_
  show Z 0 5 [(0, .ref 50)] [] (z_ui μ 50 56 0)
  refine z_rcs hc hH 6 (pc' := 13) (lv' := [(1, .int 0), (0, .ref 50)]) (st' := [.ref 50]) (μ' := z_ui μ 50 56 0) (by rfl) ?_
  refine zq_gfr hc hH (by rfl) (ci := 6) (f := 37) (q := 69) (by rfl) (by decide +kernel) (by rfl) (by decide +kernel) ?_
  refine z_rcs hc hH 2 (pc' := 18) (lv' := [(1, .int 0), (0, .ref 50)]) (st' := [.int 0, .int 0, .ref 69]) (μ' := z_ui μ 50 56 0) (by rfl) ?_
  refine zq_bast hc hH (by rfl) 4 (by decide +kernel) (show vp_in (nI 0) 4 from vp_in_nI (by decide) (by decide)) (by decide) ?_
  rw [show (0 : Int32).toNatClampNeg = 0 from rfl]
  show Z 0 19 [(1, .int 0), (0, .ref 50)] [] (z_ui (z_ui μ 50 56 0) 69 0 0)
  refine z_rcs0 hc hH 6 (pc' := 13) (lv' := [(1, .int 1), (0, .ref 50)]) (st' := [.ref 50]) (by rfl) ?_
  refine zq_gfr hc hH (by rfl) (ci := 6) (f := 37) (q := 69) (by rfl) (by decide +kernel) (by rfl) (by decide +kernel) ?_
  refine z_rcs0 hc hH 2 (pc' := 18) (lv' := [(1, .int 1), (0, .ref 50)]) (st' := [.int 0, .int 1, .ref 69]) (by rfl) ?_
  refine zq_bast hc hH (by rfl) 4 (by decide +kernel) (show vp_in (nI 1) 4 from vp_in_nI (by decide) (by decide)) (by decide) ?_
  rw [show (1 : Int32).toNatClampNeg = 1 from rfl]
  show Z 0 19 [(1, .int 1), (0, .ref 50)] [] (z_ui (z_ui (z_ui μ 50 56 0) 69 0 0) 69 1 0)
  refine z_rcs0 hc hH 6 (pc' := 13) (lv' := [(1, .int 2), (0, .ref 50)]) (st' := [.ref 50]) (by rfl) ?_
  refine zq_gfr hc hH (by rfl) (ci := 6) (f := 37) (q := 69) (by rfl) (by decide +kernel) (by rfl) (by decide +kernel) ?_
  refine z_rcs0 hc hH 2 (pc' := 18) (lv' := [(1, .int 2), (0, .ref 50)]) (st' := [.int 0, .int 2, .ref 69]) (by rfl) ?_
  refine zq_bast hc hH (by rfl) 4 (by decide +kernel) (show vp_in (nI 2) 4 from vp_in_nI (by decide) (by decide)) (by decide) ?_
  rw [show (2 : Int32).toNatClampNeg = 2 from rfl]
  show Z 0 19 [(1, .int 2), (0, .ref 50)] [] (z_ui (z_ui (z_ui (z_ui μ 50 56 0) 69 0 0) 69 1 0) 69 2 0)
  refine z_rcs0 hc hH 6 (pc' := 13) (lv' := [(1, .int 3), (0, .ref 50)]) (st' := [.ref 50]) (by rfl) ?_
  refine zq_gfr hc hH (by rfl) (ci := 6) (f := 37) (q := 69) (by rfl) (by decide +kernel) (by rfl) (by decide +kernel) ?_
  refine z_rcs0 hc hH 2 (pc' := 18) (lv' := [(1, .int 3), (0, .ref 50)]) (st' := [.int 0, .int 3, .ref 69]) (by rfl) ?_
  refine zq_bast hc hH (by rfl) 4 (by decide +kernel) (show vp_in (nI 3) 4 from vp_in_nI (by decide) (by decide)) (by decide) ?_
  rw [show (3 : Int32).toNatClampNeg = 3 from rfl]
  show Z 0 19 [(1, .int 3), (0, .ref 50)] [] (z_ui (z_ui (z_ui (z_ui (z_ui μ 50 56 0) 69 0 0) 69 1 0) 69 2 0) 69 3 0)
  refine z_rcs0 hc hH 5 (pc' := 25) (lv' := [(1, .int 4), (0, .ref 50)]) (st' := []) (by rfl) ?_
  exact hr 0 25 _ _ _ none (by decide +kernel) (by rfl) (⟨rfl, rfl⟩)
theorem gm_windOf (d : Nat) (hd : 1 ≤ d) (μ : zM) (x : Int32) : z_C d mi_X7_windOf [.ref 50, .int x] μ (zR μ (.int (((x - (μ.1 50 40)) + 4) - ((x - (μ.1 50 40)) + 4) / 4 * 4))) := by
  refine z_C_in (by decide) (by omega) (fun d' Z ed hc hr => ?_)
  have hH : zH mi_X7_windOf zt_X7_windOf 79 7 2 := hh_X7_windOf
  refine z_rcs hc hH 2 (pc' := 2) (lv' := [(0, .ref 50), (1, .int x)]) (st' := [.ref 50, .int x]) (μ' := μ) (by rfl) ?_
  refine zq_gfi hc hH (by rfl) (ci := 6) (f := 40) (by rfl) (by decide +kernel) (by rfl) ?_
  refine z_rcs hc hH 5 (pc' := 10) (lv' := [(0, .ref 50), (1, .int x)]) (st' := [.int (((x - (μ.1 50 40)) + 4) - ((x - (μ.1 50 40)) + 4) / 4 * 4)]) (μ' := μ) (by rfl) ?_
  exact hr 0 10 _ _ _ (some (.int (((x - (μ.1 50 40)) + 4) - ((x - (μ.1 50 40)) + 4) / 4 * 4))) (by decide +kernel) (z_rx_ok hH (by rfl)) (⟨rfl, (by rfl)⟩)
theorem gm_behind (d : Nat) (hd : 1 ≤ d) (μ : zM) (x : Int32) : z_C d mi_X7_behind [.int x] μ (zR μ (.int (bif decide (27 ≤ x) then bif decide (x = 30) then (27 : Int32) else bif decide (x = 33) then (31 : Int32) else x + 1 else bif decide ((x - x / 9 * 9) = 8) then x - 8 else x + 1))) := by
  refine z_C_in (by decide) (by omega) (fun d' Z ed hc hr => ?_)
  have hH : zH mi_X7_behind zt_X7_behind 79 7 1 := hh_X7_behind
  refine z_rcs hc hH 2 (pc' := 3) (lv' := [(0, .int x)]) (st' := [.int 27, .int x]) (μ' := μ) (by rfl) ?_
  refine zq_ic hc hH (by rfl) (tg := 26) (by rfl) (fun h1 => ?_) (fun h1 => ?_)
  · have h1 : (decide (27 ≤ x)) = true := decide_eq_true (cm_ge.mp h1)
    refine z_rcs hc hH 2 (pc' := 29) (lv' := [(0, .int x)]) (st' := [.int 30, .int x]) (μ' := μ) (by rfl) ?_
    have hJ2 : Z 0 51 [(0, .int x)] [.int (bif decide (x = 30) then (27 : Int32) else bif decide (x = 33) then (31 : Int32) else x + 1)] μ := by
      generalize hyy3 : (bif decide (x = 30) then (27 : Int32) else bif decide (x = 33) then (31 : Int32) else x + 1 : Int32) = yy3
      exact hr 0 51 _ _ _ (some (.int yy3)) (by decide +kernel) (z_rx_ok hH (by rfl)) (⟨rfl, (by try rw [hyy3]; simp only [h1, lb_f, Int64.or_zero, Int32.add_zero, nB_t, nB_f, Bool.not_true, Bool.not_false, Bool.and_true, Bool.true_and, Bool.false_and, Bool.and_false, Bool.or_true, Bool.true_or, Bool.false_or, Bool.or_false, cond_true, cond_false])⟩)
    refine zq_ic hc hH (by rfl) (tg := 37) (by rfl) (fun h4 => ?_) (fun h4 => ?_)
    · have h4 : (decide (x = 30)) = false := decide_eq_false (cm_ne.mp h4)
      refine z_rcs hc hH 2 (pc' := 40) (lv' := [(0, .int x)]) (st' := [.int 33, .int x]) (μ' := μ) (by rfl) ?_
      refine zq_ic hc hH (by rfl) (tg := 48) (by rfl) (fun h5 => ?_) (fun h5 => ?_)
      · have h5 : (decide (x = 33)) = false := decide_eq_false (cm_ne.mp h5)
        refine z_rcs hc hH 3 (pc' := 51) (lv' := [(0, .int x)]) (st' := [.int (x + 1)]) (μ' := μ) (by rfl) ?_
        exact zJ hJ2 rfl (by first | with_reducible rfl | (simp only [h4, h5, lb_f, Int64.or_zero, Int32.add_zero, nB_t, nB_f, Bool.not_true, Bool.not_false, Bool.and_true, Bool.true_and, Bool.false_and, Bool.and_false, Bool.or_true, Bool.true_or, Bool.false_or, Bool.or_false, cond_true, cond_false]; done) | rfl) rfl
      · have h5 : (decide (x = 33)) = true := decide_eq_true (cn_ne.mp h5)
        refine z_rcs hc hH 2 (pc' := 51) (lv' := [(0, .int x)]) (st' := [.int 31]) (μ' := μ) (by rfl) ?_
        exact zJ hJ2 rfl (by first | with_reducible rfl | (simp only [h4, h5, lb_f, Int64.or_zero, Int32.add_zero, nB_t, nB_f, Bool.not_true, Bool.not_false, Bool.and_true, Bool.true_and, Bool.false_and, Bool.and_false, Bool.or_true, Bool.true_or, Bool.false_or, Bool.or_false, cond_true, cond_false]; done) | rfl) rfl
    · have h4 : (decide (x = 30)) = true := decide_eq_true (cn_ne.mp h4)
      refine z_rcs hc hH 2 (pc' := 51) (lv' := [(0, .int x)]) (st' := [.int 27]) (μ' := μ) (by rfl) ?_
      exact zJ hJ2 rfl (by first | with_reducible rfl | (simp only [h4, lb_f, Int64.or_zero, Int32.add_zero, nB_t, nB_f, Bool.not_true, Bool.not_false, Bool.and_true, Bool.true_and, Bool.false_and, Bool.and_false, Bool.or_true, Bool.true_or, Bool.false_or, Bool.or_false, cond_true, cond_false]; done) | rfl) rfl
  · have h1 : (decide (27 ≤ x)) = false := decide_eq_false (cn_ge.mp h1)
    refine z_rcs hc hH 4 (pc' := 12) (lv' := [(0, .int x)]) (st' := [.int 8, .int (x - x / 9 * 9)]) (μ' := μ) (by rfl) ?_
    have hJ6 : Z 0 25 [(0, .int x)] [.int (bif decide ((x - x / 9 * 9) = 8) then x - 8 else x + 1)] μ := by
      exact hr 0 25 _ _ _ (some (.int (bif decide ((x - x / 9 * 9) = 8) then x - 8 else x + 1))) (by decide +kernel) (z_rx_ok hH (by rfl)) (⟨rfl, (by simp only [h1, lb_f, Int64.or_zero, Int32.add_zero, nB_t, nB_f, Bool.not_true, Bool.not_false, Bool.and_true, Bool.true_and, Bool.false_and, Bool.and_false, Bool.or_true, Bool.true_or, Bool.false_or, Bool.or_false, cond_true, cond_false])⟩)
    refine zq_ic hc hH (by rfl) (tg := 22) (by rfl) (fun h7 => ?_) (fun h7 => ?_)
    · have h7 : (decide ((x - x / 9 * 9) = 8)) = false := decide_eq_false (cm_ne.mp h7)
      refine z_rcs hc hH 3 (pc' := 25) (lv' := [(0, .int x)]) (st' := [.int (x + 1)]) (μ' := μ) (by rfl) ?_
      exact zJ hJ6 rfl (by first | with_reducible rfl | (simp only [h7, lb_f, Int64.or_zero, Int32.add_zero, nB_t, nB_f, Bool.not_true, Bool.not_false, Bool.and_true, Bool.true_and, Bool.false_and, Bool.and_false, Bool.or_true, Bool.true_or, Bool.false_or, Bool.or_false, cond_true, cond_false]; done) | rfl) rfl
    · have h7 : (decide ((x - x / 9 * 9) = 8)) = true := decide_eq_true (cn_ne.mp h7)
      refine z_rcs hc hH 4 (pc' := 25) (lv' := [(0, .int x)]) (st' := [.int (x - 8)]) (μ' := μ) (by rfl) ?_
      exact zJ hJ6 rfl (by first | with_reducible rfl | (simp only [h7, lb_f, Int64.or_zero, Int32.add_zero, nB_t, nB_f, Bool.not_true, Bool.not_false, Bool.and_true, Bool.true_and, Bool.false_and, Bool.and_false, Bool.or_true, Bool.true_or, Bool.false_or, Bool.or_false, cond_true, cond_false]; done) | rfl) rfl
theorem gm_up (d : Nat) (hd : 1 ≤ d) (μ : zM) (x : Int32) : z_C d mi_X7_up [.int x] μ (zR μ (.int (((x + 99) / 100) * 100))) := by
  refine z_C_in (by decide) (by omega) (fun d' Z ed hc hr => ?_)
  have hH : zH mi_X7_up zt_X7_up 79 7 1 := hh_X7_up
  refine z_rcs hc hH 7 (pc' := 10) (lv' := [(0, .int x)]) (st' := [.int (((x + 99) / 100) * 100)]) (μ' := μ) (by rfl) ?_
  exact hr 0 10 _ _ _ (some (.int (((x + 99) / 100) * 100))) (by decide +kernel) (z_rx_ok hH (by rfl)) (⟨rfl, (by rfl)⟩)
noncomputable def eM0 (μ : zM) (om : Bool) (dl e : Nat) : zM := (bif (((!(decide (0 ≤ (μ.1 61 0)))) || (!(decide (0 ≤ (μ.1 61 1))))) || (!(decide (0 ≤ (μ.1 61 2))))) || (!(decide (0 ≤ (μ.1 61 3)))) then (bif decide ((μ.1 61 1) ≤ (μ.1 61 0)) then (bif decide ((μ.1 61 2) ≤ (μ.1 61 0)) then (bif decide ((μ.1 61 3) ≤ (μ.1 61 0)) then z_ui (z_ui (z_ui (z_ui (z_ui (z_ui μ 50 44 0) 50 49 (-1)) 50 52 ((μ.1 50 52) + 1)) 50 54 1) 61 0 ((μ.1 61 0) + (1000 * (μ.1 50 43)))) 50 43 0 else z_ui (z_ui (z_ui (z_ui (z_ui (z_ui μ 50 44 0) 50 49 (-1)) 50 52 ((μ.1 50 52) + 1)) 50 54 1) 61 3 ((μ.1 61 3) + (1000 * (μ.1 50 43)))) 50 43 0) else (bif decide ((μ.1 61 3) ≤ (μ.1 61 2)) then z_ui (z_ui (z_ui (z_ui (z_ui (z_ui μ 50 44 0) 50 49 (-1)) 50 52 ((μ.1 50 52) + 1)) 50 54 1) 61 2 ((μ.1 61 2) + (1000 * (μ.1 50 43)))) 50 43 0 else z_ui (z_ui (z_ui (z_ui (z_ui (z_ui μ 50 44 0) 50 49 (-1)) 50 52 ((μ.1 50 52) + 1)) 50 54 1) 61 3 ((μ.1 61 3) + (1000 * (μ.1 50 43)))) 50 43 0)) else (bif decide ((μ.1 61 2) ≤ (μ.1 61 1)) then (bif decide ((μ.1 61 3) ≤ (μ.1 61 1)) then z_ui (z_ui (z_ui (z_ui (z_ui (z_ui μ 50 44 0) 50 49 (-1)) 50 52 ((μ.1 50 52) + 1)) 50 54 1) 61 1 ((μ.1 61 1) + (1000 * (μ.1 50 43)))) 50 43 0 else z_ui (z_ui (z_ui (z_ui (z_ui (z_ui μ 50 44 0) 50 49 (-1)) 50 52 ((μ.1 50 52) + 1)) 50 54 1) 61 3 ((μ.1 61 3) + (1000 * (μ.1 50 43)))) 50 43 0) else (bif decide ((μ.1 61 3) ≤ (μ.1 61 2)) then z_ui (z_ui (z_ui (z_ui (z_ui (z_ui μ 50 44 0) 50 49 (-1)) 50 52 ((μ.1 50 52) + 1)) 50 54 1) 61 2 ((μ.1 61 2) + (1000 * (μ.1 50 43)))) 50 43 0 else z_ui (z_ui (z_ui (z_ui (z_ui (z_ui μ 50 44 0) 50 49 (-1)) 50 52 ((μ.1 50 52) + 1)) 50 54 1) 61 3 ((μ.1 61 3) + (1000 * (μ.1 50 43)))) 50 43 0))) else (bif (decide ((nI dl) = 3)) && (decide ((μ.1 50 41) = 1)) then (bif decide ((μ.1 61 1) ≤ (μ.1 61 0)) then (bif decide ((μ.1 61 2) ≤ (μ.1 61 0)) then (bif decide ((μ.1 61 3) ≤ (μ.1 61 0)) then z_ui (z_ui (z_ui (z_ui (z_ui (z_ui μ 50 44 0) 50 49 (-1)) 50 52 ((μ.1 50 52) + 1)) 50 54 1) 61 0 ((μ.1 61 0) + (1000 * (μ.1 50 43)))) 50 43 0 else z_ui (z_ui (z_ui (z_ui (z_ui (z_ui μ 50 44 0) 50 49 (-1)) 50 52 ((μ.1 50 52) + 1)) 50 54 1) 61 3 ((μ.1 61 3) + (1000 * (μ.1 50 43)))) 50 43 0) else (bif decide ((μ.1 61 3) ≤ (μ.1 61 2)) then z_ui (z_ui (z_ui (z_ui (z_ui (z_ui μ 50 44 0) 50 49 (-1)) 50 52 ((μ.1 50 52) + 1)) 50 54 1) 61 2 ((μ.1 61 2) + (1000 * (μ.1 50 43)))) 50 43 0 else z_ui (z_ui (z_ui (z_ui (z_ui (z_ui μ 50 44 0) 50 49 (-1)) 50 52 ((μ.1 50 52) + 1)) 50 54 1) 61 3 ((μ.1 61 3) + (1000 * (μ.1 50 43)))) 50 43 0)) else (bif decide ((μ.1 61 2) ≤ (μ.1 61 1)) then (bif decide ((μ.1 61 3) ≤ (μ.1 61 1)) then z_ui (z_ui (z_ui (z_ui (z_ui (z_ui μ 50 44 0) 50 49 (-1)) 50 52 ((μ.1 50 52) + 1)) 50 54 1) 61 1 ((μ.1 61 1) + (1000 * (μ.1 50 43)))) 50 43 0 else z_ui (z_ui (z_ui (z_ui (z_ui (z_ui μ 50 44 0) 50 49 (-1)) 50 52 ((μ.1 50 52) + 1)) 50 54 1) 61 3 ((μ.1 61 3) + (1000 * (μ.1 50 43)))) 50 43 0) else (bif decide ((μ.1 61 3) ≤ (μ.1 61 2)) then z_ui (z_ui (z_ui (z_ui (z_ui (z_ui μ 50 44 0) 50 49 (-1)) 50 52 ((μ.1 50 52) + 1)) 50 54 1) 61 2 ((μ.1 61 2) + (1000 * (μ.1 50 43)))) 50 43 0 else z_ui (z_ui (z_ui (z_ui (z_ui (z_ui μ 50 44 0) 50 49 (-1)) 50 52 ((μ.1 50 52) + 1)) 50 54 1) 61 3 ((μ.1 61 3) + (1000 * (μ.1 50 43)))) 50 43 0))) else z_ui (z_ui (z_ui (z_ui (z_ui (z_ui μ 50 44 0) 50 49 (-1)) 50 52 ((μ.1 50 52) + 1)) 50 41 ((μ.1 50 41) + (nB (decide ((nI dl) = 3))))) 50 40 (nI e)) 50 42 (bif om then (μ.1 50 42) + 1 else 0)))
theorem gm_ends0 (d : Nat) (hd : 1 ≤ d) (μ : zM) (om : Bool) (dl e : Nat) (hdl : μ.1 50 40 = nI dl) (hdl4 : dl < 4) (he : (dl + 1) % 4 = e) : z_C d mi_X7_ends [.ref 50, .int 0, .int (nB om)] μ (fun r μ' => r = none ∧ μ' = eM0 μ om dl e) := by
  refine z_C_in (by decide) (by omega) (fun d' Z ed hc hr => ?_)
  have hH : zH mi_X7_ends zt_X7_ends 79 7 7 := hh_X7_ends
  refine z_rcs hc hH 2 (pc' := 2) (lv' := [(0, .ref 50), (1, .int 0), (2, .int (nB om))]) (st' := [.int 0, .ref 50]) (μ' := μ) (by rfl) ?_
  refine zq_pfi hc hH (by rfl) (ci := 6) (f := 44) (by rfl) (by decide +kernel) (by rfl) ?_
  show Z 0 5 [(0, .ref 50), (1, .int 0), (2, .int (nB om))] [] (z_ui μ 50 44 0)
  refine z_rcs hc hH 2 (pc' := 7) (lv' := [(0, .ref 50), (1, .int 0), (2, .int (nB om))]) (st' := [.int (-1), .ref 50]) (μ' := z_ui μ 50 44 0) (by rfl) ?_
  refine zq_pfi hc hH (by rfl) (ci := 6) (f := 49) (by rfl) (by decide +kernel) (by rfl) ?_
  show Z 0 10 [(0, .ref 50), (1, .int 0), (2, .int (nB om))] [] (z_ui (z_ui μ 50 44 0) 50 49 (-1))
  refine z_rcs0 hc hH 2 (pc' := 12) (lv' := [(0, .ref 50), (1, .int 0), (2, .int (nB om))]) (st' := [.ref 50, .ref 50]) (by rfl) ?_
  refine zq_gfi hc hH (by rfl) (ci := 6) (f := 52) (by rfl) (by decide +kernel) (by rfl) ?_
  refine zV1 (Z := Z) (Eq.trans (ui_k (by first | decide | omega)) (ui_k (by first | decide | omega))) ?_
  refine z_rcs0 hc hH 2 (pc' := 17) (lv' := [(0, .ref 50), (1, .int 0), (2, .int (nB om))]) (st' := [.int ((μ.1 50 52) + 1), .ref 50]) (by rfl) ?_
  refine zq_pfi hc hH (by rfl) (ci := 6) (f := 52) (by rfl) (by decide +kernel) (by rfl) ?_
  show Z 0 20 [(0, .ref 50), (1, .int 0), (2, .int (nB om))] [] (z_ui (z_ui (z_ui μ 50 44 0) 50 49 (-1)) 50 52 ((μ.1 50 52) + 1))
  refine z_rcs0 hc hH 10 (pc' := 36) (lv' := [(4, .int 0), (3, .int 0), (0, .ref 50), (1, .int 0), (2, .int (nB om))]) (st' := [.ref 50]) (by rfl) ?_
  refine zq_gfr hc hH (by rfl) (ci := 6) (f := 29) (q := 61) (by rfl) (by decide +kernel) (by rfl) (by decide +kernel) ?_
  refine z_rcs0 hc hH 1 (pc' := 41) (lv' := [(4, .int 0), (3, .int 0), (0, .ref 50), (1, .int 0), (2, .int (nB om))]) (st' := [.int 0, .ref 61]) (by rfl) ?_
  refine zq_iald hc hH (by rfl) 4 (oka_i (by decide +kernel)) (show vp_in (nI 0) 4 from vp_in_nI (by decide) (by decide)) ?_
  rw [show (0 : Int32).toNatClampNeg = 0 from rfl]
  refine zV1 (Z := Z) (Eq.trans (ui_o (by first | decide | omega)) (Eq.trans (ui_o (by first | decide | omega)) (ui_o (by first | decide | omega)))) ?_
  have hJ1 : Z 0 50 [(4, .int 0), (3, .int 0), (0, .ref 50), (1, .int 0), (2, .int (nB om))] [.int (nB (!(decide (0 ≤ (μ.1 61 0)))))] (z_ui (z_ui (z_ui μ 50 44 0) 50 49 (-1)) 50 52 ((μ.1 50 52) + 1)) := by
    refine z_rcs0 hc hH 7 (pc' := 32) (lv' := [(4, .int 1), (3, .int (nB (!(decide (0 ≤ (μ.1 61 0)))))), (0, .ref 50), (1, .int 0), (2, .int (nB om))]) (st' := [.int (nB (!(decide (0 ≤ (μ.1 61 0)))))]) (by rfl) ?_
    have hJ2 : Z 0 50 [(4, .int 1), (3, .int (nB (!(decide (0 ≤ (μ.1 61 0)))))), (0, .ref 50), (1, .int 0), (2, .int (nB om))] [.int (nB ((!(decide (0 ≤ (μ.1 61 0)))) || (!(decide (0 ≤ (μ.1 61 1))))))] (z_ui (z_ui (z_ui μ 50 44 0) 50 49 (-1)) 50 52 ((μ.1 50 52) + 1)) := by
      refine z_rcs0 hc hH 7 (pc' := 32) (lv' := [(4, .int 2), (3, .int (nB ((!(decide (0 ≤ (μ.1 61 0)))) || (!(decide (0 ≤ (μ.1 61 1))))))), (0, .ref 50), (1, .int 0), (2, .int (nB om))]) (st' := [.int (nB ((!(decide (0 ≤ (μ.1 61 0)))) || (!(decide (0 ≤ (μ.1 61 1))))))]) (by rfl) ?_
      have hJ3 : Z 0 50 [(4, .int 2), (3, .int (nB ((!(decide (0 ≤ (μ.1 61 0)))) || (!(decide (0 ≤ (μ.1 61 1))))))), (0, .ref 50), (1, .int 0), (2, .int (nB om))] [.int (nB (((!(decide (0 ≤ (μ.1 61 0)))) || (!(decide (0 ≤ (μ.1 61 1))))) || (!(decide (0 ≤ (μ.1 61 2))))))] (z_ui (z_ui (z_ui μ 50 44 0) 50 49 (-1)) 50 52 ((μ.1 50 52) + 1)) := by
        refine z_rcs0 hc hH 7 (pc' := 32) (lv' := [(4, .int 3), (3, .int (nB (((!(decide (0 ≤ (μ.1 61 0)))) || (!(decide (0 ≤ (μ.1 61 1))))) || (!(decide (0 ≤ (μ.1 61 2))))))), (0, .ref 50), (1, .int 0), (2, .int (nB om))]) (st' := [.int (nB (((!(decide (0 ≤ (μ.1 61 0)))) || (!(decide (0 ≤ (μ.1 61 1))))) || (!(decide (0 ≤ (μ.1 61 2))))))]) (by rfl) ?_
        have hJ4 : Z 0 50 [(4, .int 3), (3, .int (nB (((!(decide (0 ≤ (μ.1 61 0)))) || (!(decide (0 ≤ (μ.1 61 1))))) || (!(decide (0 ≤ (μ.1 61 2))))))), (0, .ref 50), (1, .int 0), (2, .int (nB om))] [.int (nB ((((!(decide (0 ≤ (μ.1 61 0)))) || (!(decide (0 ≤ (μ.1 61 1))))) || (!(decide (0 ≤ (μ.1 61 2))))) || (!(decide (0 ≤ (μ.1 61 3))))))] (z_ui (z_ui (z_ui μ 50 44 0) 50 49 (-1)) 50 52 ((μ.1 50 52) + 1)) := by
          refine z_rcs0 hc hH 9 (pc' := 62) (lv' := [(4, .int 4), (3, .int (nB ((((!(decide (0 ≤ (μ.1 61 0)))) || (!(decide (0 ≤ (μ.1 61 1))))) || (!(decide (0 ≤ (μ.1 61 2))))) || (!(decide (0 ≤ (μ.1 61 3))))))), (0, .ref 50), (1, .int 0), (2, .int (nB om))]) (st' := [.ref 50]) (by rfl) ?_
          refine zq_gfi hc hH (by rfl) (ci := 6) (f := 40) (by rfl) (by decide +kernel) (by rfl) ?_
          refine zV1 (Z := Z) (Eq.trans (ui_k (by first | decide | omega)) (Eq.trans (ui_k (by first | decide | omega)) (ui_k (by first | decide | omega)))) ?_
          rw [hdl]
          refine z_rcs0 hc hH 1 (pc' := 66) (lv' := [(4, .int 4), (3, .int (nB ((((!(decide (0 ≤ (μ.1 61 0)))) || (!(decide (0 ≤ (μ.1 61 1))))) || (!(decide (0 ≤ (μ.1 61 2))))) || (!(decide (0 ≤ (μ.1 61 3))))))), (0, .ref 50), (1, .int 0), (2, .int (nB om))]) (st' := [.int 3, .int (nI dl)]) (by rfl) ?_
          have hJ5 : Z 0 82 [(4, .int 4), (3, .int (nB ((((!(decide (0 ≤ (μ.1 61 0)))) || (!(decide (0 ≤ (μ.1 61 1))))) || (!(decide (0 ≤ (μ.1 61 2))))) || (!(decide (0 ≤ (μ.1 61 3))))))), (0, .ref 50), (1, .int 0), (2, .int (nB om))] [.int (nB ((decide ((nI dl) = 3)) && (decide ((μ.1 50 41) = 1))))] (z_ui (z_ui (z_ui μ 50 44 0) 50 49 (-1)) 50 52 ((μ.1 50 52) + 1)) := by
            refine z_rcs0 hc hH 2 (pc' := 85) (lv' := [(4, .int (nB ((decide ((nI dl) = 3)) && (decide ((μ.1 50 41) = 1))))), (3, .int (nB ((((!(decide (0 ≤ (μ.1 61 0)))) || (!(decide (0 ≤ (μ.1 61 1))))) || (!(decide (0 ≤ (μ.1 61 2))))) || (!(decide (0 ≤ (μ.1 61 3))))))), (0, .ref 50), (1, .int 0), (2, .int (nB om))]) (st' := [.int (nB ((((!(decide (0 ≤ (μ.1 61 0)))) || (!(decide (0 ≤ (μ.1 61 1))))) || (!(decide (0 ≤ (μ.1 61 2))))) || (!(decide (0 ≤ (μ.1 61 3))))))]) (by rfl) ?_
            refine zq_if hc hH (by rfl) (tg := 93) (by rfl) (fun h6 => ?_) (fun h6 => ?_)
            · have h6 : ((((!(decide (0 ≤ (μ.1 61 0)))) || (!(decide (0 ≤ (μ.1 61 1))))) || (!(decide (0 ≤ (μ.1 61 2))))) || (!(decide (0 ≤ (μ.1 61 3))))) = true := nB_n.mp (cm_ne.mp h6)
              refine z_rcs0 hc hH 2 (pc' := 95) (lv' := [(4, .int (nB ((decide ((nI dl) = 3)) && (decide ((μ.1 50 41) = 1))))), (3, .int (nB ((((!(decide (0 ≤ (μ.1 61 0)))) || (!(decide (0 ≤ (μ.1 61 1))))) || (!(decide (0 ≤ (μ.1 61 2))))) || (!(decide (0 ≤ (μ.1 61 3))))))), (0, .ref 50), (1, .int 0), (2, .int (nB om))]) (st' := [.int 1, .ref 50]) (by rfl) ?_
              refine zq_pfb hc hH (by rfl) (ci := 6) (f := 54) (by rfl) (by decide +kernel) (by rfl) (by decide) ?_
              show Z 0 98 [(4, .int (nB ((decide ((nI dl) = 3)) && (decide ((μ.1 50 41) = 1))))), (3, .int (nB ((((!(decide (0 ≤ (μ.1 61 0)))) || (!(decide (0 ≤ (μ.1 61 1))))) || (!(decide (0 ≤ (μ.1 61 2))))) || (!(decide (0 ≤ (μ.1 61 3))))))), (0, .ref 50), (1, .int 0), (2, .int (nB om))] [] (z_ui (z_ui (z_ui (z_ui μ 50 44 0) 50 49 (-1)) 50 52 ((μ.1 50 52) + 1)) 50 54 1)
              refine z_rcs0 hc hH 8 (pc' := 111) (lv' := [(6, .int 1), (5, .int 0), (4, .int (nB ((decide ((nI dl) = 3)) && (decide ((μ.1 50 41) = 1))))), (3, .int (nB ((((!(decide (0 ≤ (μ.1 61 0)))) || (!(decide (0 ≤ (μ.1 61 1))))) || (!(decide (0 ≤ (μ.1 61 2))))) || (!(decide (0 ≤ (μ.1 61 3))))))), (0, .ref 50), (1, .int 0), (2, .int (nB om))]) (st' := [.ref 50]) (by rfl) ?_
              refine zq_gfr hc hH (by rfl) (ci := 6) (f := 29) (q := 61) (by rfl) (by decide +kernel) (by rfl) (by decide +kernel) ?_
              refine z_rcs0 hc hH 1 (pc' := 116) (lv' := [(6, .int 1), (5, .int 0), (4, .int (nB ((decide ((nI dl) = 3)) && (decide ((μ.1 50 41) = 1))))), (3, .int (nB ((((!(decide (0 ≤ (μ.1 61 0)))) || (!(decide (0 ≤ (μ.1 61 1))))) || (!(decide (0 ≤ (μ.1 61 2))))) || (!(decide (0 ≤ (μ.1 61 3))))))), (0, .ref 50), (1, .int 0), (2, .int (nB om))]) (st' := [.int 1, .ref 61]) (by rfl) ?_
              refine zq_iald hc hH (by rfl) 4 (oka_i (by decide +kernel)) (show vp_in (nI 1) 4 from vp_in_nI (by decide) (by decide)) ?_
              rw [show (1 : Int32).toNatClampNeg = 1 from rfl]
              refine zV1 (Z := Z) (Eq.trans (ui_o (by first | decide | omega)) (Eq.trans (ui_o (by first | decide | omega)) (Eq.trans (ui_o (by first | decide | omega)) (ui_o (by first | decide | omega))))) ?_
              refine z_rcs0 hc hH 1 (pc' := 118) (lv' := [(6, .int 1), (5, .int 0), (4, .int (nB ((decide ((nI dl) = 3)) && (decide ((μ.1 50 41) = 1))))), (3, .int (nB ((((!(decide (0 ≤ (μ.1 61 0)))) || (!(decide (0 ≤ (μ.1 61 1))))) || (!(decide (0 ≤ (μ.1 61 2))))) || (!(decide (0 ≤ (μ.1 61 3))))))), (0, .ref 50), (1, .int 0), (2, .int (nB om))]) (st' := [.ref 50, .int (μ.1 61 1)]) (by rfl) ?_
              refine zq_gfr hc hH (by rfl) (ci := 6) (f := 29) (q := 61) (by rfl) (by decide +kernel) (by rfl) (by decide +kernel) ?_
              refine z_rcs0 hc hH 1 (pc' := 123) (lv' := [(6, .int 1), (5, .int 0), (4, .int (nB ((decide ((nI dl) = 3)) && (decide ((μ.1 50 41) = 1))))), (3, .int (nB ((((!(decide (0 ≤ (μ.1 61 0)))) || (!(decide (0 ≤ (μ.1 61 1))))) || (!(decide (0 ≤ (μ.1 61 2))))) || (!(decide (0 ≤ (μ.1 61 3))))))), (0, .ref 50), (1, .int 0), (2, .int (nB om))]) (st' := [.int 0, .ref 61, .int (μ.1 61 1)]) (by rfl) ?_
              refine zq_iald hc hH (by rfl) 4 (oka_i (by decide +kernel)) (show vp_in (nI 0) 4 from vp_in_nI (by decide) (by decide)) ?_
              rw [show (0 : Int32).toNatClampNeg = 0 from rfl]
              refine zV1 (Z := Z) (Eq.trans (ui_o (by first | decide | omega)) (Eq.trans (ui_o (by first | decide | omega)) (Eq.trans (ui_o (by first | decide | omega)) (ui_o (by first | decide | omega))))) ?_
              refine zq_ic hc hH (by rfl) (tg := 132) (by rfl) (fun h7 => ?_) (fun h7 => ?_)
              · have h7 : (decide ((μ.1 61 1) ≤ (μ.1 61 0))) = true := decide_eq_true (cm_le.mp h7)
                refine z_rcs0 hc hH 8 (pc' := 111) (lv' := [(6, .int 2), (5, .int 0), (4, .int (nB ((decide ((nI dl) = 3)) && (decide ((μ.1 50 41) = 1))))), (3, .int (nB ((((!(decide (0 ≤ (μ.1 61 0)))) || (!(decide (0 ≤ (μ.1 61 1))))) || (!(decide (0 ≤ (μ.1 61 2))))) || (!(decide (0 ≤ (μ.1 61 3))))))), (0, .ref 50), (1, .int 0), (2, .int (nB om))]) (st' := [.ref 50]) (by rfl) ?_
                refine zq_gfr hc hH (by rfl) (ci := 6) (f := 29) (q := 61) (by rfl) (by decide +kernel) (by rfl) (by decide +kernel) ?_
                refine z_rcs0 hc hH 1 (pc' := 116) (lv' := [(6, .int 2), (5, .int 0), (4, .int (nB ((decide ((nI dl) = 3)) && (decide ((μ.1 50 41) = 1))))), (3, .int (nB ((((!(decide (0 ≤ (μ.1 61 0)))) || (!(decide (0 ≤ (μ.1 61 1))))) || (!(decide (0 ≤ (μ.1 61 2))))) || (!(decide (0 ≤ (μ.1 61 3))))))), (0, .ref 50), (1, .int 0), (2, .int (nB om))]) (st' := [.int 2, .ref 61]) (by rfl) ?_
                refine zq_iald hc hH (by rfl) 4 (oka_i (by decide +kernel)) (show vp_in (nI 2) 4 from vp_in_nI (by decide) (by decide)) ?_
                rw [show (2 : Int32).toNatClampNeg = 2 from rfl]
                refine zV1 (Z := Z) (Eq.trans (ui_o (by first | decide | omega)) (Eq.trans (ui_o (by first | decide | omega)) (Eq.trans (ui_o (by first | decide | omega)) (ui_o (by first | decide | omega))))) ?_
                refine z_rcs0 hc hH 1 (pc' := 118) (lv' := [(6, .int 2), (5, .int 0), (4, .int (nB ((decide ((nI dl) = 3)) && (decide ((μ.1 50 41) = 1))))), (3, .int (nB ((((!(decide (0 ≤ (μ.1 61 0)))) || (!(decide (0 ≤ (μ.1 61 1))))) || (!(decide (0 ≤ (μ.1 61 2))))) || (!(decide (0 ≤ (μ.1 61 3))))))), (0, .ref 50), (1, .int 0), (2, .int (nB om))]) (st' := [.ref 50, .int (μ.1 61 2)]) (by rfl) ?_
                refine zq_gfr hc hH (by rfl) (ci := 6) (f := 29) (q := 61) (by rfl) (by decide +kernel) (by rfl) (by decide +kernel) ?_
                refine z_rcs0 hc hH 1 (pc' := 123) (lv' := [(6, .int 2), (5, .int 0), (4, .int (nB ((decide ((nI dl) = 3)) && (decide ((μ.1 50 41) = 1))))), (3, .int (nB ((((!(decide (0 ≤ (μ.1 61 0)))) || (!(decide (0 ≤ (μ.1 61 1))))) || (!(decide (0 ≤ (μ.1 61 2))))) || (!(decide (0 ≤ (μ.1 61 3))))))), (0, .ref 50), (1, .int 0), (2, .int (nB om))]) (st' := [.int 0, .ref 61, .int (μ.1 61 2)]) (by rfl) ?_
                refine zq_iald hc hH (by rfl) 4 (oka_i (by decide +kernel)) (show vp_in (nI 0) 4 from vp_in_nI (by decide) (by decide)) ?_
                rw [show (0 : Int32).toNatClampNeg = 0 from rfl]
                refine zV1 (Z := Z) (Eq.trans (ui_o (by first | decide | omega)) (Eq.trans (ui_o (by first | decide | omega)) (Eq.trans (ui_o (by first | decide | omega)) (ui_o (by first | decide | omega))))) ?_
                refine zq_ic hc hH (by rfl) (tg := 132) (by rfl) (fun h8 => ?_) (fun h8 => ?_)
                · have h8 : (decide ((μ.1 61 2) ≤ (μ.1 61 0))) = true := decide_eq_true (cm_le.mp h8)
                  refine z_rcs0 hc hH 8 (pc' := 111) (lv' := [(6, .int 3), (5, .int 0), (4, .int (nB ((decide ((nI dl) = 3)) && (decide ((μ.1 50 41) = 1))))), (3, .int (nB ((((!(decide (0 ≤ (μ.1 61 0)))) || (!(decide (0 ≤ (μ.1 61 1))))) || (!(decide (0 ≤ (μ.1 61 2))))) || (!(decide (0 ≤ (μ.1 61 3))))))), (0, .ref 50), (1, .int 0), (2, .int (nB om))]) (st' := [.ref 50]) (by rfl) ?_
                  refine zq_gfr hc hH (by rfl) (ci := 6) (f := 29) (q := 61) (by rfl) (by decide +kernel) (by rfl) (by decide +kernel) ?_
                  refine z_rcs0 hc hH 1 (pc' := 116) (lv' := [(6, .int 3), (5, .int 0), (4, .int (nB ((decide ((nI dl) = 3)) && (decide ((μ.1 50 41) = 1))))), (3, .int (nB ((((!(decide (0 ≤ (μ.1 61 0)))) || (!(decide (0 ≤ (μ.1 61 1))))) || (!(decide (0 ≤ (μ.1 61 2))))) || (!(decide (0 ≤ (μ.1 61 3))))))), (0, .ref 50), (1, .int 0), (2, .int (nB om))]) (st' := [.int 3, .ref 61]) (by rfl) ?_
                  refine zq_iald hc hH (by rfl) 4 (oka_i (by decide +kernel)) (show vp_in (nI 3) 4 from vp_in_nI (by decide) (by decide)) ?_
                  rw [show (3 : Int32).toNatClampNeg = 3 from rfl]
                  refine zV1 (Z := Z) (Eq.trans (ui_o (by first | decide | omega)) (Eq.trans (ui_o (by first | decide | omega)) (Eq.trans (ui_o (by first | decide | omega)) (ui_o (by first | decide | omega))))) ?_
                  refine z_rcs0 hc hH 1 (pc' := 118) (lv' := [(6, .int 3), (5, .int 0), (4, .int (nB ((decide ((nI dl) = 3)) && (decide ((μ.1 50 41) = 1))))), (3, .int (nB ((((!(decide (0 ≤ (μ.1 61 0)))) || (!(decide (0 ≤ (μ.1 61 1))))) || (!(decide (0 ≤ (μ.1 61 2))))) || (!(decide (0 ≤ (μ.1 61 3))))))), (0, .ref 50), (1, .int 0), (2, .int (nB om))]) (st' := [.ref 50, .int (μ.1 61 3)]) (by rfl) ?_
                  refine zq_gfr hc hH (by rfl) (ci := 6) (f := 29) (q := 61) (by rfl) (by decide +kernel) (by rfl) (by decide +kernel) ?_
                  refine z_rcs0 hc hH 1 (pc' := 123) (lv' := [(6, .int 3), (5, .int 0), (4, .int (nB ((decide ((nI dl) = 3)) && (decide ((μ.1 50 41) = 1))))), (3, .int (nB ((((!(decide (0 ≤ (μ.1 61 0)))) || (!(decide (0 ≤ (μ.1 61 1))))) || (!(decide (0 ≤ (μ.1 61 2))))) || (!(decide (0 ≤ (μ.1 61 3))))))), (0, .ref 50), (1, .int 0), (2, .int (nB om))]) (st' := [.int 0, .ref 61, .int (μ.1 61 3)]) (by rfl) ?_
                  refine zq_iald hc hH (by rfl) 4 (oka_i (by decide +kernel)) (show vp_in (nI 0) 4 from vp_in_nI (by decide) (by decide)) ?_
                  rw [show (0 : Int32).toNatClampNeg = 0 from rfl]
                  refine zV1 (Z := Z) (Eq.trans (ui_o (by first | decide | omega)) (Eq.trans (ui_o (by first | decide | omega)) (Eq.trans (ui_o (by first | decide | omega)) (ui_o (by first | decide | omega))))) ?_
                  refine zq_ic hc hH (by rfl) (tg := 132) (by rfl) (fun h9 => ?_) (fun h9 => ?_)
                  · have h9 : (decide ((μ.1 61 3) ≤ (μ.1 61 0))) = true := decide_eq_true (cm_le.mp h9)
                    refine z_rcs0 hc hH 8 (pc' := 143) (lv' := [(6, .int 4), (5, .int 0), (4, .int (nB ((decide ((nI dl) = 3)) && (decide ((μ.1 50 41) = 1))))), (3, .int (nB ((((!(decide (0 ≤ (μ.1 61 0)))) || (!(decide (0 ≤ (μ.1 61 1))))) || (!(decide (0 ≤ (μ.1 61 2))))) || (!(decide (0 ≤ (μ.1 61 3))))))), (0, .ref 50), (1, .int 0), (2, .int (nB om))]) (st' := [.ref 50]) (by rfl) ?_
                    refine zq_gfr hc hH (by rfl) (ci := 6) (f := 29) (q := 61) (by rfl) (by decide +kernel) (by rfl) (by decide +kernel) ?_
                    refine z_rcs0 hc hH 2 (pc' := 149) (lv' := [(6, .int 4), (5, .int 0), (4, .int (nB ((decide ((nI dl) = 3)) && (decide ((μ.1 50 41) = 1))))), (3, .int (nB ((((!(decide (0 ≤ (μ.1 61 0)))) || (!(decide (0 ≤ (μ.1 61 1))))) || (!(decide (0 ≤ (μ.1 61 2))))) || (!(decide (0 ≤ (μ.1 61 3))))))), (0, .ref 50), (1, .int 0), (2, .int (nB om))]) (st' := [.int 0, .ref 61, .int 0, .ref 61]) (by rfl) ?_
                    refine zq_iald hc hH (by rfl) 4 (oka_i (by decide +kernel)) (show vp_in (nI 0) 4 from vp_in_nI (by decide) (by decide)) ?_
                    rw [show (0 : Int32).toNatClampNeg = 0 from rfl]
                    refine zV1 (Z := Z) (Eq.trans (ui_o (by first | decide | omega)) (Eq.trans (ui_o (by first | decide | omega)) (Eq.trans (ui_o (by first | decide | omega)) (ui_o (by first | decide | omega))))) ?_
                    refine z_rcs0 hc hH 2 (pc' := 154) (lv' := [(6, .int 4), (5, .int 0), (4, .int (nB ((decide ((nI dl) = 3)) && (decide ((μ.1 50 41) = 1))))), (3, .int (nB ((((!(decide (0 ≤ (μ.1 61 0)))) || (!(decide (0 ≤ (μ.1 61 1))))) || (!(decide (0 ≤ (μ.1 61 2))))) || (!(decide (0 ≤ (μ.1 61 3))))))), (0, .ref 50), (1, .int 0), (2, .int (nB om))]) (st' := [.ref 50, .int 1000, .int (μ.1 61 0), .int 0, .ref 61]) (by rfl) ?_
                    refine zq_gfi hc hH (by rfl) (ci := 6) (f := 43) (by rfl) (by decide +kernel) (by rfl) ?_
                    refine zV1 (Z := Z) (Eq.trans (ui_k (by first | decide | omega)) (Eq.trans (ui_k (by first | decide | omega)) (Eq.trans (ui_k (by first | decide | omega)) (ui_k (by first | decide | omega))))) ?_
                    refine z_rcs0 hc hH 2 (pc' := 159) (lv' := [(6, .int 4), (5, .int 0), (4, .int (nB ((decide ((nI dl) = 3)) && (decide ((μ.1 50 41) = 1))))), (3, .int (nB ((((!(decide (0 ≤ (μ.1 61 0)))) || (!(decide (0 ≤ (μ.1 61 1))))) || (!(decide (0 ≤ (μ.1 61 2))))) || (!(decide (0 ≤ (μ.1 61 3))))))), (0, .ref 50), (1, .int 0), (2, .int (nB om))]) (st' := [.int ((μ.1 61 0) + (1000 * (μ.1 50 43))), .int 0, .ref 61]) (by rfl) ?_
                    refine zq_iast hc hH (by rfl) 4 (oka_i (by decide +kernel)).2 (show vp_in (nI 0) 4 from vp_in_nI (by decide) (by decide)) ?_
                    rw [show (0 : Int32).toNatClampNeg = 0 from rfl]
                    show Z 0 160 [(6, .int 4), (5, .int 0), (4, .int (nB ((decide ((nI dl) = 3)) && (decide ((μ.1 50 41) = 1))))), (3, .int (nB ((((!(decide (0 ≤ (μ.1 61 0)))) || (!(decide (0 ≤ (μ.1 61 1))))) || (!(decide (0 ≤ (μ.1 61 2))))) || (!(decide (0 ≤ (μ.1 61 3))))))), (0, .ref 50), (1, .int 0), (2, .int (nB om))] [] (z_ui (z_ui (z_ui (z_ui (z_ui μ 50 44 0) 50 49 (-1)) 50 52 ((μ.1 50 52) + 1)) 50 54 1) 61 0 ((μ.1 61 0) + (1000 * (μ.1 50 43))))
                    refine z_rcs0 hc hH 2 (pc' := 162) (lv' := [(6, .int 4), (5, .int 0), (4, .int (nB ((decide ((nI dl) = 3)) && (decide ((μ.1 50 41) = 1))))), (3, .int (nB ((((!(decide (0 ≤ (μ.1 61 0)))) || (!(decide (0 ≤ (μ.1 61 1))))) || (!(decide (0 ≤ (μ.1 61 2))))) || (!(decide (0 ≤ (μ.1 61 3))))))), (0, .ref 50), (1, .int 0), (2, .int (nB om))]) (st' := [.int 0, .ref 50]) (by rfl) ?_
                    refine zq_pfi hc hH (by rfl) (ci := 6) (f := 43) (by rfl) (by decide +kernel) (by rfl) ?_
                    show Z 0 165 [(6, .int 4), (5, .int 0), (4, .int (nB ((decide ((nI dl) = 3)) && (decide ((μ.1 50 41) = 1))))), (3, .int (nB ((((!(decide (0 ≤ (μ.1 61 0)))) || (!(decide (0 ≤ (μ.1 61 1))))) || (!(decide (0 ≤ (μ.1 61 2))))) || (!(decide (0 ≤ (μ.1 61 3))))))), (0, .ref 50), (1, .int 0), (2, .int (nB om))] [] (z_ui (z_ui (z_ui (z_ui (z_ui (z_ui μ 50 44 0) 50 49 (-1)) 50 52 ((μ.1 50 52) + 1)) 50 54 1) 61 0 ((μ.1 61 0) + (1000 * (μ.1 50 43)))) 50 43 0)
                    exact hr 0 165 _ _ _ none (by decide +kernel) (by rfl) (⟨rfl, (by unfold eM0; simp only [h6, h7, h8, h9, cond_true, cond_false])⟩)
                  · have h9 : (decide ((μ.1 61 3) ≤ (μ.1 61 0))) = false := decide_eq_false (cn_le.mp h9)
                    refine z_rcs hc hH 9 (pc' := 143) (lv' := [(6, .int 4), (5, .int 3), (4, .int (nB ((decide ((nI dl) = 3)) && (decide ((μ.1 50 41) = 1))))), (3, .int (nB ((((!(decide (0 ≤ (μ.1 61 0)))) || (!(decide (0 ≤ (μ.1 61 1))))) || (!(decide (0 ≤ (μ.1 61 2))))) || (!(decide (0 ≤ (μ.1 61 3))))))), (0, .ref 50), (1, .int 0), (2, .int (nB om))]) (st' := [.ref 50]) (μ' := z_ui (z_ui (z_ui (z_ui μ 50 44 0) 50 49 (-1)) 50 52 ((μ.1 50 52) + 1)) 50 54 1) (by rfl) ?_
                    refine zq_gfr hc hH (by rfl) (ci := 6) (f := 29) (q := 61) (by rfl) (by decide +kernel) (by rfl) (by decide +kernel) ?_
                    refine z_rcs0 hc hH 2 (pc' := 149) (lv' := [(6, .int 4), (5, .int 3), (4, .int (nB ((decide ((nI dl) = 3)) && (decide ((μ.1 50 41) = 1))))), (3, .int (nB ((((!(decide (0 ≤ (μ.1 61 0)))) || (!(decide (0 ≤ (μ.1 61 1))))) || (!(decide (0 ≤ (μ.1 61 2))))) || (!(decide (0 ≤ (μ.1 61 3))))))), (0, .ref 50), (1, .int 0), (2, .int (nB om))]) (st' := [.int 3, .ref 61, .int 3, .ref 61]) (by rfl) ?_
                    refine zq_iald hc hH (by rfl) 4 (oka_i (by decide +kernel)) (show vp_in (nI 3) 4 from vp_in_nI (by decide) (by decide)) ?_
                    rw [show (3 : Int32).toNatClampNeg = 3 from rfl]
                    refine zV1 (Z := Z) (Eq.trans (ui_o (by first | decide | omega)) (Eq.trans (ui_o (by first | decide | omega)) (Eq.trans (ui_o (by first | decide | omega)) (ui_o (by first | decide | omega))))) ?_
                    refine z_rcs0 hc hH 2 (pc' := 154) (lv' := [(6, .int 4), (5, .int 3), (4, .int (nB ((decide ((nI dl) = 3)) && (decide ((μ.1 50 41) = 1))))), (3, .int (nB ((((!(decide (0 ≤ (μ.1 61 0)))) || (!(decide (0 ≤ (μ.1 61 1))))) || (!(decide (0 ≤ (μ.1 61 2))))) || (!(decide (0 ≤ (μ.1 61 3))))))), (0, .ref 50), (1, .int 0), (2, .int (nB om))]) (st' := [.ref 50, .int 1000, .int (μ.1 61 3), .int 3, .ref 61]) (by rfl) ?_
                    refine zq_gfi hc hH (by rfl) (ci := 6) (f := 43) (by rfl) (by decide +kernel) (by rfl) ?_
                    refine zV1 (Z := Z) (Eq.trans (ui_k (by first | decide | omega)) (Eq.trans (ui_k (by first | decide | omega)) (Eq.trans (ui_k (by first | decide | omega)) (ui_k (by first | decide | omega))))) ?_
                    refine z_rcs0 hc hH 2 (pc' := 159) (lv' := [(6, .int 4), (5, .int 3), (4, .int (nB ((decide ((nI dl) = 3)) && (decide ((μ.1 50 41) = 1))))), (3, .int (nB ((((!(decide (0 ≤ (μ.1 61 0)))) || (!(decide (0 ≤ (μ.1 61 1))))) || (!(decide (0 ≤ (μ.1 61 2))))) || (!(decide (0 ≤ (μ.1 61 3))))))), (0, .ref 50), (1, .int 0), (2, .int (nB om))]) (st' := [.int ((μ.1 61 3) + (1000 * (μ.1 50 43))), .int 3, .ref 61]) (by rfl) ?_
                    refine zq_iast hc hH (by rfl) 4 (oka_i (by decide +kernel)).2 (show vp_in (nI 3) 4 from vp_in_nI (by decide) (by decide)) ?_
                    rw [show (3 : Int32).toNatClampNeg = 3 from rfl]
                    show Z 0 160 [(6, .int 4), (5, .int 3), (4, .int (nB ((decide ((nI dl) = 3)) && (decide ((μ.1 50 41) = 1))))), (3, .int (nB ((((!(decide (0 ≤ (μ.1 61 0)))) || (!(decide (0 ≤ (μ.1 61 1))))) || (!(decide (0 ≤ (μ.1 61 2))))) || (!(decide (0 ≤ (μ.1 61 3))))))), (0, .ref 50), (1, .int 0), (2, .int (nB om))] [] (z_ui (z_ui (z_ui (z_ui (z_ui μ 50 44 0) 50 49 (-1)) 50 52 ((μ.1 50 52) + 1)) 50 54 1) 61 3 ((μ.1 61 3) + (1000 * (μ.1 50 43))))
                    refine z_rcs0 hc hH 2 (pc' := 162) (lv' := [(6, .int 4), (5, .int 3), (4, .int (nB ((decide ((nI dl) = 3)) && (decide ((μ.1 50 41) = 1))))), (3, .int (nB ((((!(decide (0 ≤ (μ.1 61 0)))) || (!(decide (0 ≤ (μ.1 61 1))))) || (!(decide (0 ≤ (μ.1 61 2))))) || (!(decide (0 ≤ (μ.1 61 3))))))), (0, .ref 50), (1, .int 0), (2, .int (nB om))]) (st' := [.int 0, .ref 50]) (by rfl) ?_
                    refine zq_pfi hc hH (by rfl) (ci := 6) (f := 43) (by rfl) (by decide +kernel) (by rfl) ?_
                    show Z 0 165 [(6, .int 4), (5, .int 3), (4, .int (nB ((decide ((nI dl) = 3)) && (decide ((μ.1 50 41) = 1))))), (3, .int (nB ((((!(decide (0 ≤ (μ.1 61 0)))) || (!(decide (0 ≤ (μ.1 61 1))))) || (!(decide (0 ≤ (μ.1 61 2))))) || (!(decide (0 ≤ (μ.1 61 3))))))), (0, .ref 50), (1, .int 0), (2, .int (nB om))] [] (z_ui (z_ui (z_ui (z_ui (z_ui (z_ui μ 50 44 0) 50 49 (-1)) 50 52 ((μ.1 50 52) + 1)) 50 54 1) 61 3 ((μ.1 61 3) + (1000 * (μ.1 50 43)))) 50 43 0)
                    exact hr 0 165 _ _ _ none (by decide +kernel) (by rfl) (⟨rfl, (by unfold eM0; simp only [h6, h7, h8, h9, cond_true, cond_false])⟩)
                · have h8 : (decide ((μ.1 61 2) ≤ (μ.1 61 0))) = false := decide_eq_false (cn_le.mp h8)
                  refine z_rcs hc hH 9 (pc' := 111) (lv' := [(6, .int 3), (5, .int 2), (4, .int (nB ((decide ((nI dl) = 3)) && (decide ((μ.1 50 41) = 1))))), (3, .int (nB ((((!(decide (0 ≤ (μ.1 61 0)))) || (!(decide (0 ≤ (μ.1 61 1))))) || (!(decide (0 ≤ (μ.1 61 2))))) || (!(decide (0 ≤ (μ.1 61 3))))))), (0, .ref 50), (1, .int 0), (2, .int (nB om))]) (st' := [.ref 50]) (μ' := z_ui (z_ui (z_ui (z_ui μ 50 44 0) 50 49 (-1)) 50 52 ((μ.1 50 52) + 1)) 50 54 1) (by rfl) ?_
                  refine zq_gfr hc hH (by rfl) (ci := 6) (f := 29) (q := 61) (by rfl) (by decide +kernel) (by rfl) (by decide +kernel) ?_
                  refine z_rcs0 hc hH 1 (pc' := 116) (lv' := [(6, .int 3), (5, .int 2), (4, .int (nB ((decide ((nI dl) = 3)) && (decide ((μ.1 50 41) = 1))))), (3, .int (nB ((((!(decide (0 ≤ (μ.1 61 0)))) || (!(decide (0 ≤ (μ.1 61 1))))) || (!(decide (0 ≤ (μ.1 61 2))))) || (!(decide (0 ≤ (μ.1 61 3))))))), (0, .ref 50), (1, .int 0), (2, .int (nB om))]) (st' := [.int 3, .ref 61]) (by rfl) ?_
                  refine zq_iald hc hH (by rfl) 4 (oka_i (by decide +kernel)) (show vp_in (nI 3) 4 from vp_in_nI (by decide) (by decide)) ?_
                  rw [show (3 : Int32).toNatClampNeg = 3 from rfl]
                  refine zV1 (Z := Z) (Eq.trans (ui_o (by first | decide | omega)) (Eq.trans (ui_o (by first | decide | omega)) (Eq.trans (ui_o (by first | decide | omega)) (ui_o (by first | decide | omega))))) ?_
                  refine z_rcs0 hc hH 1 (pc' := 118) (lv' := [(6, .int 3), (5, .int 2), (4, .int (nB ((decide ((nI dl) = 3)) && (decide ((μ.1 50 41) = 1))))), (3, .int (nB ((((!(decide (0 ≤ (μ.1 61 0)))) || (!(decide (0 ≤ (μ.1 61 1))))) || (!(decide (0 ≤ (μ.1 61 2))))) || (!(decide (0 ≤ (μ.1 61 3))))))), (0, .ref 50), (1, .int 0), (2, .int (nB om))]) (st' := [.ref 50, .int (μ.1 61 3)]) (by rfl) ?_
                  refine zq_gfr hc hH (by rfl) (ci := 6) (f := 29) (q := 61) (by rfl) (by decide +kernel) (by rfl) (by decide +kernel) ?_
                  refine z_rcs0 hc hH 1 (pc' := 123) (lv' := [(6, .int 3), (5, .int 2), (4, .int (nB ((decide ((nI dl) = 3)) && (decide ((μ.1 50 41) = 1))))), (3, .int (nB ((((!(decide (0 ≤ (μ.1 61 0)))) || (!(decide (0 ≤ (μ.1 61 1))))) || (!(decide (0 ≤ (μ.1 61 2))))) || (!(decide (0 ≤ (μ.1 61 3))))))), (0, .ref 50), (1, .int 0), (2, .int (nB om))]) (st' := [.int 2, .ref 61, .int (μ.1 61 3)]) (by rfl) ?_
                  refine zq_iald hc hH (by rfl) 4 (oka_i (by decide +kernel)) (show vp_in (nI 2) 4 from vp_in_nI (by decide) (by decide)) ?_
                  rw [show (2 : Int32).toNatClampNeg = 2 from rfl]
                  refine zV1 (Z := Z) (Eq.trans (ui_o (by first | decide | omega)) (Eq.trans (ui_o (by first | decide | omega)) (Eq.trans (ui_o (by first | decide | omega)) (ui_o (by first | decide | omega))))) ?_
                  refine zq_ic hc hH (by rfl) (tg := 132) (by rfl) (fun h10 => ?_) (fun h10 => ?_)
                  · have h10 : (decide ((μ.1 61 3) ≤ (μ.1 61 2))) = true := decide_eq_true (cm_le.mp h10)
                    refine z_rcs0 hc hH 8 (pc' := 143) (lv' := [(6, .int 4), (5, .int 2), (4, .int (nB ((decide ((nI dl) = 3)) && (decide ((μ.1 50 41) = 1))))), (3, .int (nB ((((!(decide (0 ≤ (μ.1 61 0)))) || (!(decide (0 ≤ (μ.1 61 1))))) || (!(decide (0 ≤ (μ.1 61 2))))) || (!(decide (0 ≤ (μ.1 61 3))))))), (0, .ref 50), (1, .int 0), (2, .int (nB om))]) (st' := [.ref 50]) (by rfl) ?_
                    refine zq_gfr hc hH (by rfl) (ci := 6) (f := 29) (q := 61) (by rfl) (by decide +kernel) (by rfl) (by decide +kernel) ?_
                    refine z_rcs0 hc hH 2 (pc' := 149) (lv' := [(6, .int 4), (5, .int 2), (4, .int (nB ((decide ((nI dl) = 3)) && (decide ((μ.1 50 41) = 1))))), (3, .int (nB ((((!(decide (0 ≤ (μ.1 61 0)))) || (!(decide (0 ≤ (μ.1 61 1))))) || (!(decide (0 ≤ (μ.1 61 2))))) || (!(decide (0 ≤ (μ.1 61 3))))))), (0, .ref 50), (1, .int 0), (2, .int (nB om))]) (st' := [.int 2, .ref 61, .int 2, .ref 61]) (by rfl) ?_
                    refine zq_iald hc hH (by rfl) 4 (oka_i (by decide +kernel)) (show vp_in (nI 2) 4 from vp_in_nI (by decide) (by decide)) ?_
                    rw [show (2 : Int32).toNatClampNeg = 2 from rfl]
                    refine zV1 (Z := Z) (Eq.trans (ui_o (by first | decide | omega)) (Eq.trans (ui_o (by first | decide | omega)) (Eq.trans (ui_o (by first | decide | omega)) (ui_o (by first | decide | omega))))) ?_
                    refine z_rcs0 hc hH 2 (pc' := 154) (lv' := [(6, .int 4), (5, .int 2), (4, .int (nB ((decide ((nI dl) = 3)) && (decide ((μ.1 50 41) = 1))))), (3, .int (nB ((((!(decide (0 ≤ (μ.1 61 0)))) || (!(decide (0 ≤ (μ.1 61 1))))) || (!(decide (0 ≤ (μ.1 61 2))))) || (!(decide (0 ≤ (μ.1 61 3))))))), (0, .ref 50), (1, .int 0), (2, .int (nB om))]) (st' := [.ref 50, .int 1000, .int (μ.1 61 2), .int 2, .ref 61]) (by rfl) ?_
                    refine zq_gfi hc hH (by rfl) (ci := 6) (f := 43) (by rfl) (by decide +kernel) (by rfl) ?_
                    refine zV1 (Z := Z) (Eq.trans (ui_k (by first | decide | omega)) (Eq.trans (ui_k (by first | decide | omega)) (Eq.trans (ui_k (by first | decide | omega)) (ui_k (by first | decide | omega))))) ?_
                    refine z_rcs0 hc hH 2 (pc' := 159) (lv' := [(6, .int 4), (5, .int 2), (4, .int (nB ((decide ((nI dl) = 3)) && (decide ((μ.1 50 41) = 1))))), (3, .int (nB ((((!(decide (0 ≤ (μ.1 61 0)))) || (!(decide (0 ≤ (μ.1 61 1))))) || (!(decide (0 ≤ (μ.1 61 2))))) || (!(decide (0 ≤ (μ.1 61 3))))))), (0, .ref 50), (1, .int 0), (2, .int (nB om))]) (st' := [.int ((μ.1 61 2) + (1000 * (μ.1 50 43))), .int 2, .ref 61]) (by rfl) ?_
                    refine zq_iast hc hH (by rfl) 4 (oka_i (by decide +kernel)).2 (show vp_in (nI 2) 4 from vp_in_nI (by decide) (by decide)) ?_
                    rw [show (2 : Int32).toNatClampNeg = 2 from rfl]
                    show Z 0 160 [(6, .int 4), (5, .int 2), (4, .int (nB ((decide ((nI dl) = 3)) && (decide ((μ.1 50 41) = 1))))), (3, .int (nB ((((!(decide (0 ≤ (μ.1 61 0)))) || (!(decide (0 ≤ (μ.1 61 1))))) || (!(decide (0 ≤ (μ.1 61 2))))) || (!(decide (0 ≤ (μ.1 61 3))))))), (0, .ref 50), (1, .int 0), (2, .int (nB om))] [] (z_ui (z_ui (z_ui (z_ui (z_ui μ 50 44 0) 50 49 (-1)) 50 52 ((μ.1 50 52) + 1)) 50 54 1) 61 2 ((μ.1 61 2) + (1000 * (μ.1 50 43))))
                    refine z_rcs0 hc hH 2 (pc' := 162) (lv' := [(6, .int 4), (5, .int 2), (4, .int (nB ((decide ((nI dl) = 3)) && (decide ((μ.1 50 41) = 1))))), (3, .int (nB ((((!(decide (0 ≤ (μ.1 61 0)))) || (!(decide (0 ≤ (μ.1 61 1))))) || (!(decide (0 ≤ (μ.1 61 2))))) || (!(decide (0 ≤ (μ.1 61 3))))))), (0, .ref 50), (1, .int 0), (2, .int (nB om))]) (st' := [.int 0, .ref 50]) (by rfl) ?_
                    refine zq_pfi hc hH (by rfl) (ci := 6) (f := 43) (by rfl) (by decide +kernel) (by rfl) ?_
                    show Z 0 165 [(6, .int 4), (5, .int 2), (4, .int (nB ((decide ((nI dl) = 3)) && (decide ((μ.1 50 41) = 1))))), (3, .int (nB ((((!(decide (0 ≤ (μ.1 61 0)))) || (!(decide (0 ≤ (μ.1 61 1))))) || (!(decide (0 ≤ (μ.1 61 2))))) || (!(decide (0 ≤ (μ.1 61 3))))))), (0, .ref 50), (1, .int 0), (2, .int (nB om))] [] (z_ui (z_ui (z_ui (z_ui (z_ui (z_ui μ 50 44 0) 50 49 (-1)) 50 52 ((μ.1 50 52) + 1)) 50 54 1) 61 2 ((μ.1 61 2) + (1000 * (μ.1 50 43)))) 50 43 0)
                    exact hr 0 165 _ _ _ none (by decide +kernel) (by rfl) (⟨rfl, (by unfold eM0; simp only [h6, h7, h8, h10, cond_true, cond_false])⟩)
                  · have h10 : (decide ((μ.1 61 3) ≤ (μ.1 61 2))) = false := decide_eq_false (cn_le.mp h10)
                    refine z_rcs hc hH 9 (pc' := 143) (lv' := [(6, .int 4), (5, .int 3), (4, .int (nB ((decide ((nI dl) = 3)) && (decide ((μ.1 50 41) = 1))))), (3, .int (nB ((((!(decide (0 ≤ (μ.1 61 0)))) || (!(decide (0 ≤ (μ.1 61 1))))) || (!(decide (0 ≤ (μ.1 61 2))))) || (!(decide (0 ≤ (μ.1 61 3))))))), (0, .ref 50), (1, .int 0), (2, .int (nB om))]) (st' := [.ref 50]) (μ' := z_ui (z_ui (z_ui (z_ui μ 50 44 0) 50 49 (-1)) 50 52 ((μ.1 50 52) + 1)) 50 54 1) (by rfl) ?_
                    refine zq_gfr hc hH (by rfl) (ci := 6) (f := 29) (q := 61) (by rfl) (by decide +kernel) (by rfl) (by decide +kernel) ?_
                    refine z_rcs0 hc hH 2 (pc' := 149) (lv' := [(6, .int 4), (5, .int 3), (4, .int (nB ((decide ((nI dl) = 3)) && (decide ((μ.1 50 41) = 1))))), (3, .int (nB ((((!(decide (0 ≤ (μ.1 61 0)))) || (!(decide (0 ≤ (μ.1 61 1))))) || (!(decide (0 ≤ (μ.1 61 2))))) || (!(decide (0 ≤ (μ.1 61 3))))))), (0, .ref 50), (1, .int 0), (2, .int (nB om))]) (st' := [.int 3, .ref 61, .int 3, .ref 61]) (by rfl) ?_
                    refine zq_iald hc hH (by rfl) 4 (oka_i (by decide +kernel)) (show vp_in (nI 3) 4 from vp_in_nI (by decide) (by decide)) ?_
                    rw [show (3 : Int32).toNatClampNeg = 3 from rfl]
                    refine zV1 (Z := Z) (Eq.trans (ui_o (by first | decide | omega)) (Eq.trans (ui_o (by first | decide | omega)) (Eq.trans (ui_o (by first | decide | omega)) (ui_o (by first | decide | omega))))) ?_
                    refine z_rcs0 hc hH 2 (pc' := 154) (lv' := [(6, .int 4), (5, .int 3), (4, .int (nB ((decide ((nI dl) = 3)) && (decide ((μ.1 50 41) = 1))))), (3, .int (nB ((((!(decide (0 ≤ (μ.1 61 0)))) || (!(decide (0 ≤ (μ.1 61 1))))) || (!(decide (0 ≤ (μ.1 61 2))))) || (!(decide (0 ≤ (μ.1 61 3))))))), (0, .ref 50), (1, .int 0), (2, .int (nB om))]) (st' := [.ref 50, .int 1000, .int (μ.1 61 3), .int 3, .ref 61]) (by rfl) ?_
                    refine zq_gfi hc hH (by rfl) (ci := 6) (f := 43) (by rfl) (by decide +kernel) (by rfl) ?_
                    refine zV1 (Z := Z) (Eq.trans (ui_k (by first | decide | omega)) (Eq.trans (ui_k (by first | decide | omega)) (Eq.trans (ui_k (by first | decide | omega)) (ui_k (by first | decide | omega))))) ?_
                    refine z_rcs0 hc hH 2 (pc' := 159) (lv' := [(6, .int 4), (5, .int 3), (4, .int (nB ((decide ((nI dl) = 3)) && (decide ((μ.1 50 41) = 1))))), (3, .int (nB ((((!(decide (0 ≤ (μ.1 61 0)))) || (!(decide (0 ≤ (μ.1 61 1))))) || (!(decide (0 ≤ (μ.1 61 2))))) || (!(decide (0 ≤ (μ.1 61 3))))))), (0, .ref 50), (1, .int 0), (2, .int (nB om))]) (st' := [.int ((μ.1 61 3) + (1000 * (μ.1 50 43))), .int 3, .ref 61]) (by rfl) ?_
                    refine zq_iast hc hH (by rfl) 4 (oka_i (by decide +kernel)).2 (show vp_in (nI 3) 4 from vp_in_nI (by decide) (by decide)) ?_
                    rw [show (3 : Int32).toNatClampNeg = 3 from rfl]
                    show Z 0 160 [(6, .int 4), (5, .int 3), (4, .int (nB ((decide ((nI dl) = 3)) && (decide ((μ.1 50 41) = 1))))), (3, .int (nB ((((!(decide (0 ≤ (μ.1 61 0)))) || (!(decide (0 ≤ (μ.1 61 1))))) || (!(decide (0 ≤ (μ.1 61 2))))) || (!(decide (0 ≤ (μ.1 61 3))))))), (0, .ref 50), (1, .int 0), (2, .int (nB om))] [] (z_ui (z_ui (z_ui (z_ui (z_ui μ 50 44 0) 50 49 (-1)) 50 52 ((μ.1 50 52) + 1)) 50 54 1) 61 3 ((μ.1 61 3) + (1000 * (μ.1 50 43))))
                    refine z_rcs0 hc hH 2 (pc' := 162) (lv' := [(6, .int 4), (5, .int 3), (4, .int (nB ((decide ((nI dl) = 3)) && (decide ((μ.1 50 41) = 1))))), (3, .int (nB ((((!(decide (0 ≤ (μ.1 61 0)))) || (!(decide (0 ≤ (μ.1 61 1))))) || (!(decide (0 ≤ (μ.1 61 2))))) || (!(decide (0 ≤ (μ.1 61 3))))))), (0, .ref 50), (1, .int 0), (2, .int (nB om))]) (st' := [.int 0, .ref 50]) (by rfl) ?_
                    refine zq_pfi hc hH (by rfl) (ci := 6) (f := 43) (by rfl) (by decide +kernel) (by rfl) ?_
                    show Z 0 165 [(6, .int 4), (5, .int 3), (4, .int (nB ((decide ((nI dl) = 3)) && (decide ((μ.1 50 41) = 1))))), (3, .int (nB ((((!(decide (0 ≤ (μ.1 61 0)))) || (!(decide (0 ≤ (μ.1 61 1))))) || (!(decide (0 ≤ (μ.1 61 2))))) || (!(decide (0 ≤ (μ.1 61 3))))))), (0, .ref 50), (1, .int 0), (2, .int (nB om))] [] (z_ui (z_ui (z_ui (z_ui (z_ui (z_ui μ 50 44 0) 50 49 (-1)) 50 52 ((μ.1 50 52) + 1)) 50 54 1) 61 3 ((μ.1 61 3) + (1000 * (μ.1 50 43)))) 50 43 0)
                    exact hr 0 165 _ _ _ none (by decide +kernel) (by rfl) (⟨rfl, (by unfold eM0; simp only [h6, h7, h8, h10, cond_true, cond_false])⟩)
              · have h7 : (decide ((μ.1 61 1) ≤ (μ.1 61 0))) = false := decide_eq_false (cn_le.mp h7)
                refine z_rcs hc hH 9 (pc' := 111) (lv' := [(6, .int 2), (5, .int 1), (4, .int (nB ((decide ((nI dl) = 3)) && (decide ((μ.1 50 41) = 1))))), (3, .int (nB ((((!(decide (0 ≤ (μ.1 61 0)))) || (!(decide (0 ≤ (μ.1 61 1))))) || (!(decide (0 ≤ (μ.1 61 2))))) || (!(decide (0 ≤ (μ.1 61 3))))))), (0, .ref 50), (1, .int 0), (2, .int (nB om))]) (st' := [.ref 50]) (μ' := z_ui (z_ui (z_ui (z_ui μ 50 44 0) 50 49 (-1)) 50 52 ((μ.1 50 52) + 1)) 50 54 1) (by rfl) ?_
                refine zq_gfr hc hH (by rfl) (ci := 6) (f := 29) (q := 61) (by rfl) (by decide +kernel) (by rfl) (by decide +kernel) ?_
                refine z_rcs0 hc hH 1 (pc' := 116) (lv' := [(6, .int 2), (5, .int 1), (4, .int (nB ((decide ((nI dl) = 3)) && (decide ((μ.1 50 41) = 1))))), (3, .int (nB ((((!(decide (0 ≤ (μ.1 61 0)))) || (!(decide (0 ≤ (μ.1 61 1))))) || (!(decide (0 ≤ (μ.1 61 2))))) || (!(decide (0 ≤ (μ.1 61 3))))))), (0, .ref 50), (1, .int 0), (2, .int (nB om))]) (st' := [.int 2, .ref 61]) (by rfl) ?_
                refine zq_iald hc hH (by rfl) 4 (oka_i (by decide +kernel)) (show vp_in (nI 2) 4 from vp_in_nI (by decide) (by decide)) ?_
                rw [show (2 : Int32).toNatClampNeg = 2 from rfl]
                refine zV1 (Z := Z) (Eq.trans (ui_o (by first | decide | omega)) (Eq.trans (ui_o (by first | decide | omega)) (Eq.trans (ui_o (by first | decide | omega)) (ui_o (by first | decide | omega))))) ?_
                refine z_rcs0 hc hH 1 (pc' := 118) (lv' := [(6, .int 2), (5, .int 1), (4, .int (nB ((decide ((nI dl) = 3)) && (decide ((μ.1 50 41) = 1))))), (3, .int (nB ((((!(decide (0 ≤ (μ.1 61 0)))) || (!(decide (0 ≤ (μ.1 61 1))))) || (!(decide (0 ≤ (μ.1 61 2))))) || (!(decide (0 ≤ (μ.1 61 3))))))), (0, .ref 50), (1, .int 0), (2, .int (nB om))]) (st' := [.ref 50, .int (μ.1 61 2)]) (by rfl) ?_
                refine zq_gfr hc hH (by rfl) (ci := 6) (f := 29) (q := 61) (by rfl) (by decide +kernel) (by rfl) (by decide +kernel) ?_
                refine z_rcs0 hc hH 1 (pc' := 123) (lv' := [(6, .int 2), (5, .int 1), (4, .int (nB ((decide ((nI dl) = 3)) && (decide ((μ.1 50 41) = 1))))), (3, .int (nB ((((!(decide (0 ≤ (μ.1 61 0)))) || (!(decide (0 ≤ (μ.1 61 1))))) || (!(decide (0 ≤ (μ.1 61 2))))) || (!(decide (0 ≤ (μ.1 61 3))))))), (0, .ref 50), (1, .int 0), (2, .int (nB om))]) (st' := [.int 1, .ref 61, .int (μ.1 61 2)]) (by rfl) ?_
                refine zq_iald hc hH (by rfl) 4 (oka_i (by decide +kernel)) (show vp_in (nI 1) 4 from vp_in_nI (by decide) (by decide)) ?_
                rw [show (1 : Int32).toNatClampNeg = 1 from rfl]
                refine zV1 (Z := Z) (Eq.trans (ui_o (by first | decide | omega)) (Eq.trans (ui_o (by first | decide | omega)) (Eq.trans (ui_o (by first | decide | omega)) (ui_o (by first | decide | omega))))) ?_
                refine zq_ic hc hH (by rfl) (tg := 132) (by rfl) (fun h11 => ?_) (fun h11 => ?_)
                · have h11 : (decide ((μ.1 61 2) ≤ (μ.1 61 1))) = true := decide_eq_true (cm_le.mp h11)
                  refine z_rcs0 hc hH 8 (pc' := 111) (lv' := [(6, .int 3), (5, .int 1), (4, .int (nB ((decide ((nI dl) = 3)) && (decide ((μ.1 50 41) = 1))))), (3, .int (nB ((((!(decide (0 ≤ (μ.1 61 0)))) || (!(decide (0 ≤ (μ.1 61 1))))) || (!(decide (0 ≤ (μ.1 61 2))))) || (!(decide (0 ≤ (μ.1 61 3))))))), (0, .ref 50), (1, .int 0), (2, .int (nB om))]) (st' := [.ref 50]) (by rfl) ?_
                  refine zq_gfr hc hH (by rfl) (ci := 6) (f := 29) (q := 61) (by rfl) (by decide +kernel) (by rfl) (by decide +kernel) ?_
                  refine z_rcs0 hc hH 1 (pc' := 116) (lv' := [(6, .int 3), (5, .int 1), (4, .int (nB ((decide ((nI dl) = 3)) && (decide ((μ.1 50 41) = 1))))), (3, .int (nB ((((!(decide (0 ≤ (μ.1 61 0)))) || (!(decide (0 ≤ (μ.1 61 1))))) || (!(decide (0 ≤ (μ.1 61 2))))) || (!(decide (0 ≤ (μ.1 61 3))))))), (0, .ref 50), (1, .int 0), (2, .int (nB om))]) (st' := [.int 3, .ref 61]) (by rfl) ?_
                  refine zq_iald hc hH (by rfl) 4 (oka_i (by decide +kernel)) (show vp_in (nI 3) 4 from vp_in_nI (by decide) (by decide)) ?_
                  rw [show (3 : Int32).toNatClampNeg = 3 from rfl]
                  refine zV1 (Z := Z) (Eq.trans (ui_o (by first | decide | omega)) (Eq.trans (ui_o (by first | decide | omega)) (Eq.trans (ui_o (by first | decide | omega)) (ui_o (by first | decide | omega))))) ?_
                  refine z_rcs0 hc hH 1 (pc' := 118) (lv' := [(6, .int 3), (5, .int 1), (4, .int (nB ((decide ((nI dl) = 3)) && (decide ((μ.1 50 41) = 1))))), (3, .int (nB ((((!(decide (0 ≤ (μ.1 61 0)))) || (!(decide (0 ≤ (μ.1 61 1))))) || (!(decide (0 ≤ (μ.1 61 2))))) || (!(decide (0 ≤ (μ.1 61 3))))))), (0, .ref 50), (1, .int 0), (2, .int (nB om))]) (st' := [.ref 50, .int (μ.1 61 3)]) (by rfl) ?_
                  refine zq_gfr hc hH (by rfl) (ci := 6) (f := 29) (q := 61) (by rfl) (by decide +kernel) (by rfl) (by decide +kernel) ?_
                  refine z_rcs0 hc hH 1 (pc' := 123) (lv' := [(6, .int 3), (5, .int 1), (4, .int (nB ((decide ((nI dl) = 3)) && (decide ((μ.1 50 41) = 1))))), (3, .int (nB ((((!(decide (0 ≤ (μ.1 61 0)))) || (!(decide (0 ≤ (μ.1 61 1))))) || (!(decide (0 ≤ (μ.1 61 2))))) || (!(decide (0 ≤ (μ.1 61 3))))))), (0, .ref 50), (1, .int 0), (2, .int (nB om))]) (st' := [.int 1, .ref 61, .int (μ.1 61 3)]) (by rfl) ?_
                  refine zq_iald hc hH (by rfl) 4 (oka_i (by decide +kernel)) (show vp_in (nI 1) 4 from vp_in_nI (by decide) (by decide)) ?_
                  rw [show (1 : Int32).toNatClampNeg = 1 from rfl]
                  refine zV1 (Z := Z) (Eq.trans (ui_o (by first | decide | omega)) (Eq.trans (ui_o (by first | decide | omega)) (Eq.trans (ui_o (by first | decide | omega)) (ui_o (by first | decide | omega))))) ?_
                  refine zq_ic hc hH (by rfl) (tg := 132) (by rfl) (fun h12 => ?_) (fun h12 => ?_)
                  · have h12 : (decide ((μ.1 61 3) ≤ (μ.1 61 1))) = true := decide_eq_true (cm_le.mp h12)
                    refine z_rcs0 hc hH 8 (pc' := 143) (lv' := [(6, .int 4), (5, .int 1), (4, .int (nB ((decide ((nI dl) = 3)) && (decide ((μ.1 50 41) = 1))))), (3, .int (nB ((((!(decide (0 ≤ (μ.1 61 0)))) || (!(decide (0 ≤ (μ.1 61 1))))) || (!(decide (0 ≤ (μ.1 61 2))))) || (!(decide (0 ≤ (μ.1 61 3))))))), (0, .ref 50), (1, .int 0), (2, .int (nB om))]) (st' := [.ref 50]) (by rfl) ?_
                    refine zq_gfr hc hH (by rfl) (ci := 6) (f := 29) (q := 61) (by rfl) (by decide +kernel) (by rfl) (by decide +kernel) ?_
                    refine z_rcs0 hc hH 2 (pc' := 149) (lv' := [(6, .int 4), (5, .int 1), (4, .int (nB ((decide ((nI dl) = 3)) && (decide ((μ.1 50 41) = 1))))), (3, .int (nB ((((!(decide (0 ≤ (μ.1 61 0)))) || (!(decide (0 ≤ (μ.1 61 1))))) || (!(decide (0 ≤ (μ.1 61 2))))) || (!(decide (0 ≤ (μ.1 61 3))))))), (0, .ref 50), (1, .int 0), (2, .int (nB om))]) (st' := [.int 1, .ref 61, .int 1, .ref 61]) (by rfl) ?_
                    refine zq_iald hc hH (by rfl) 4 (oka_i (by decide +kernel)) (show vp_in (nI 1) 4 from vp_in_nI (by decide) (by decide)) ?_
                    rw [show (1 : Int32).toNatClampNeg = 1 from rfl]
                    refine zV1 (Z := Z) (Eq.trans (ui_o (by first | decide | omega)) (Eq.trans (ui_o (by first | decide | omega)) (Eq.trans (ui_o (by first | decide | omega)) (ui_o (by first | decide | omega))))) ?_
                    refine z_rcs0 hc hH 2 (pc' := 154) (lv' := [(6, .int 4), (5, .int 1), (4, .int (nB ((decide ((nI dl) = 3)) && (decide ((μ.1 50 41) = 1))))), (3, .int (nB ((((!(decide (0 ≤ (μ.1 61 0)))) || (!(decide (0 ≤ (μ.1 61 1))))) || (!(decide (0 ≤ (μ.1 61 2))))) || (!(decide (0 ≤ (μ.1 61 3))))))), (0, .ref 50), (1, .int 0), (2, .int (nB om))]) (st' := [.ref 50, .int 1000, .int (μ.1 61 1), .int 1, .ref 61]) (by rfl) ?_
                    refine zq_gfi hc hH (by rfl) (ci := 6) (f := 43) (by rfl) (by decide +kernel) (by rfl) ?_
                    refine zV1 (Z := Z) (Eq.trans (ui_k (by first | decide | omega)) (Eq.trans (ui_k (by first | decide | omega)) (Eq.trans (ui_k (by first | decide | omega)) (ui_k (by first | decide | omega))))) ?_
                    refine z_rcs0 hc hH 2 (pc' := 159) (lv' := [(6, .int 4), (5, .int 1), (4, .int (nB ((decide ((nI dl) = 3)) && (decide ((μ.1 50 41) = 1))))), (3, .int (nB ((((!(decide (0 ≤ (μ.1 61 0)))) || (!(decide (0 ≤ (μ.1 61 1))))) || (!(decide (0 ≤ (μ.1 61 2))))) || (!(decide (0 ≤ (μ.1 61 3))))))), (0, .ref 50), (1, .int 0), (2, .int (nB om))]) (st' := [.int ((μ.1 61 1) + (1000 * (μ.1 50 43))), .int 1, .ref 61]) (by rfl) ?_
                    refine zq_iast hc hH (by rfl) 4 (oka_i (by decide +kernel)).2 (show vp_in (nI 1) 4 from vp_in_nI (by decide) (by decide)) ?_
                    rw [show (1 : Int32).toNatClampNeg = 1 from rfl]
                    show Z 0 160 [(6, .int 4), (5, .int 1), (4, .int (nB ((decide ((nI dl) = 3)) && (decide ((μ.1 50 41) = 1))))), (3, .int (nB ((((!(decide (0 ≤ (μ.1 61 0)))) || (!(decide (0 ≤ (μ.1 61 1))))) || (!(decide (0 ≤ (μ.1 61 2))))) || (!(decide (0 ≤ (μ.1 61 3))))))), (0, .ref 50), (1, .int 0), (2, .int (nB om))] [] (z_ui (z_ui (z_ui (z_ui (z_ui μ 50 44 0) 50 49 (-1)) 50 52 ((μ.1 50 52) + 1)) 50 54 1) 61 1 ((μ.1 61 1) + (1000 * (μ.1 50 43))))
                    refine z_rcs0 hc hH 2 (pc' := 162) (lv' := [(6, .int 4), (5, .int 1), (4, .int (nB ((decide ((nI dl) = 3)) && (decide ((μ.1 50 41) = 1))))), (3, .int (nB ((((!(decide (0 ≤ (μ.1 61 0)))) || (!(decide (0 ≤ (μ.1 61 1))))) || (!(decide (0 ≤ (μ.1 61 2))))) || (!(decide (0 ≤ (μ.1 61 3))))))), (0, .ref 50), (1, .int 0), (2, .int (nB om))]) (st' := [.int 0, .ref 50]) (by rfl) ?_
                    refine zq_pfi hc hH (by rfl) (ci := 6) (f := 43) (by rfl) (by decide +kernel) (by rfl) ?_
                    show Z 0 165 [(6, .int 4), (5, .int 1), (4, .int (nB ((decide ((nI dl) = 3)) && (decide ((μ.1 50 41) = 1))))), (3, .int (nB ((((!(decide (0 ≤ (μ.1 61 0)))) || (!(decide (0 ≤ (μ.1 61 1))))) || (!(decide (0 ≤ (μ.1 61 2))))) || (!(decide (0 ≤ (μ.1 61 3))))))), (0, .ref 50), (1, .int 0), (2, .int (nB om))] [] (z_ui (z_ui (z_ui (z_ui (z_ui (z_ui μ 50 44 0) 50 49 (-1)) 50 52 ((μ.1 50 52) + 1)) 50 54 1) 61 1 ((μ.1 61 1) + (1000 * (μ.1 50 43)))) 50 43 0)
                    exact hr 0 165 _ _ _ none (by decide +kernel) (by rfl) (⟨rfl, (by unfold eM0; simp only [h6, h7, h11, h12, cond_true, cond_false])⟩)
                  · have h12 : (decide ((μ.1 61 3) ≤ (μ.1 61 1))) = false := decide_eq_false (cn_le.mp h12)
                    refine z_rcs hc hH 9 (pc' := 143) (lv' := [(6, .int 4), (5, .int 3), (4, .int (nB ((decide ((nI dl) = 3)) && (decide ((μ.1 50 41) = 1))))), (3, .int (nB ((((!(decide (0 ≤ (μ.1 61 0)))) || (!(decide (0 ≤ (μ.1 61 1))))) || (!(decide (0 ≤ (μ.1 61 2))))) || (!(decide (0 ≤ (μ.1 61 3))))))), (0, .ref 50), (1, .int 0), (2, .int (nB om))]) (st' := [.ref 50]) (μ' := z_ui (z_ui (z_ui (z_ui μ 50 44 0) 50 49 (-1)) 50 52 ((μ.1 50 52) + 1)) 50 54 1) (by rfl) ?_
                    refine zq_gfr hc hH (by rfl) (ci := 6) (f := 29) (q := 61) (by rfl) (by decide +kernel) (by rfl) (by decide +kernel) ?_
                    refine z_rcs0 hc hH 2 (pc' := 149) (lv' := [(6, .int 4), (5, .int 3), (4, .int (nB ((decide ((nI dl) = 3)) && (decide ((μ.1 50 41) = 1))))), (3, .int (nB ((((!(decide (0 ≤ (μ.1 61 0)))) || (!(decide (0 ≤ (μ.1 61 1))))) || (!(decide (0 ≤ (μ.1 61 2))))) || (!(decide (0 ≤ (μ.1 61 3))))))), (0, .ref 50), (1, .int 0), (2, .int (nB om))]) (st' := [.int 3, .ref 61, .int 3, .ref 61]) (by rfl) ?_
                    refine zq_iald hc hH (by rfl) 4 (oka_i (by decide +kernel)) (show vp_in (nI 3) 4 from vp_in_nI (by decide) (by decide)) ?_
                    rw [show (3 : Int32).toNatClampNeg = 3 from rfl]
                    refine zV1 (Z := Z) (Eq.trans (ui_o (by first | decide | omega)) (Eq.trans (ui_o (by first | decide | omega)) (Eq.trans (ui_o (by first | decide | omega)) (ui_o (by first | decide | omega))))) ?_
                    refine z_rcs0 hc hH 2 (pc' := 154) (lv' := [(6, .int 4), (5, .int 3), (4, .int (nB ((decide ((nI dl) = 3)) && (decide ((μ.1 50 41) = 1))))), (3, .int (nB ((((!(decide (0 ≤ (μ.1 61 0)))) || (!(decide (0 ≤ (μ.1 61 1))))) || (!(decide (0 ≤ (μ.1 61 2))))) || (!(decide (0 ≤ (μ.1 61 3))))))), (0, .ref 50), (1, .int 0), (2, .int (nB om))]) (st' := [.ref 50, .int 1000, .int (μ.1 61 3), .int 3, .ref 61]) (by rfl) ?_
                    refine zq_gfi hc hH (by rfl) (ci := 6) (f := 43) (by rfl) (by decide +kernel) (by rfl) ?_
                    refine zV1 (Z := Z) (Eq.trans (ui_k (by first | decide | omega)) (Eq.trans (ui_k (by first | decide | omega)) (Eq.trans (ui_k (by first | decide | omega)) (ui_k (by first | decide | omega))))) ?_
                    refine z_rcs0 hc hH 2 (pc' := 159) (lv' := [(6, .int 4), (5, .int 3), (4, .int (nB ((decide ((nI dl) = 3)) && (decide ((μ.1 50 41) = 1))))), (3, .int (nB ((((!(decide (0 ≤ (μ.1 61 0)))) || (!(decide (0 ≤ (μ.1 61 1))))) || (!(decide (0 ≤ (μ.1 61 2))))) || (!(decide (0 ≤ (μ.1 61 3))))))), (0, .ref 50), (1, .int 0), (2, .int (nB om))]) (st' := [.int ((μ.1 61 3) + (1000 * (μ.1 50 43))), .int 3, .ref 61]) (by rfl) ?_
                    refine zq_iast hc hH (by rfl) 4 (oka_i (by decide +kernel)).2 (show vp_in (nI 3) 4 from vp_in_nI (by decide) (by decide)) ?_
                    rw [show (3 : Int32).toNatClampNeg = 3 from rfl]
                    show Z 0 160 [(6, .int 4), (5, .int 3), (4, .int (nB ((decide ((nI dl) = 3)) && (decide ((μ.1 50 41) = 1))))), (3, .int (nB ((((!(decide (0 ≤ (μ.1 61 0)))) || (!(decide (0 ≤ (μ.1 61 1))))) || (!(decide (0 ≤ (μ.1 61 2))))) || (!(decide (0 ≤ (μ.1 61 3))))))), (0, .ref 50), (1, .int 0), (2, .int (nB om))] [] (z_ui (z_ui (z_ui (z_ui (z_ui μ 50 44 0) 50 49 (-1)) 50 52 ((μ.1 50 52) + 1)) 50 54 1) 61 3 ((μ.1 61 3) + (1000 * (μ.1 50 43))))
                    refine z_rcs0 hc hH 2 (pc' := 162) (lv' := [(6, .int 4), (5, .int 3), (4, .int (nB ((decide ((nI dl) = 3)) && (decide ((μ.1 50 41) = 1))))), (3, .int (nB ((((!(decide (0 ≤ (μ.1 61 0)))) || (!(decide (0 ≤ (μ.1 61 1))))) || (!(decide (0 ≤ (μ.1 61 2))))) || (!(decide (0 ≤ (μ.1 61 3))))))), (0, .ref 50), (1, .int 0), (2, .int (nB om))]) (st' := [.int 0, .ref 50]) (by rfl) ?_
                    refine zq_pfi hc hH (by rfl) (ci := 6) (f := 43) (by rfl) (by decide +kernel) (by rfl) ?_
                    show Z 0 165 [(6, .int 4), (5, .int 3), (4, .int (nB ((decide ((nI dl) = 3)) && (decide ((μ.1 50 41) = 1))))), (3, .int (nB ((((!(decide (0 ≤ (μ.1 61 0)))) || (!(decide (0 ≤ (μ.1 61 1))))) || (!(decide (0 ≤ (μ.1 61 2))))) || (!(decide (0 ≤ (μ.1 61 3))))))), (0, .ref 50), (1, .int 0), (2, .int (nB om))] [] (z_ui (z_ui (z_ui (z_ui (z_ui (z_ui μ 50 44 0) 50 49 (-1)) 50 52 ((μ.1 50 52) + 1)) 50 54 1) 61 3 ((μ.1 61 3) + (1000 * (μ.1 50 43)))) 50 43 0)
                    exact hr 0 165 _ _ _ none (by decide +kernel) (by rfl) (⟨rfl, (by unfold eM0; simp only [h6, h7, h11, h12, cond_true, cond_false])⟩)
                · have h11 : (decide ((μ.1 61 2) ≤ (μ.1 61 1))) = false := decide_eq_false (cn_le.mp h11)
                  refine z_rcs hc hH 9 (pc' := 111) (lv' := [(6, .int 3), (5, .int 2), (4, .int (nB ((decide ((nI dl) = 3)) && (decide ((μ.1 50 41) = 1))))), (3, .int (nB ((((!(decide (0 ≤ (μ.1 61 0)))) || (!(decide (0 ≤ (μ.1 61 1))))) || (!(decide (0 ≤ (μ.1 61 2))))) || (!(decide (0 ≤ (μ.1 61 3))))))), (0, .ref 50), (1, .int 0), (2, .int (nB om))]) (st' := [.ref 50]) (μ' := z_ui (z_ui (z_ui (z_ui μ 50 44 0) 50 49 (-1)) 50 52 ((μ.1 50 52) + 1)) 50 54 1) (by rfl) ?_
                  refine zq_gfr hc hH (by rfl) (ci := 6) (f := 29) (q := 61) (by rfl) (by decide +kernel) (by rfl) (by decide +kernel) ?_
                  refine z_rcs0 hc hH 1 (pc' := 116) (lv' := [(6, .int 3), (5, .int 2), (4, .int (nB ((decide ((nI dl) = 3)) && (decide ((μ.1 50 41) = 1))))), (3, .int (nB ((((!(decide (0 ≤ (μ.1 61 0)))) || (!(decide (0 ≤ (μ.1 61 1))))) || (!(decide (0 ≤ (μ.1 61 2))))) || (!(decide (0 ≤ (μ.1 61 3))))))), (0, .ref 50), (1, .int 0), (2, .int (nB om))]) (st' := [.int 3, .ref 61]) (by rfl) ?_
                  refine zq_iald hc hH (by rfl) 4 (oka_i (by decide +kernel)) (show vp_in (nI 3) 4 from vp_in_nI (by decide) (by decide)) ?_
                  rw [show (3 : Int32).toNatClampNeg = 3 from rfl]
                  refine zV1 (Z := Z) (Eq.trans (ui_o (by first | decide | omega)) (Eq.trans (ui_o (by first | decide | omega)) (Eq.trans (ui_o (by first | decide | omega)) (ui_o (by first | decide | omega))))) ?_
                  refine z_rcs0 hc hH 1 (pc' := 118) (lv' := [(6, .int 3), (5, .int 2), (4, .int (nB ((decide ((nI dl) = 3)) && (decide ((μ.1 50 41) = 1))))), (3, .int (nB ((((!(decide (0 ≤ (μ.1 61 0)))) || (!(decide (0 ≤ (μ.1 61 1))))) || (!(decide (0 ≤ (μ.1 61 2))))) || (!(decide (0 ≤ (μ.1 61 3))))))), (0, .ref 50), (1, .int 0), (2, .int (nB om))]) (st' := [.ref 50, .int (μ.1 61 3)]) (by rfl) ?_
                  refine zq_gfr hc hH (by rfl) (ci := 6) (f := 29) (q := 61) (by rfl) (by decide +kernel) (by rfl) (by decide +kernel) ?_
                  refine z_rcs0 hc hH 1 (pc' := 123) (lv' := [(6, .int 3), (5, .int 2), (4, .int (nB ((decide ((nI dl) = 3)) && (decide ((μ.1 50 41) = 1))))), (3, .int (nB ((((!(decide (0 ≤ (μ.1 61 0)))) || (!(decide (0 ≤ (μ.1 61 1))))) || (!(decide (0 ≤ (μ.1 61 2))))) || (!(decide (0 ≤ (μ.1 61 3))))))), (0, .ref 50), (1, .int 0), (2, .int (nB om))]) (st' := [.int 2, .ref 61, .int (μ.1 61 3)]) (by rfl) ?_
                  refine zq_iald hc hH (by rfl) 4 (oka_i (by decide +kernel)) (show vp_in (nI 2) 4 from vp_in_nI (by decide) (by decide)) ?_
                  rw [show (2 : Int32).toNatClampNeg = 2 from rfl]
                  refine zV1 (Z := Z) (Eq.trans (ui_o (by first | decide | omega)) (Eq.trans (ui_o (by first | decide | omega)) (Eq.trans (ui_o (by first | decide | omega)) (ui_o (by first | decide | omega))))) ?_
                  refine zq_ic hc hH (by rfl) (tg := 132) (by rfl) (fun h13 => ?_) (fun h13 => ?_)
                  · have h13 : (decide ((μ.1 61 3) ≤ (μ.1 61 2))) = true := decide_eq_true (cm_le.mp h13)
                    refine z_rcs0 hc hH 8 (pc' := 143) (lv' := [(6, .int 4), (5, .int 2), (4, .int (nB ((decide ((nI dl) = 3)) && (decide ((μ.1 50 41) = 1))))), (3, .int (nB ((((!(decide (0 ≤ (μ.1 61 0)))) || (!(decide (0 ≤ (μ.1 61 1))))) || (!(decide (0 ≤ (μ.1 61 2))))) || (!(decide (0 ≤ (μ.1 61 3))))))), (0, .ref 50), (1, .int 0), (2, .int (nB om))]) (st' := [.ref 50]) (by rfl) ?_
                    refine zq_gfr hc hH (by rfl) (ci := 6) (f := 29) (q := 61) (by rfl) (by decide +kernel) (by rfl) (by decide +kernel) ?_
                    refine z_rcs0 hc hH 2 (pc' := 149) (lv' := [(6, .int 4), (5, .int 2), (4, .int (nB ((decide ((nI dl) = 3)) && (decide ((μ.1 50 41) = 1))))), (3, .int (nB ((((!(decide (0 ≤ (μ.1 61 0)))) || (!(decide (0 ≤ (μ.1 61 1))))) || (!(decide (0 ≤ (μ.1 61 2))))) || (!(decide (0 ≤ (μ.1 61 3))))))), (0, .ref 50), (1, .int 0), (2, .int (nB om))]) (st' := [.int 2, .ref 61, .int 2, .ref 61]) (by rfl) ?_
                    refine zq_iald hc hH (by rfl) 4 (oka_i (by decide +kernel)) (show vp_in (nI 2) 4 from vp_in_nI (by decide) (by decide)) ?_
                    rw [show (2 : Int32).toNatClampNeg = 2 from rfl]
                    refine zV1 (Z := Z) (Eq.trans (ui_o (by first | decide | omega)) (Eq.trans (ui_o (by first | decide | omega)) (Eq.trans (ui_o (by first | decide | omega)) (ui_o (by first | decide | omega))))) ?_
                    refine z_rcs0 hc hH 2 (pc' := 154) (lv' := [(6, .int 4), (5, .int 2), (4, .int (nB ((decide ((nI dl) = 3)) && (decide ((μ.1 50 41) = 1))))), (3, .int (nB ((((!(decide (0 ≤ (μ.1 61 0)))) || (!(decide (0 ≤ (μ.1 61 1))))) || (!(decide (0 ≤ (μ.1 61 2))))) || (!(decide (0 ≤ (μ.1 61 3))))))), (0, .ref 50), (1, .int 0), (2, .int (nB om))]) (st' := [.ref 50, .int 1000, .int (μ.1 61 2), .int 2, .ref 61]) (by rfl) ?_
                    refine zq_gfi hc hH (by rfl) (ci := 6) (f := 43) (by rfl) (by decide +kernel) (by rfl) ?_
                    refine zV1 (Z := Z) (Eq.trans (ui_k (by first | decide | omega)) (Eq.trans (ui_k (by first | decide | omega)) (Eq.trans (ui_k (by first | decide | omega)) (ui_k (by first | decide | omega))))) ?_
                    refine z_rcs0 hc hH 2 (pc' := 159) (lv' := [(6, .int 4), (5, .int 2), (4, .int (nB ((decide ((nI dl) = 3)) && (decide ((μ.1 50 41) = 1))))), (3, .int (nB ((((!(decide (0 ≤ (μ.1 61 0)))) || (!(decide (0 ≤ (μ.1 61 1))))) || (!(decide (0 ≤ (μ.1 61 2))))) || (!(decide (0 ≤ (μ.1 61 3))))))), (0, .ref 50), (1, .int 0), (2, .int (nB om))]) (st' := [.int ((μ.1 61 2) + (1000 * (μ.1 50 43))), .int 2, .ref 61]) (by rfl) ?_
                    refine zq_iast hc hH (by rfl) 4 (oka_i (by decide +kernel)).2 (show vp_in (nI 2) 4 from vp_in_nI (by decide) (by decide)) ?_
                    rw [show (2 : Int32).toNatClampNeg = 2 from rfl]
                    show Z 0 160 [(6, .int 4), (5, .int 2), (4, .int (nB ((decide ((nI dl) = 3)) && (decide ((μ.1 50 41) = 1))))), (3, .int (nB ((((!(decide (0 ≤ (μ.1 61 0)))) || (!(decide (0 ≤ (μ.1 61 1))))) || (!(decide (0 ≤ (μ.1 61 2))))) || (!(decide (0 ≤ (μ.1 61 3))))))), (0, .ref 50), (1, .int 0), (2, .int (nB om))] [] (z_ui (z_ui (z_ui (z_ui (z_ui μ 50 44 0) 50 49 (-1)) 50 52 ((μ.1 50 52) + 1)) 50 54 1) 61 2 ((μ.1 61 2) + (1000 * (μ.1 50 43))))
                    refine z_rcs0 hc hH 2 (pc' := 162) (lv' := [(6, .int 4), (5, .int 2), (4, .int (nB ((decide ((nI dl) = 3)) && (decide ((μ.1 50 41) = 1))))), (3, .int (nB ((((!(decide (0 ≤ (μ.1 61 0)))) || (!(decide (0 ≤ (μ.1 61 1))))) || (!(decide (0 ≤ (μ.1 61 2))))) || (!(decide (0 ≤ (μ.1 61 3))))))), (0, .ref 50), (1, .int 0), (2, .int (nB om))]) (st' := [.int 0, .ref 50]) (by rfl) ?_
                    refine zq_pfi hc hH (by rfl) (ci := 6) (f := 43) (by rfl) (by decide +kernel) (by rfl) ?_
                    show Z 0 165 [(6, .int 4), (5, .int 2), (4, .int (nB ((decide ((nI dl) = 3)) && (decide ((μ.1 50 41) = 1))))), (3, .int (nB ((((!(decide (0 ≤ (μ.1 61 0)))) || (!(decide (0 ≤ (μ.1 61 1))))) || (!(decide (0 ≤ (μ.1 61 2))))) || (!(decide (0 ≤ (μ.1 61 3))))))), (0, .ref 50), (1, .int 0), (2, .int (nB om))] [] (z_ui (z_ui (z_ui (z_ui (z_ui (z_ui μ 50 44 0) 50 49 (-1)) 50 52 ((μ.1 50 52) + 1)) 50 54 1) 61 2 ((μ.1 61 2) + (1000 * (μ.1 50 43)))) 50 43 0)
                    exact hr 0 165 _ _ _ none (by decide +kernel) (by rfl) (⟨rfl, (by unfold eM0; simp only [h6, h7, h11, h13, cond_true, cond_false])⟩)
                  · have h13 : (decide ((μ.1 61 3) ≤ (μ.1 61 2))) = false := decide_eq_false (cn_le.mp h13)
                    refine z_rcs hc hH 9 (pc' := 143) (lv' := [(6, .int 4), (5, .int 3), (4, .int (nB ((decide ((nI dl) = 3)) && (decide ((μ.1 50 41) = 1))))), (3, .int (nB ((((!(decide (0 ≤ (μ.1 61 0)))) || (!(decide (0 ≤ (μ.1 61 1))))) || (!(decide (0 ≤ (μ.1 61 2))))) || (!(decide (0 ≤ (μ.1 61 3))))))), (0, .ref 50), (1, .int 0), (2, .int (nB om))]) (st' := [.ref 50]) (μ' := z_ui (z_ui (z_ui (z_ui μ 50 44 0) 50 49 (-1)) 50 52 ((μ.1 50 52) + 1)) 50 54 1) (by rfl) ?_
                    refine zq_gfr hc hH (by rfl) (ci := 6) (f := 29) (q := 61) (by rfl) (by decide +kernel) (by rfl) (by decide +kernel) ?_
                    refine z_rcs0 hc hH 2 (pc' := 149) (lv' := [(6, .int 4), (5, .int 3), (4, .int (nB ((decide ((nI dl) = 3)) && (decide ((μ.1 50 41) = 1))))), (3, .int (nB ((((!(decide (0 ≤ (μ.1 61 0)))) || (!(decide (0 ≤ (μ.1 61 1))))) || (!(decide (0 ≤ (μ.1 61 2))))) || (!(decide (0 ≤ (μ.1 61 3))))))), (0, .ref 50), (1, .int 0), (2, .int (nB om))]) (st' := [.int 3, .ref 61, .int 3, .ref 61]) (by rfl) ?_
                    refine zq_iald hc hH (by rfl) 4 (oka_i (by decide +kernel)) (show vp_in (nI 3) 4 from vp_in_nI (by decide) (by decide)) ?_
                    rw [show (3 : Int32).toNatClampNeg = 3 from rfl]
                    refine zV1 (Z := Z) (Eq.trans (ui_o (by first | decide | omega)) (Eq.trans (ui_o (by first | decide | omega)) (Eq.trans (ui_o (by first | decide | omega)) (ui_o (by first | decide | omega))))) ?_
                    refine z_rcs0 hc hH 2 (pc' := 154) (lv' := [(6, .int 4), (5, .int 3), (4, .int (nB ((decide ((nI dl) = 3)) && (decide ((μ.1 50 41) = 1))))), (3, .int (nB ((((!(decide (0 ≤ (μ.1 61 0)))) || (!(decide (0 ≤ (μ.1 61 1))))) || (!(decide (0 ≤ (μ.1 61 2))))) || (!(decide (0 ≤ (μ.1 61 3))))))), (0, .ref 50), (1, .int 0), (2, .int (nB om))]) (st' := [.ref 50, .int 1000, .int (μ.1 61 3), .int 3, .ref 61]) (by rfl) ?_
                    refine zq_gfi hc hH (by rfl) (ci := 6) (f := 43) (by rfl) (by decide +kernel) (by rfl) ?_
                    refine zV1 (Z := Z) (Eq.trans (ui_k (by first | decide | omega)) (Eq.trans (ui_k (by first | decide | omega)) (Eq.trans (ui_k (by first | decide | omega)) (ui_k (by first | decide | omega))))) ?_
                    refine z_rcs0 hc hH 2 (pc' := 159) (lv' := [(6, .int 4), (5, .int 3), (4, .int (nB ((decide ((nI dl) = 3)) && (decide ((μ.1 50 41) = 1))))), (3, .int (nB ((((!(decide (0 ≤ (μ.1 61 0)))) || (!(decide (0 ≤ (μ.1 61 1))))) || (!(decide (0 ≤ (μ.1 61 2))))) || (!(decide (0 ≤ (μ.1 61 3))))))), (0, .ref 50), (1, .int 0), (2, .int (nB om))]) (st' := [.int ((μ.1 61 3) + (1000 * (μ.1 50 43))), .int 3, .ref 61]) (by rfl) ?_
                    refine zq_iast hc hH (by rfl) 4 (oka_i (by decide +kernel)).2 (show vp_in (nI 3) 4 from vp_in_nI (by decide) (by decide)) ?_
                    rw [show (3 : Int32).toNatClampNeg = 3 from rfl]
                    show Z 0 160 [(6, .int 4), (5, .int 3), (4, .int (nB ((decide ((nI dl) = 3)) && (decide ((μ.1 50 41) = 1))))), (3, .int (nB ((((!(decide (0 ≤ (μ.1 61 0)))) || (!(decide (0 ≤ (μ.1 61 1))))) || (!(decide (0 ≤ (μ.1 61 2))))) || (!(decide (0 ≤ (μ.1 61 3))))))), (0, .ref 50), (1, .int 0), (2, .int (nB om))] [] (z_ui (z_ui (z_ui (z_ui (z_ui μ 50 44 0) 50 49 (-1)) 50 52 ((μ.1 50 52) + 1)) 50 54 1) 61 3 ((μ.1 61 3) + (1000 * (μ.1 50 43))))
                    refine z_rcs0 hc hH 2 (pc' := 162) (lv' := [(6, .int 4), (5, .int 3), (4, .int (nB ((decide ((nI dl) = 3)) && (decide ((μ.1 50 41) = 1))))), (3, .int (nB ((((!(decide (0 ≤ (μ.1 61 0)))) || (!(decide (0 ≤ (μ.1 61 1))))) || (!(decide (0 ≤ (μ.1 61 2))))) || (!(decide (0 ≤ (μ.1 61 3))))))), (0, .ref 50), (1, .int 0), (2, .int (nB om))]) (st' := [.int 0, .ref 50]) (by rfl) ?_
                    refine zq_pfi hc hH (by rfl) (ci := 6) (f := 43) (by rfl) (by decide +kernel) (by rfl) ?_
                    show Z 0 165 [(6, .int 4), (5, .int 3), (4, .int (nB ((decide ((nI dl) = 3)) && (decide ((μ.1 50 41) = 1))))), (3, .int (nB ((((!(decide (0 ≤ (μ.1 61 0)))) || (!(decide (0 ≤ (μ.1 61 1))))) || (!(decide (0 ≤ (μ.1 61 2))))) || (!(decide (0 ≤ (μ.1 61 3))))))), (0, .ref 50), (1, .int 0), (2, .int (nB om))] [] (z_ui (z_ui (z_ui (z_ui (z_ui (z_ui μ 50 44 0) 50 49 (-1)) 50 52 ((μ.1 50 52) + 1)) 50 54 1) 61 3 ((μ.1 61 3) + (1000 * (μ.1 50 43)))) 50 43 0)
                    exact hr 0 165 _ _ _ none (by decide +kernel) (by rfl) (⟨rfl, (by unfold eM0; simp only [h6, h7, h11, h13, cond_true, cond_false])⟩)
            · have h6 : ((((!(decide (0 ≤ (μ.1 61 0)))) || (!(decide (0 ≤ (μ.1 61 1))))) || (!(decide (0 ≤ (μ.1 61 2))))) || (!(decide (0 ≤ (μ.1 61 3))))) = false := nB_z.mp (cn_ne.mp h6)
              refine z_rcs hc hH 1 (pc' := 90) (lv' := [(4, .int (nB ((decide ((nI dl) = 3)) && (decide ((μ.1 50 41) = 1))))), (3, .int (nB ((((!(decide (0 ≤ (μ.1 61 0)))) || (!(decide (0 ≤ (μ.1 61 1))))) || (!(decide (0 ≤ (μ.1 61 2))))) || (!(decide (0 ≤ (μ.1 61 3))))))), (0, .ref 50), (1, .int 0), (2, .int (nB om))]) (st' := [.int (nB ((decide ((nI dl) = 3)) && (decide ((μ.1 50 41) = 1))))]) (μ' := z_ui (z_ui (z_ui μ 50 44 0) 50 49 (-1)) 50 52 ((μ.1 50 52) + 1)) (by rfl) ?_
              refine zq_if hc hH (by rfl) (tg := 166) (by rfl) (fun h14 => ?_) (fun h14 => ?_)
              · have h14 : ((decide ((nI dl) = 3)) && (decide ((μ.1 50 41) = 1))) = false := nB_z.mp (cm_eq9.mp h14)
                refine z_rcs0 hc hH 4 (pc' := 172) (lv' := [(4, .int (nB ((decide ((nI dl) = 3)) && (decide ((μ.1 50 41) = 1))))), (3, .int (nB ((((!(decide (0 ≤ (μ.1 61 0)))) || (!(decide (0 ≤ (μ.1 61 1))))) || (!(decide (0 ≤ (μ.1 61 2))))) || (!(decide (0 ≤ (μ.1 61 3))))))), (0, .ref 50), (1, .int 0), (2, .int (nB om))]) (st' := [.ref 50, .ref 50]) (by rfl) ?_
                refine zq_gfi hc hH (by rfl) (ci := 6) (f := 41) (by rfl) (by decide +kernel) (by rfl) ?_
                refine zV1 (Z := Z) (Eq.trans (ui_k (by first | decide | omega)) (Eq.trans (ui_k (by first | decide | omega)) (ui_k (by first | decide | omega)))) ?_
                refine z_rcs0 hc hH 1 (pc' := 176) (lv' := [(4, .int (nB ((decide ((nI dl) = 3)) && (decide ((μ.1 50 41) = 1))))), (3, .int (nB ((((!(decide (0 ≤ (μ.1 61 0)))) || (!(decide (0 ≤ (μ.1 61 1))))) || (!(decide (0 ≤ (μ.1 61 2))))) || (!(decide (0 ≤ (μ.1 61 3))))))), (0, .ref 50), (1, .int 0), (2, .int (nB om))]) (st' := [.ref 50, .int (μ.1 50 41), .ref 50]) (by rfl) ?_
                refine zq_gfi hc hH (by rfl) (ci := 6) (f := 40) (by rfl) (by decide +kernel) (by rfl) ?_
                refine zV1 (Z := Z) (Eq.trans (ui_k (by first | decide | omega)) (Eq.trans (ui_k (by first | decide | omega)) (ui_k (by first | decide | omega)))) ?_
                rw [hdl]
                refine z_rcs0 hc hH 1 (pc' := 180) (lv' := [(4, .int (nB ((decide ((nI dl) = 3)) && (decide ((μ.1 50 41) = 1))))), (3, .int (nB ((((!(decide (0 ≤ (μ.1 61 0)))) || (!(decide (0 ≤ (μ.1 61 1))))) || (!(decide (0 ≤ (μ.1 61 2))))) || (!(decide (0 ≤ (μ.1 61 3))))))), (0, .ref 50), (1, .int 0), (2, .int (nB om))]) (st' := [.int 3, .int (nI dl), .int (μ.1 50 41), .ref 50]) (by rfl) ?_
                have hJ15 : Z 0 188 [(4, .int (nB ((decide ((nI dl) = 3)) && (decide ((μ.1 50 41) = 1))))), (3, .int (nB ((((!(decide (0 ≤ (μ.1 61 0)))) || (!(decide (0 ≤ (μ.1 61 1))))) || (!(decide (0 ≤ (μ.1 61 2))))) || (!(decide (0 ≤ (μ.1 61 3))))))), (0, .ref 50), (1, .int 0), (2, .int (nB om))] [.int (nB (decide ((nI dl) = 3))), .int (μ.1 50 41), .ref 50] (z_ui (z_ui (z_ui μ 50 44 0) 50 49 (-1)) 50 52 ((μ.1 50 52) + 1)) := by
                  refine z_rcs0 hc hH 1 (pc' := 189) (lv' := [(4, .int (nB ((decide ((nI dl) = 3)) && (decide ((μ.1 50 41) = 1))))), (3, .int (nB ((((!(decide (0 ≤ (μ.1 61 0)))) || (!(decide (0 ≤ (μ.1 61 1))))) || (!(decide (0 ≤ (μ.1 61 2))))) || (!(decide (0 ≤ (μ.1 61 3))))))), (0, .ref 50), (1, .int 0), (2, .int (nB om))]) (st' := [.int ((μ.1 50 41) + (nB (decide ((nI dl) = 3)))), .ref 50]) (by rfl) ?_
                  refine zq_pfi hc hH (by rfl) (ci := 6) (f := 41) (by rfl) (by decide +kernel) (by rfl) ?_
                  show Z 0 192 [(4, .int (nB ((decide ((nI dl) = 3)) && (decide ((μ.1 50 41) = 1))))), (3, .int (nB ((((!(decide (0 ≤ (μ.1 61 0)))) || (!(decide (0 ≤ (μ.1 61 1))))) || (!(decide (0 ≤ (μ.1 61 2))))) || (!(decide (0 ≤ (μ.1 61 3))))))), (0, .ref 50), (1, .int 0), (2, .int (nB om))] [] (z_ui (z_ui (z_ui (z_ui μ 50 44 0) 50 49 (-1)) 50 52 ((μ.1 50 52) + 1)) 50 41 ((μ.1 50 41) + (nB (decide ((nI dl) = 3)))))
                  refine z_rcs0 hc hH 2 (pc' := 194) (lv' := [(4, .int (nB ((decide ((nI dl) = 3)) && (decide ((μ.1 50 41) = 1))))), (3, .int (nB ((((!(decide (0 ≤ (μ.1 61 0)))) || (!(decide (0 ≤ (μ.1 61 1))))) || (!(decide (0 ≤ (μ.1 61 2))))) || (!(decide (0 ≤ (μ.1 61 3))))))), (0, .ref 50), (1, .int 0), (2, .int (nB om))]) (st' := [.ref 50, .ref 50]) (by rfl) ?_
                  refine zq_gfi hc hH (by rfl) (ci := 6) (f := 40) (by rfl) (by decide +kernel) (by rfl) ?_
                  refine zV1 (Z := Z) (Eq.trans (ui_k (by first | decide | omega)) (Eq.trans (ui_k (by first | decide | omega)) (Eq.trans (ui_k (by first | decide | omega)) (ui_k (by first | decide | omega))))) ?_
                  rw [hdl]
                  refine z_rcs0 hc hH 2 (pc' := 199) (lv' := [(4, .int (nB ((decide ((nI dl) = 3)) && (decide ((μ.1 50 41) = 1))))), (3, .int (nB ((((!(decide (0 ≤ (μ.1 61 0)))) || (!(decide (0 ≤ (μ.1 61 1))))) || (!(decide (0 ≤ (μ.1 61 2))))) || (!(decide (0 ≤ (μ.1 61 3))))))), (0, .ref 50), (1, .int 0), (2, .int (nB om))]) (st' := [.int ((nI dl) + 1), .ref 50]) (by rfl) ?_
                  rw [nI_s1]
                  refine z_rcs0 hc hH 2 (pc' := 201) (lv' := [(4, .int (nB ((decide ((nI dl) = 3)) && (decide ((μ.1 50 41) = 1))))), (3, .int (nB ((((!(decide (0 ≤ (μ.1 61 0)))) || (!(decide (0 ≤ (μ.1 61 1))))) || (!(decide (0 ≤ (μ.1 61 2))))) || (!(decide (0 ≤ (μ.1 61 3))))))), (0, .ref 50), (1, .int 0), (2, .int (nB om))]) (st' := [.int ((nI (dl + 1)) - (nI (dl + 1)) / 4 * 4), .ref 50]) (by rfl) ?_
                  rw [show nI (dl + 1) - nI (dl + 1) / 4 * 4 = nI e from by rw [nI_r4 _ (by omega), he]]
                  refine zq_pfi hc hH (by rfl) (ci := 6) (f := 40) (by rfl) (by decide +kernel) (by rfl) ?_
                  show Z 0 204 [(4, .int (nB ((decide ((nI dl) = 3)) && (decide ((μ.1 50 41) = 1))))), (3, .int (nB ((((!(decide (0 ≤ (μ.1 61 0)))) || (!(decide (0 ≤ (μ.1 61 1))))) || (!(decide (0 ≤ (μ.1 61 2))))) || (!(decide (0 ≤ (μ.1 61 3))))))), (0, .ref 50), (1, .int 0), (2, .int (nB om))] [] (z_ui (z_ui (z_ui (z_ui (z_ui μ 50 44 0) 50 49 (-1)) 50 52 ((μ.1 50 52) + 1)) 50 41 ((μ.1 50 41) + (nB (decide ((nI dl) = 3))))) 50 40 (nI e))
                  refine z_rcs0 hc hH 2 (pc' := 206) (lv' := [(4, .int (nB ((decide ((nI dl) = 3)) && (decide ((μ.1 50 41) = 1))))), (3, .int (nB ((((!(decide (0 ≤ (μ.1 61 0)))) || (!(decide (0 ≤ (μ.1 61 1))))) || (!(decide (0 ≤ (μ.1 61 2))))) || (!(decide (0 ≤ (μ.1 61 3))))))), (0, .ref 50), (1, .int 0), (2, .int (nB om))]) (st' := [.int (nB om), .ref 50]) (by rfl) ?_
                  have hJ16 : Z 0 219 [(4, .int (nB ((decide ((nI dl) = 3)) && (decide ((μ.1 50 41) = 1))))), (3, .int (nB ((((!(decide (0 ≤ (μ.1 61 0)))) || (!(decide (0 ≤ (μ.1 61 1))))) || (!(decide (0 ≤ (μ.1 61 2))))) || (!(decide (0 ≤ (μ.1 61 3))))))), (0, .ref 50), (1, .int 0), (2, .int (nB om))] [.int (bif om then (μ.1 50 42) + 1 else 0), .ref 50] (z_ui (z_ui (z_ui (z_ui (z_ui μ 50 44 0) 50 49 (-1)) 50 52 ((μ.1 50 52) + 1)) 50 41 ((μ.1 50 41) + (nB (decide ((nI dl) = 3))))) 50 40 (nI e)) := by
                    refine zq_pfi hc hH (by rfl) (ci := 6) (f := 42) (by rfl) (by decide +kernel) (by rfl) ?_
                    show Z 0 222 [(4, .int (nB ((decide ((nI dl) = 3)) && (decide ((μ.1 50 41) = 1))))), (3, .int (nB ((((!(decide (0 ≤ (μ.1 61 0)))) || (!(decide (0 ≤ (μ.1 61 1))))) || (!(decide (0 ≤ (μ.1 61 2))))) || (!(decide (0 ≤ (μ.1 61 3))))))), (0, .ref 50), (1, .int 0), (2, .int (nB om))] [] (z_ui (z_ui (z_ui (z_ui (z_ui (z_ui μ 50 44 0) 50 49 (-1)) 50 52 ((μ.1 50 52) + 1)) 50 41 ((μ.1 50 41) + (nB (decide ((nI dl) = 3))))) 50 40 (nI e)) 50 42 (bif om then (μ.1 50 42) + 1 else 0))
                    exact hr 0 222 _ _ _ none (by decide +kernel) (by rfl) (⟨rfl, (by unfold eM0; simp only [h6, h14, cond_true, cond_false])⟩)
                  refine zq_if hc hH (by rfl) (tg := 218) (by rfl) (fun h17 => ?_) (fun h17 => ?_)
                  · have h17 : (om) = false := nB_z.mp (cm_eq9.mp h17)
                    refine z_rcs hc hH 1 (pc' := 219) (lv' := [(4, .int (nB ((decide ((nI dl) = 3)) && (decide ((μ.1 50 41) = 1))))), (3, .int (nB ((((!(decide (0 ≤ (μ.1 61 0)))) || (!(decide (0 ≤ (μ.1 61 1))))) || (!(decide (0 ≤ (μ.1 61 2))))) || (!(decide (0 ≤ (μ.1 61 3))))))), (0, .ref 50), (1, .int 0), (2, .int (nB om))]) (st' := [.int 0, .ref 50]) (μ' := z_ui (z_ui (z_ui (z_ui (z_ui μ 50 44 0) 50 49 (-1)) 50 52 ((μ.1 50 52) + 1)) 50 41 ((μ.1 50 41) + (nB (decide ((nI dl) = 3))))) 50 40 (nI e)) (by rfl) ?_
                    exact zJ hJ16 rfl (by first | with_reducible rfl | (simp only [h17, lb_f, Int64.or_zero, Int32.add_zero, nB_t, nB_f, Bool.not_true, Bool.not_false, Bool.and_true, Bool.true_and, Bool.false_and, Bool.and_false, Bool.or_true, Bool.true_or, Bool.false_or, Bool.or_false, cond_true, cond_false]; done) | rfl) rfl
                  · have h17 : (om) = true := nB_n.mp (cn_eq.mp h17)
                    refine z_rcs0 hc hH 1 (pc' := 210) (lv' := [(4, .int (nB ((decide ((nI dl) = 3)) && (decide ((μ.1 50 41) = 1))))), (3, .int (nB ((((!(decide (0 ≤ (μ.1 61 0)))) || (!(decide (0 ≤ (μ.1 61 1))))) || (!(decide (0 ≤ (μ.1 61 2))))) || (!(decide (0 ≤ (μ.1 61 3))))))), (0, .ref 50), (1, .int 0), (2, .int (nB om))]) (st' := [.ref 50, .ref 50]) (by rfl) ?_
                    refine zq_gfi hc hH (by rfl) (ci := 6) (f := 42) (by rfl) (by decide +kernel) (by rfl) ?_
                    refine zV1 (Z := Z) (Eq.trans (ui_k (by first | decide | omega)) (Eq.trans (ui_k (by first | decide | omega)) (Eq.trans (ui_k (by first | decide | omega)) (Eq.trans (ui_k (by first | decide | omega)) (ui_k (by first | decide | omega)))))) ?_
                    refine z_rcs0 hc hH 3 (pc' := 219) (lv' := [(4, .int (nB ((decide ((nI dl) = 3)) && (decide ((μ.1 50 41) = 1))))), (3, .int (nB ((((!(decide (0 ≤ (μ.1 61 0)))) || (!(decide (0 ≤ (μ.1 61 1))))) || (!(decide (0 ≤ (μ.1 61 2))))) || (!(decide (0 ≤ (μ.1 61 3))))))), (0, .ref 50), (1, .int 0), (2, .int (nB om))]) (st' := [.int ((μ.1 50 42) + 1), .ref 50]) (by rfl) ?_
                    exact zJ hJ16 rfl (by first | with_reducible rfl | (simp only [h17, lb_f, Int64.or_zero, Int32.add_zero, nB_t, nB_f, Bool.not_true, Bool.not_false, Bool.and_true, Bool.true_and, Bool.false_and, Bool.and_false, Bool.or_true, Bool.true_or, Bool.false_or, Bool.or_false, cond_true, cond_false]; done) | rfl) rfl
                refine zq_ic hc hH (by rfl) (tg := 187) (by rfl) (fun h18 => ?_) (fun h18 => ?_)
                · have h18 : (decide ((nI dl) = 3)) = false := decide_eq_false (cm_ne.mp h18)
                  refine z_rcs hc hH 1 (pc' := 188) (lv' := [(4, .int (nB ((decide ((nI dl) = 3)) && (decide ((μ.1 50 41) = 1))))), (3, .int (nB ((((!(decide (0 ≤ (μ.1 61 0)))) || (!(decide (0 ≤ (μ.1 61 1))))) || (!(decide (0 ≤ (μ.1 61 2))))) || (!(decide (0 ≤ (μ.1 61 3))))))), (0, .ref 50), (1, .int 0), (2, .int (nB om))]) (st' := [.int 0, .int (μ.1 50 41), .ref 50]) (μ' := z_ui (z_ui (z_ui μ 50 44 0) 50 49 (-1)) 50 52 ((μ.1 50 52) + 1)) (by rfl) ?_
                  exact zJ hJ15 rfl (by first | with_reducible rfl | (simp only [h18, lb_f, Int64.or_zero, Int32.add_zero, nB_t, nB_f, Bool.not_true, Bool.not_false, Bool.and_true, Bool.true_and, Bool.false_and, Bool.and_false, Bool.or_true, Bool.true_or, Bool.false_or, Bool.or_false, cond_true, cond_false]; done) | rfl) rfl
                · have h18 : (decide ((nI dl) = 3)) = true := decide_eq_true (cn_ne.mp h18)
                  refine z_rcs0 hc hH 2 (pc' := 188) (lv' := [(4, .int (nB ((decide ((nI dl) = 3)) && (decide ((μ.1 50 41) = 1))))), (3, .int (nB ((((!(decide (0 ≤ (μ.1 61 0)))) || (!(decide (0 ≤ (μ.1 61 1))))) || (!(decide (0 ≤ (μ.1 61 2))))) || (!(decide (0 ≤ (μ.1 61 3))))))), (0, .ref 50), (1, .int 0), (2, .int (nB om))]) (st' := [.int 1, .int (μ.1 50 41), .ref 50]) (by rfl) ?_
                  exact zJ hJ15 rfl (by first | with_reducible rfl | (simp only [h18, lb_f, Int64.or_zero, Int32.add_zero, nB_t, nB_f, Bool.not_true, Bool.not_false, Bool.and_true, Bool.true_and, Bool.false_and, Bool.and_false, Bool.or_true, Bool.true_or, Bool.false_or, Bool.or_false, cond_true, cond_false]; done) | rfl) rfl
              · have h14 : ((decide ((nI dl) = 3)) && (decide ((μ.1 50 41) = 1))) = true := nB_n.mp (cn_eq.mp h14)
                refine z_rcs0 hc hH 2 (pc' := 95) (lv' := [(4, .int (nB ((decide ((nI dl) = 3)) && (decide ((μ.1 50 41) = 1))))), (3, .int (nB ((((!(decide (0 ≤ (μ.1 61 0)))) || (!(decide (0 ≤ (μ.1 61 1))))) || (!(decide (0 ≤ (μ.1 61 2))))) || (!(decide (0 ≤ (μ.1 61 3))))))), (0, .ref 50), (1, .int 0), (2, .int (nB om))]) (st' := [.int 1, .ref 50]) (by rfl) ?_
                refine zq_pfb hc hH (by rfl) (ci := 6) (f := 54) (by rfl) (by decide +kernel) (by rfl) (by decide) ?_
                show Z 0 98 [(4, .int (nB ((decide ((nI dl) = 3)) && (decide ((μ.1 50 41) = 1))))), (3, .int (nB ((((!(decide (0 ≤ (μ.1 61 0)))) || (!(decide (0 ≤ (μ.1 61 1))))) || (!(decide (0 ≤ (μ.1 61 2))))) || (!(decide (0 ≤ (μ.1 61 3))))))), (0, .ref 50), (1, .int 0), (2, .int (nB om))] [] (z_ui (z_ui (z_ui (z_ui μ 50 44 0) 50 49 (-1)) 50 52 ((μ.1 50 52) + 1)) 50 54 1)
                refine z_rcs0 hc hH 8 (pc' := 111) (lv' := [(6, .int 1), (5, .int 0), (4, .int (nB ((decide ((nI dl) = 3)) && (decide ((μ.1 50 41) = 1))))), (3, .int (nB ((((!(decide (0 ≤ (μ.1 61 0)))) || (!(decide (0 ≤ (μ.1 61 1))))) || (!(decide (0 ≤ (μ.1 61 2))))) || (!(decide (0 ≤ (μ.1 61 3))))))), (0, .ref 50), (1, .int 0), (2, .int (nB om))]) (st' := [.ref 50]) (by rfl) ?_
                refine zq_gfr hc hH (by rfl) (ci := 6) (f := 29) (q := 61) (by rfl) (by decide +kernel) (by rfl) (by decide +kernel) ?_
                refine z_rcs0 hc hH 1 (pc' := 116) (lv' := [(6, .int 1), (5, .int 0), (4, .int (nB ((decide ((nI dl) = 3)) && (decide ((μ.1 50 41) = 1))))), (3, .int (nB ((((!(decide (0 ≤ (μ.1 61 0)))) || (!(decide (0 ≤ (μ.1 61 1))))) || (!(decide (0 ≤ (μ.1 61 2))))) || (!(decide (0 ≤ (μ.1 61 3))))))), (0, .ref 50), (1, .int 0), (2, .int (nB om))]) (st' := [.int 1, .ref 61]) (by rfl) ?_
                refine zq_iald hc hH (by rfl) 4 (oka_i (by decide +kernel)) (show vp_in (nI 1) 4 from vp_in_nI (by decide) (by decide)) ?_
                rw [show (1 : Int32).toNatClampNeg = 1 from rfl]
                refine zV1 (Z := Z) (Eq.trans (ui_o (by first | decide | omega)) (Eq.trans (ui_o (by first | decide | omega)) (Eq.trans (ui_o (by first | decide | omega)) (ui_o (by first | decide | omega))))) ?_
                refine z_rcs0 hc hH 1 (pc' := 118) (lv' := [(6, .int 1), (5, .int 0), (4, .int (nB ((decide ((nI dl) = 3)) && (decide ((μ.1 50 41) = 1))))), (3, .int (nB ((((!(decide (0 ≤ (μ.1 61 0)))) || (!(decide (0 ≤ (μ.1 61 1))))) || (!(decide (0 ≤ (μ.1 61 2))))) || (!(decide (0 ≤ (μ.1 61 3))))))), (0, .ref 50), (1, .int 0), (2, .int (nB om))]) (st' := [.ref 50, .int (μ.1 61 1)]) (by rfl) ?_
                refine zq_gfr hc hH (by rfl) (ci := 6) (f := 29) (q := 61) (by rfl) (by decide +kernel) (by rfl) (by decide +kernel) ?_
                refine z_rcs0 hc hH 1 (pc' := 123) (lv' := [(6, .int 1), (5, .int 0), (4, .int (nB ((decide ((nI dl) = 3)) && (decide ((μ.1 50 41) = 1))))), (3, .int (nB ((((!(decide (0 ≤ (μ.1 61 0)))) || (!(decide (0 ≤ (μ.1 61 1))))) || (!(decide (0 ≤ (μ.1 61 2))))) || (!(decide (0 ≤ (μ.1 61 3))))))), (0, .ref 50), (1, .int 0), (2, .int (nB om))]) (st' := [.int 0, .ref 61, .int (μ.1 61 1)]) (by rfl) ?_
                refine zq_iald hc hH (by rfl) 4 (oka_i (by decide +kernel)) (show vp_in (nI 0) 4 from vp_in_nI (by decide) (by decide)) ?_
                rw [show (0 : Int32).toNatClampNeg = 0 from rfl]
                refine zV1 (Z := Z) (Eq.trans (ui_o (by first | decide | omega)) (Eq.trans (ui_o (by first | decide | omega)) (Eq.trans (ui_o (by first | decide | omega)) (ui_o (by first | decide | omega))))) ?_
                refine zq_ic hc hH (by rfl) (tg := 132) (by rfl) (fun h19 => ?_) (fun h19 => ?_)
                · have h19 : (decide ((μ.1 61 1) ≤ (μ.1 61 0))) = true := decide_eq_true (cm_le.mp h19)
                  refine z_rcs0 hc hH 8 (pc' := 111) (lv' := [(6, .int 2), (5, .int 0), (4, .int (nB ((decide ((nI dl) = 3)) && (decide ((μ.1 50 41) = 1))))), (3, .int (nB ((((!(decide (0 ≤ (μ.1 61 0)))) || (!(decide (0 ≤ (μ.1 61 1))))) || (!(decide (0 ≤ (μ.1 61 2))))) || (!(decide (0 ≤ (μ.1 61 3))))))), (0, .ref 50), (1, .int 0), (2, .int (nB om))]) (st' := [.ref 50]) (by rfl) ?_
                  refine zq_gfr hc hH (by rfl) (ci := 6) (f := 29) (q := 61) (by rfl) (by decide +kernel) (by rfl) (by decide +kernel) ?_
                  refine z_rcs0 hc hH 1 (pc' := 116) (lv' := [(6, .int 2), (5, .int 0), (4, .int (nB ((decide ((nI dl) = 3)) && (decide ((μ.1 50 41) = 1))))), (3, .int (nB ((((!(decide (0 ≤ (μ.1 61 0)))) || (!(decide (0 ≤ (μ.1 61 1))))) || (!(decide (0 ≤ (μ.1 61 2))))) || (!(decide (0 ≤ (μ.1 61 3))))))), (0, .ref 50), (1, .int 0), (2, .int (nB om))]) (st' := [.int 2, .ref 61]) (by rfl) ?_
                  refine zq_iald hc hH (by rfl) 4 (oka_i (by decide +kernel)) (show vp_in (nI 2) 4 from vp_in_nI (by decide) (by decide)) ?_
                  rw [show (2 : Int32).toNatClampNeg = 2 from rfl]
                  refine zV1 (Z := Z) (Eq.trans (ui_o (by first | decide | omega)) (Eq.trans (ui_o (by first | decide | omega)) (Eq.trans (ui_o (by first | decide | omega)) (ui_o (by first | decide | omega))))) ?_
                  refine z_rcs0 hc hH 1 (pc' := 118) (lv' := [(6, .int 2), (5, .int 0), (4, .int (nB ((decide ((nI dl) = 3)) && (decide ((μ.1 50 41) = 1))))), (3, .int (nB ((((!(decide (0 ≤ (μ.1 61 0)))) || (!(decide (0 ≤ (μ.1 61 1))))) || (!(decide (0 ≤ (μ.1 61 2))))) || (!(decide (0 ≤ (μ.1 61 3))))))), (0, .ref 50), (1, .int 0), (2, .int (nB om))]) (st' := [.ref 50, .int (μ.1 61 2)]) (by rfl) ?_
                  refine zq_gfr hc hH (by rfl) (ci := 6) (f := 29) (q := 61) (by rfl) (by decide +kernel) (by rfl) (by decide +kernel) ?_
                  refine z_rcs0 hc hH 1 (pc' := 123) (lv' := [(6, .int 2), (5, .int 0), (4, .int (nB ((decide ((nI dl) = 3)) && (decide ((μ.1 50 41) = 1))))), (3, .int (nB ((((!(decide (0 ≤ (μ.1 61 0)))) || (!(decide (0 ≤ (μ.1 61 1))))) || (!(decide (0 ≤ (μ.1 61 2))))) || (!(decide (0 ≤ (μ.1 61 3))))))), (0, .ref 50), (1, .int 0), (2, .int (nB om))]) (st' := [.int 0, .ref 61, .int (μ.1 61 2)]) (by rfl) ?_
                  refine zq_iald hc hH (by rfl) 4 (oka_i (by decide +kernel)) (show vp_in (nI 0) 4 from vp_in_nI (by decide) (by decide)) ?_
                  rw [show (0 : Int32).toNatClampNeg = 0 from rfl]
                  refine zV1 (Z := Z) (Eq.trans (ui_o (by first | decide | omega)) (Eq.trans (ui_o (by first | decide | omega)) (Eq.trans (ui_o (by first | decide | omega)) (ui_o (by first | decide | omega))))) ?_
                  refine zq_ic hc hH (by rfl) (tg := 132) (by rfl) (fun h20 => ?_) (fun h20 => ?_)
                  · have h20 : (decide ((μ.1 61 2) ≤ (μ.1 61 0))) = true := decide_eq_true (cm_le.mp h20)
                    refine z_rcs0 hc hH 8 (pc' := 111) (lv' := [(6, .int 3), (5, .int 0), (4, .int (nB ((decide ((nI dl) = 3)) && (decide ((μ.1 50 41) = 1))))), (3, .int (nB ((((!(decide (0 ≤ (μ.1 61 0)))) || (!(decide (0 ≤ (μ.1 61 1))))) || (!(decide (0 ≤ (μ.1 61 2))))) || (!(decide (0 ≤ (μ.1 61 3))))))), (0, .ref 50), (1, .int 0), (2, .int (nB om))]) (st' := [.ref 50]) (by rfl) ?_
                    refine zq_gfr hc hH (by rfl) (ci := 6) (f := 29) (q := 61) (by rfl) (by decide +kernel) (by rfl) (by decide +kernel) ?_
                    refine z_rcs0 hc hH 1 (pc' := 116) (lv' := [(6, .int 3), (5, .int 0), (4, .int (nB ((decide ((nI dl) = 3)) && (decide ((μ.1 50 41) = 1))))), (3, .int (nB ((((!(decide (0 ≤ (μ.1 61 0)))) || (!(decide (0 ≤ (μ.1 61 1))))) || (!(decide (0 ≤ (μ.1 61 2))))) || (!(decide (0 ≤ (μ.1 61 3))))))), (0, .ref 50), (1, .int 0), (2, .int (nB om))]) (st' := [.int 3, .ref 61]) (by rfl) ?_
                    refine zq_iald hc hH (by rfl) 4 (oka_i (by decide +kernel)) (show vp_in (nI 3) 4 from vp_in_nI (by decide) (by decide)) ?_
                    rw [show (3 : Int32).toNatClampNeg = 3 from rfl]
                    refine zV1 (Z := Z) (Eq.trans (ui_o (by first | decide | omega)) (Eq.trans (ui_o (by first | decide | omega)) (Eq.trans (ui_o (by first | decide | omega)) (ui_o (by first | decide | omega))))) ?_
                    refine z_rcs0 hc hH 1 (pc' := 118) (lv' := [(6, .int 3), (5, .int 0), (4, .int (nB ((decide ((nI dl) = 3)) && (decide ((μ.1 50 41) = 1))))), (3, .int (nB ((((!(decide (0 ≤ (μ.1 61 0)))) || (!(decide (0 ≤ (μ.1 61 1))))) || (!(decide (0 ≤ (μ.1 61 2))))) || (!(decide (0 ≤ (μ.1 61 3))))))), (0, .ref 50), (1, .int 0), (2, .int (nB om))]) (st' := [.ref 50, .int (μ.1 61 3)]) (by rfl) ?_
                    refine zq_gfr hc hH (by rfl) (ci := 6) (f := 29) (q := 61) (by rfl) (by decide +kernel) (by rfl) (by decide +kernel) ?_
                    refine z_rcs0 hc hH 1 (pc' := 123) (lv' := [(6, .int 3), (5, .int 0), (4, .int (nB ((decide ((nI dl) = 3)) && (decide ((μ.1 50 41) = 1))))), (3, .int (nB ((((!(decide (0 ≤ (μ.1 61 0)))) || (!(decide (0 ≤ (μ.1 61 1))))) || (!(decide (0 ≤ (μ.1 61 2))))) || (!(decide (0 ≤ (μ.1 61 3))))))), (0, .ref 50), (1, .int 0), (2, .int (nB om))]) (st' := [.int 0, .ref 61, .int (μ.1 61 3)]) (by rfl) ?_
                    refine zq_iald hc hH (by rfl) 4 (oka_i (by decide +kernel)) (show vp_in (nI 0) 4 from vp_in_nI (by decide) (by decide)) ?_
                    rw [show (0 : Int32).toNatClampNeg = 0 from rfl]
                    refine zV1 (Z := Z) (Eq.trans (ui_o (by first | decide | omega)) (Eq.trans (ui_o (by first | decide | omega)) (Eq.trans (ui_o (by first | decide | omega)) (ui_o (by first | decide | omega))))) ?_
                    refine zq_ic hc hH (by rfl) (tg := 132) (by rfl) (fun h21 => ?_) (fun h21 => ?_)
                    · have h21 : (decide ((μ.1 61 3) ≤ (μ.1 61 0))) = true := decide_eq_true (cm_le.mp h21)
                      refine z_rcs0 hc hH 8 (pc' := 143) (lv' := [(6, .int 4), (5, .int 0), (4, .int (nB ((decide ((nI dl) = 3)) && (decide ((μ.1 50 41) = 1))))), (3, .int (nB ((((!(decide (0 ≤ (μ.1 61 0)))) || (!(decide (0 ≤ (μ.1 61 1))))) || (!(decide (0 ≤ (μ.1 61 2))))) || (!(decide (0 ≤ (μ.1 61 3))))))), (0, .ref 50), (1, .int 0), (2, .int (nB om))]) (st' := [.ref 50]) (by rfl) ?_
                      refine zq_gfr hc hH (by rfl) (ci := 6) (f := 29) (q := 61) (by rfl) (by decide +kernel) (by rfl) (by decide +kernel) ?_
                      refine z_rcs0 hc hH 2 (pc' := 149) (lv' := [(6, .int 4), (5, .int 0), (4, .int (nB ((decide ((nI dl) = 3)) && (decide ((μ.1 50 41) = 1))))), (3, .int (nB ((((!(decide (0 ≤ (μ.1 61 0)))) || (!(decide (0 ≤ (μ.1 61 1))))) || (!(decide (0 ≤ (μ.1 61 2))))) || (!(decide (0 ≤ (μ.1 61 3))))))), (0, .ref 50), (1, .int 0), (2, .int (nB om))]) (st' := [.int 0, .ref 61, .int 0, .ref 61]) (by rfl) ?_
                      refine zq_iald hc hH (by rfl) 4 (oka_i (by decide +kernel)) (show vp_in (nI 0) 4 from vp_in_nI (by decide) (by decide)) ?_
                      rw [show (0 : Int32).toNatClampNeg = 0 from rfl]
                      refine zV1 (Z := Z) (Eq.trans (ui_o (by first | decide | omega)) (Eq.trans (ui_o (by first | decide | omega)) (Eq.trans (ui_o (by first | decide | omega)) (ui_o (by first | decide | omega))))) ?_
                      refine z_rcs0 hc hH 2 (pc' := 154) (lv' := [(6, .int 4), (5, .int 0), (4, .int (nB ((decide ((nI dl) = 3)) && (decide ((μ.1 50 41) = 1))))), (3, .int (nB ((((!(decide (0 ≤ (μ.1 61 0)))) || (!(decide (0 ≤ (μ.1 61 1))))) || (!(decide (0 ≤ (μ.1 61 2))))) || (!(decide (0 ≤ (μ.1 61 3))))))), (0, .ref 50), (1, .int 0), (2, .int (nB om))]) (st' := [.ref 50, .int 1000, .int (μ.1 61 0), .int 0, .ref 61]) (by rfl) ?_
                      refine zq_gfi hc hH (by rfl) (ci := 6) (f := 43) (by rfl) (by decide +kernel) (by rfl) ?_
                      refine zV1 (Z := Z) (Eq.trans (ui_k (by first | decide | omega)) (Eq.trans (ui_k (by first | decide | omega)) (Eq.trans (ui_k (by first | decide | omega)) (ui_k (by first | decide | omega))))) ?_
                      refine z_rcs0 hc hH 2 (pc' := 159) (lv' := [(6, .int 4), (5, .int 0), (4, .int (nB ((decide ((nI dl) = 3)) && (decide ((μ.1 50 41) = 1))))), (3, .int (nB ((((!(decide (0 ≤ (μ.1 61 0)))) || (!(decide (0 ≤ (μ.1 61 1))))) || (!(decide (0 ≤ (μ.1 61 2))))) || (!(decide (0 ≤ (μ.1 61 3))))))), (0, .ref 50), (1, .int 0), (2, .int (nB om))]) (st' := [.int ((μ.1 61 0) + (1000 * (μ.1 50 43))), .int 0, .ref 61]) (by rfl) ?_
                      refine zq_iast hc hH (by rfl) 4 (oka_i (by decide +kernel)).2 (show vp_in (nI 0) 4 from vp_in_nI (by decide) (by decide)) ?_
                      rw [show (0 : Int32).toNatClampNeg = 0 from rfl]
                      show Z 0 160 [(6, .int 4), (5, .int 0), (4, .int (nB ((decide ((nI dl) = 3)) && (decide ((μ.1 50 41) = 1))))), (3, .int (nB ((((!(decide (0 ≤ (μ.1 61 0)))) || (!(decide (0 ≤ (μ.1 61 1))))) || (!(decide (0 ≤ (μ.1 61 2))))) || (!(decide (0 ≤ (μ.1 61 3))))))), (0, .ref 50), (1, .int 0), (2, .int (nB om))] [] (z_ui (z_ui (z_ui (z_ui (z_ui μ 50 44 0) 50 49 (-1)) 50 52 ((μ.1 50 52) + 1)) 50 54 1) 61 0 ((μ.1 61 0) + (1000 * (μ.1 50 43))))
                      refine z_rcs0 hc hH 2 (pc' := 162) (lv' := [(6, .int 4), (5, .int 0), (4, .int (nB ((decide ((nI dl) = 3)) && (decide ((μ.1 50 41) = 1))))), (3, .int (nB ((((!(decide (0 ≤ (μ.1 61 0)))) || (!(decide (0 ≤ (μ.1 61 1))))) || (!(decide (0 ≤ (μ.1 61 2))))) || (!(decide (0 ≤ (μ.1 61 3))))))), (0, .ref 50), (1, .int 0), (2, .int (nB om))]) (st' := [.int 0, .ref 50]) (by rfl) ?_
                      refine zq_pfi hc hH (by rfl) (ci := 6) (f := 43) (by rfl) (by decide +kernel) (by rfl) ?_
                      show Z 0 165 [(6, .int 4), (5, .int 0), (4, .int (nB ((decide ((nI dl) = 3)) && (decide ((μ.1 50 41) = 1))))), (3, .int (nB ((((!(decide (0 ≤ (μ.1 61 0)))) || (!(decide (0 ≤ (μ.1 61 1))))) || (!(decide (0 ≤ (μ.1 61 2))))) || (!(decide (0 ≤ (μ.1 61 3))))))), (0, .ref 50), (1, .int 0), (2, .int (nB om))] [] (z_ui (z_ui (z_ui (z_ui (z_ui (z_ui μ 50 44 0) 50 49 (-1)) 50 52 ((μ.1 50 52) + 1)) 50 54 1) 61 0 ((μ.1 61 0) + (1000 * (μ.1 50 43)))) 50 43 0)
                      exact hr 0 165 _ _ _ none (by decide +kernel) (by rfl) (⟨rfl, (by unfold eM0; simp only [h6, h14, h19, h20, h21, cond_true, cond_false])⟩)
                    · have h21 : (decide ((μ.1 61 3) ≤ (μ.1 61 0))) = false := decide_eq_false (cn_le.mp h21)
                      refine z_rcs hc hH 9 (pc' := 143) (lv' := [(6, .int 4), (5, .int 3), (4, .int (nB ((decide ((nI dl) = 3)) && (decide ((μ.1 50 41) = 1))))), (3, .int (nB ((((!(decide (0 ≤ (μ.1 61 0)))) || (!(decide (0 ≤ (μ.1 61 1))))) || (!(decide (0 ≤ (μ.1 61 2))))) || (!(decide (0 ≤ (μ.1 61 3))))))), (0, .ref 50), (1, .int 0), (2, .int (nB om))]) (st' := [.ref 50]) (μ' := z_ui (z_ui (z_ui (z_ui μ 50 44 0) 50 49 (-1)) 50 52 ((μ.1 50 52) + 1)) 50 54 1) (by rfl) ?_
                      refine zq_gfr hc hH (by rfl) (ci := 6) (f := 29) (q := 61) (by rfl) (by decide +kernel) (by rfl) (by decide +kernel) ?_
                      refine z_rcs0 hc hH 2 (pc' := 149) (lv' := [(6, .int 4), (5, .int 3), (4, .int (nB ((decide ((nI dl) = 3)) && (decide ((μ.1 50 41) = 1))))), (3, .int (nB ((((!(decide (0 ≤ (μ.1 61 0)))) || (!(decide (0 ≤ (μ.1 61 1))))) || (!(decide (0 ≤ (μ.1 61 2))))) || (!(decide (0 ≤ (μ.1 61 3))))))), (0, .ref 50), (1, .int 0), (2, .int (nB om))]) (st' := [.int 3, .ref 61, .int 3, .ref 61]) (by rfl) ?_
                      refine zq_iald hc hH (by rfl) 4 (oka_i (by decide +kernel)) (show vp_in (nI 3) 4 from vp_in_nI (by decide) (by decide)) ?_
                      rw [show (3 : Int32).toNatClampNeg = 3 from rfl]
                      refine zV1 (Z := Z) (Eq.trans (ui_o (by first | decide | omega)) (Eq.trans (ui_o (by first | decide | omega)) (Eq.trans (ui_o (by first | decide | omega)) (ui_o (by first | decide | omega))))) ?_
                      refine z_rcs0 hc hH 2 (pc' := 154) (lv' := [(6, .int 4), (5, .int 3), (4, .int (nB ((decide ((nI dl) = 3)) && (decide ((μ.1 50 41) = 1))))), (3, .int (nB ((((!(decide (0 ≤ (μ.1 61 0)))) || (!(decide (0 ≤ (μ.1 61 1))))) || (!(decide (0 ≤ (μ.1 61 2))))) || (!(decide (0 ≤ (μ.1 61 3))))))), (0, .ref 50), (1, .int 0), (2, .int (nB om))]) (st' := [.ref 50, .int 1000, .int (μ.1 61 3), .int 3, .ref 61]) (by rfl) ?_
                      refine zq_gfi hc hH (by rfl) (ci := 6) (f := 43) (by rfl) (by decide +kernel) (by rfl) ?_
                      refine zV1 (Z := Z) (Eq.trans (ui_k (by first | decide | omega)) (Eq.trans (ui_k (by first | decide | omega)) (Eq.trans (ui_k (by first | decide | omega)) (ui_k (by first | decide | omega))))) ?_
                      refine z_rcs0 hc hH 2 (pc' := 159) (lv' := [(6, .int 4), (5, .int 3), (4, .int (nB ((decide ((nI dl) = 3)) && (decide ((μ.1 50 41) = 1))))), (3, .int (nB ((((!(decide (0 ≤ (μ.1 61 0)))) || (!(decide (0 ≤ (μ.1 61 1))))) || (!(decide (0 ≤ (μ.1 61 2))))) || (!(decide (0 ≤ (μ.1 61 3))))))), (0, .ref 50), (1, .int 0), (2, .int (nB om))]) (st' := [.int ((μ.1 61 3) + (1000 * (μ.1 50 43))), .int 3, .ref 61]) (by rfl) ?_
                      refine zq_iast hc hH (by rfl) 4 (oka_i (by decide +kernel)).2 (show vp_in (nI 3) 4 from vp_in_nI (by decide) (by decide)) ?_
                      rw [show (3 : Int32).toNatClampNeg = 3 from rfl]
                      show Z 0 160 [(6, .int 4), (5, .int 3), (4, .int (nB ((decide ((nI dl) = 3)) && (decide ((μ.1 50 41) = 1))))), (3, .int (nB ((((!(decide (0 ≤ (μ.1 61 0)))) || (!(decide (0 ≤ (μ.1 61 1))))) || (!(decide (0 ≤ (μ.1 61 2))))) || (!(decide (0 ≤ (μ.1 61 3))))))), (0, .ref 50), (1, .int 0), (2, .int (nB om))] [] (z_ui (z_ui (z_ui (z_ui (z_ui μ 50 44 0) 50 49 (-1)) 50 52 ((μ.1 50 52) + 1)) 50 54 1) 61 3 ((μ.1 61 3) + (1000 * (μ.1 50 43))))
                      refine z_rcs0 hc hH 2 (pc' := 162) (lv' := [(6, .int 4), (5, .int 3), (4, .int (nB ((decide ((nI dl) = 3)) && (decide ((μ.1 50 41) = 1))))), (3, .int (nB ((((!(decide (0 ≤ (μ.1 61 0)))) || (!(decide (0 ≤ (μ.1 61 1))))) || (!(decide (0 ≤ (μ.1 61 2))))) || (!(decide (0 ≤ (μ.1 61 3))))))), (0, .ref 50), (1, .int 0), (2, .int (nB om))]) (st' := [.int 0, .ref 50]) (by rfl) ?_
                      refine zq_pfi hc hH (by rfl) (ci := 6) (f := 43) (by rfl) (by decide +kernel) (by rfl) ?_
                      show Z 0 165 [(6, .int 4), (5, .int 3), (4, .int (nB ((decide ((nI dl) = 3)) && (decide ((μ.1 50 41) = 1))))), (3, .int (nB ((((!(decide (0 ≤ (μ.1 61 0)))) || (!(decide (0 ≤ (μ.1 61 1))))) || (!(decide (0 ≤ (μ.1 61 2))))) || (!(decide (0 ≤ (μ.1 61 3))))))), (0, .ref 50), (1, .int 0), (2, .int (nB om))] [] (z_ui (z_ui (z_ui (z_ui (z_ui (z_ui μ 50 44 0) 50 49 (-1)) 50 52 ((μ.1 50 52) + 1)) 50 54 1) 61 3 ((μ.1 61 3) + (1000 * (μ.1 50 43)))) 50 43 0)
                      exact hr 0 165 _ _ _ none (by decide +kernel) (by rfl) (⟨rfl, (by unfold eM0; simp only [h6, h14, h19, h20, h21, cond_true, cond_false])⟩)
                  · have h20 : (decide ((μ.1 61 2) ≤ (μ.1 61 0))) = false := decide_eq_false (cn_le.mp h20)
                    refine z_rcs hc hH 9 (pc' := 111) (lv' := [(6, .int 3), (5, .int 2), (4, .int (nB ((decide ((nI dl) = 3)) && (decide ((μ.1 50 41) = 1))))), (3, .int (nB ((((!(decide (0 ≤ (μ.1 61 0)))) || (!(decide (0 ≤ (μ.1 61 1))))) || (!(decide (0 ≤ (μ.1 61 2))))) || (!(decide (0 ≤ (μ.1 61 3))))))), (0, .ref 50), (1, .int 0), (2, .int (nB om))]) (st' := [.ref 50]) (μ' := z_ui (z_ui (z_ui (z_ui μ 50 44 0) 50 49 (-1)) 50 52 ((μ.1 50 52) + 1)) 50 54 1) (by rfl) ?_
                    refine zq_gfr hc hH (by rfl) (ci := 6) (f := 29) (q := 61) (by rfl) (by decide +kernel) (by rfl) (by decide +kernel) ?_
                    refine z_rcs0 hc hH 1 (pc' := 116) (lv' := [(6, .int 3), (5, .int 2), (4, .int (nB ((decide ((nI dl) = 3)) && (decide ((μ.1 50 41) = 1))))), (3, .int (nB ((((!(decide (0 ≤ (μ.1 61 0)))) || (!(decide (0 ≤ (μ.1 61 1))))) || (!(decide (0 ≤ (μ.1 61 2))))) || (!(decide (0 ≤ (μ.1 61 3))))))), (0, .ref 50), (1, .int 0), (2, .int (nB om))]) (st' := [.int 3, .ref 61]) (by rfl) ?_
                    refine zq_iald hc hH (by rfl) 4 (oka_i (by decide +kernel)) (show vp_in (nI 3) 4 from vp_in_nI (by decide) (by decide)) ?_
                    rw [show (3 : Int32).toNatClampNeg = 3 from rfl]
                    refine zV1 (Z := Z) (Eq.trans (ui_o (by first | decide | omega)) (Eq.trans (ui_o (by first | decide | omega)) (Eq.trans (ui_o (by first | decide | omega)) (ui_o (by first | decide | omega))))) ?_
                    refine z_rcs0 hc hH 1 (pc' := 118) (lv' := [(6, .int 3), (5, .int 2), (4, .int (nB ((decide ((nI dl) = 3)) && (decide ((μ.1 50 41) = 1))))), (3, .int (nB ((((!(decide (0 ≤ (μ.1 61 0)))) || (!(decide (0 ≤ (μ.1 61 1))))) || (!(decide (0 ≤ (μ.1 61 2))))) || (!(decide (0 ≤ (μ.1 61 3))))))), (0, .ref 50), (1, .int 0), (2, .int (nB om))]) (st' := [.ref 50, .int (μ.1 61 3)]) (by rfl) ?_
                    refine zq_gfr hc hH (by rfl) (ci := 6) (f := 29) (q := 61) (by rfl) (by decide +kernel) (by rfl) (by decide +kernel) ?_
                    refine z_rcs0 hc hH 1 (pc' := 123) (lv' := [(6, .int 3), (5, .int 2), (4, .int (nB ((decide ((nI dl) = 3)) && (decide ((μ.1 50 41) = 1))))), (3, .int (nB ((((!(decide (0 ≤ (μ.1 61 0)))) || (!(decide (0 ≤ (μ.1 61 1))))) || (!(decide (0 ≤ (μ.1 61 2))))) || (!(decide (0 ≤ (μ.1 61 3))))))), (0, .ref 50), (1, .int 0), (2, .int (nB om))]) (st' := [.int 2, .ref 61, .int (μ.1 61 3)]) (by rfl) ?_
                    refine zq_iald hc hH (by rfl) 4 (oka_i (by decide +kernel)) (show vp_in (nI 2) 4 from vp_in_nI (by decide) (by decide)) ?_
                    rw [show (2 : Int32).toNatClampNeg = 2 from rfl]
                    refine zV1 (Z := Z) (Eq.trans (ui_o (by first | decide | omega)) (Eq.trans (ui_o (by first | decide | omega)) (Eq.trans (ui_o (by first | decide | omega)) (ui_o (by first | decide | omega))))) ?_
                    refine zq_ic hc hH (by rfl) (tg := 132) (by rfl) (fun h22 => ?_) (fun h22 => ?_)
                    · have h22 : (decide ((μ.1 61 3) ≤ (μ.1 61 2))) = true := decide_eq_true (cm_le.mp h22)
                      refine z_rcs0 hc hH 8 (pc' := 143) (lv' := [(6, .int 4), (5, .int 2), (4, .int (nB ((decide ((nI dl) = 3)) && (decide ((μ.1 50 41) = 1))))), (3, .int (nB ((((!(decide (0 ≤ (μ.1 61 0)))) || (!(decide (0 ≤ (μ.1 61 1))))) || (!(decide (0 ≤ (μ.1 61 2))))) || (!(decide (0 ≤ (μ.1 61 3))))))), (0, .ref 50), (1, .int 0), (2, .int (nB om))]) (st' := [.ref 50]) (by rfl) ?_
                      refine zq_gfr hc hH (by rfl) (ci := 6) (f := 29) (q := 61) (by rfl) (by decide +kernel) (by rfl) (by decide +kernel) ?_
                      refine z_rcs0 hc hH 2 (pc' := 149) (lv' := [(6, .int 4), (5, .int 2), (4, .int (nB ((decide ((nI dl) = 3)) && (decide ((μ.1 50 41) = 1))))), (3, .int (nB ((((!(decide (0 ≤ (μ.1 61 0)))) || (!(decide (0 ≤ (μ.1 61 1))))) || (!(decide (0 ≤ (μ.1 61 2))))) || (!(decide (0 ≤ (μ.1 61 3))))))), (0, .ref 50), (1, .int 0), (2, .int (nB om))]) (st' := [.int 2, .ref 61, .int 2, .ref 61]) (by rfl) ?_
                      refine zq_iald hc hH (by rfl) 4 (oka_i (by decide +kernel)) (show vp_in (nI 2) 4 from vp_in_nI (by decide) (by decide)) ?_
                      rw [show (2 : Int32).toNatClampNeg = 2 from rfl]
                      refine zV1 (Z := Z) (Eq.trans (ui_o (by first | decide | omega)) (Eq.trans (ui_o (by first | decide | omega)) (Eq.trans (ui_o (by first | decide | omega)) (ui_o (by first | decide | omega))))) ?_
                      refine z_rcs0 hc hH 2 (pc' := 154) (lv' := [(6, .int 4), (5, .int 2), (4, .int (nB ((decide ((nI dl) = 3)) && (decide ((μ.1 50 41) = 1))))), (3, .int (nB ((((!(decide (0 ≤ (μ.1 61 0)))) || (!(decide (0 ≤ (μ.1 61 1))))) || (!(decide (0 ≤ (μ.1 61 2))))) || (!(decide (0 ≤ (μ.1 61 3))))))), (0, .ref 50), (1, .int 0), (2, .int (nB om))]) (st' := [.ref 50, .int 1000, .int (μ.1 61 2), .int 2, .ref 61]) (by rfl) ?_
                      refine zq_gfi hc hH (by rfl) (ci := 6) (f := 43) (by rfl) (by decide +kernel) (by rfl) ?_
                      refine zV1 (Z := Z) (Eq.trans (ui_k (by first | decide | omega)) (Eq.trans (ui_k (by first | decide | omega)) (Eq.trans (ui_k (by first | decide | omega)) (ui_k (by first | decide | omega))))) ?_
                      refine z_rcs0 hc hH 2 (pc' := 159) (lv' := [(6, .int 4), (5, .int 2), (4, .int (nB ((decide ((nI dl) = 3)) && (decide ((μ.1 50 41) = 1))))), (3, .int (nB ((((!(decide (0 ≤ (μ.1 61 0)))) || (!(decide (0 ≤ (μ.1 61 1))))) || (!(decide (0 ≤ (μ.1 61 2))))) || (!(decide (0 ≤ (μ.1 61 3))))))), (0, .ref 50), (1, .int 0), (2, .int (nB om))]) (st' := [.int ((μ.1 61 2) + (1000 * (μ.1 50 43))), .int 2, .ref 61]) (by rfl) ?_
                      refine zq_iast hc hH (by rfl) 4 (oka_i (by decide +kernel)).2 (show vp_in (nI 2) 4 from vp_in_nI (by decide) (by decide)) ?_
                      rw [show (2 : Int32).toNatClampNeg = 2 from rfl]
                      show Z 0 160 [(6, .int 4), (5, .int 2), (4, .int (nB ((decide ((nI dl) = 3)) && (decide ((μ.1 50 41) = 1))))), (3, .int (nB ((((!(decide (0 ≤ (μ.1 61 0)))) || (!(decide (0 ≤ (μ.1 61 1))))) || (!(decide (0 ≤ (μ.1 61 2))))) || (!(decide (0 ≤ (μ.1 61 3))))))), (0, .ref 50), (1, .int 0), (2, .int (nB om))] [] (z_ui (z_ui (z_ui (z_ui (z_ui μ 50 44 0) 50 49 (-1)) 50 52 ((μ.1 50 52) + 1)) 50 54 1) 61 2 ((μ.1 61 2) + (1000 * (μ.1 50 43))))
                      refine z_rcs0 hc hH 2 (pc' := 162) (lv' := [(6, .int 4), (5, .int 2), (4, .int (nB ((decide ((nI dl) = 3)) && (decide ((μ.1 50 41) = 1))))), (3, .int (nB ((((!(decide (0 ≤ (μ.1 61 0)))) || (!(decide (0 ≤ (μ.1 61 1))))) || (!(decide (0 ≤ (μ.1 61 2))))) || (!(decide (0 ≤ (μ.1 61 3))))))), (0, .ref 50), (1, .int 0), (2, .int (nB om))]) (st' := [.int 0, .ref 50]) (by rfl) ?_
                      refine zq_pfi hc hH (by rfl) (ci := 6) (f := 43) (by rfl) (by decide +kernel) (by rfl) ?_
                      show Z 0 165 [(6, .int 4), (5, .int 2), (4, .int (nB ((decide ((nI dl) = 3)) && (decide ((μ.1 50 41) = 1))))), (3, .int (nB ((((!(decide (0 ≤ (μ.1 61 0)))) || (!(decide (0 ≤ (μ.1 61 1))))) || (!(decide (0 ≤ (μ.1 61 2))))) || (!(decide (0 ≤ (μ.1 61 3))))))), (0, .ref 50), (1, .int 0), (2, .int (nB om))] [] (z_ui (z_ui (z_ui (z_ui (z_ui (z_ui μ 50 44 0) 50 49 (-1)) 50 52 ((μ.1 50 52) + 1)) 50 54 1) 61 2 ((μ.1 61 2) + (1000 * (μ.1 50 43)))) 50 43 0)
                      exact hr 0 165 _ _ _ none (by decide +kernel) (by rfl) (⟨rfl, (by unfold eM0; simp only [h6, h14, h19, h20, h22, cond_true, cond_false])⟩)
                    · have h22 : (decide ((μ.1 61 3) ≤ (μ.1 61 2))) = false := decide_eq_false (cn_le.mp h22)
                      refine z_rcs hc hH 9 (pc' := 143) (lv' := [(6, .int 4), (5, .int 3), (4, .int (nB ((decide ((nI dl) = 3)) && (decide ((μ.1 50 41) = 1))))), (3, .int (nB ((((!(decide (0 ≤ (μ.1 61 0)))) || (!(decide (0 ≤ (μ.1 61 1))))) || (!(decide (0 ≤ (μ.1 61 2))))) || (!(decide (0 ≤ (μ.1 61 3))))))), (0, .ref 50), (1, .int 0), (2, .int (nB om))]) (st' := [.ref 50]) (μ' := z_ui (z_ui (z_ui (z_ui μ 50 44 0) 50 49 (-1)) 50 52 ((μ.1 50 52) + 1)) 50 54 1) (by rfl) ?_
                      refine zq_gfr hc hH (by rfl) (ci := 6) (f := 29) (q := 61) (by rfl) (by decide +kernel) (by rfl) (by decide +kernel) ?_
                      refine z_rcs0 hc hH 2 (pc' := 149) (lv' := [(6, .int 4), (5, .int 3), (4, .int (nB ((decide ((nI dl) = 3)) && (decide ((μ.1 50 41) = 1))))), (3, .int (nB ((((!(decide (0 ≤ (μ.1 61 0)))) || (!(decide (0 ≤ (μ.1 61 1))))) || (!(decide (0 ≤ (μ.1 61 2))))) || (!(decide (0 ≤ (μ.1 61 3))))))), (0, .ref 50), (1, .int 0), (2, .int (nB om))]) (st' := [.int 3, .ref 61, .int 3, .ref 61]) (by rfl) ?_
                      refine zq_iald hc hH (by rfl) 4 (oka_i (by decide +kernel)) (show vp_in (nI 3) 4 from vp_in_nI (by decide) (by decide)) ?_
                      rw [show (3 : Int32).toNatClampNeg = 3 from rfl]
                      refine zV1 (Z := Z) (Eq.trans (ui_o (by first | decide | omega)) (Eq.trans (ui_o (by first | decide | omega)) (Eq.trans (ui_o (by first | decide | omega)) (ui_o (by first | decide | omega))))) ?_
                      refine z_rcs0 hc hH 2 (pc' := 154) (lv' := [(6, .int 4), (5, .int 3), (4, .int (nB ((decide ((nI dl) = 3)) && (decide ((μ.1 50 41) = 1))))), (3, .int (nB ((((!(decide (0 ≤ (μ.1 61 0)))) || (!(decide (0 ≤ (μ.1 61 1))))) || (!(decide (0 ≤ (μ.1 61 2))))) || (!(decide (0 ≤ (μ.1 61 3))))))), (0, .ref 50), (1, .int 0), (2, .int (nB om))]) (st' := [.ref 50, .int 1000, .int (μ.1 61 3), .int 3, .ref 61]) (by rfl) ?_
                      refine zq_gfi hc hH (by rfl) (ci := 6) (f := 43) (by rfl) (by decide +kernel) (by rfl) ?_
                      refine zV1 (Z := Z) (Eq.trans (ui_k (by first | decide | omega)) (Eq.trans (ui_k (by first | decide | omega)) (Eq.trans (ui_k (by first | decide | omega)) (ui_k (by first | decide | omega))))) ?_
                      refine z_rcs0 hc hH 2 (pc' := 159) (lv' := [(6, .int 4), (5, .int 3), (4, .int (nB ((decide ((nI dl) = 3)) && (decide ((μ.1 50 41) = 1))))), (3, .int (nB ((((!(decide (0 ≤ (μ.1 61 0)))) || (!(decide (0 ≤ (μ.1 61 1))))) || (!(decide (0 ≤ (μ.1 61 2))))) || (!(decide (0 ≤ (μ.1 61 3))))))), (0, .ref 50), (1, .int 0), (2, .int (nB om))]) (st' := [.int ((μ.1 61 3) + (1000 * (μ.1 50 43))), .int 3, .ref 61]) (by rfl) ?_
                      refine zq_iast hc hH (by rfl) 4 (oka_i (by decide +kernel)).2 (show vp_in (nI 3) 4 from vp_in_nI (by decide) (by decide)) ?_
                      rw [show (3 : Int32).toNatClampNeg = 3 from rfl]
                      show Z 0 160 [(6, .int 4), (5, .int 3), (4, .int (nB ((decide ((nI dl) = 3)) && (decide ((μ.1 50 41) = 1))))), (3, .int (nB ((((!(decide (0 ≤ (μ.1 61 0)))) || (!(decide (0 ≤ (μ.1 61 1))))) || (!(decide (0 ≤ (μ.1 61 2))))) || (!(decide (0 ≤ (μ.1 61 3))))))), (0, .ref 50), (1, .int 0), (2, .int (nB om))] [] (z_ui (z_ui (z_ui (z_ui (z_ui μ 50 44 0) 50 49 (-1)) 50 52 ((μ.1 50 52) + 1)) 50 54 1) 61 3 ((μ.1 61 3) + (1000 * (μ.1 50 43))))
                      refine z_rcs0 hc hH 2 (pc' := 162) (lv' := [(6, .int 4), (5, .int 3), (4, .int (nB ((decide ((nI dl) = 3)) && (decide ((μ.1 50 41) = 1))))), (3, .int (nB ((((!(decide (0 ≤ (μ.1 61 0)))) || (!(decide (0 ≤ (μ.1 61 1))))) || (!(decide (0 ≤ (μ.1 61 2))))) || (!(decide (0 ≤ (μ.1 61 3))))))), (0, .ref 50), (1, .int 0), (2, .int (nB om))]) (st' := [.int 0, .ref 50]) (by rfl) ?_
                      refine zq_pfi hc hH (by rfl) (ci := 6) (f := 43) (by rfl) (by decide +kernel) (by rfl) ?_
                      show Z 0 165 [(6, .int 4), (5, .int 3), (4, .int (nB ((decide ((nI dl) = 3)) && (decide ((μ.1 50 41) = 1))))), (3, .int (nB ((((!(decide (0 ≤ (μ.1 61 0)))) || (!(decide (0 ≤ (μ.1 61 1))))) || (!(decide (0 ≤ (μ.1 61 2))))) || (!(decide (0 ≤ (μ.1 61 3))))))), (0, .ref 50), (1, .int 0), (2, .int (nB om))] [] (z_ui (z_ui (z_ui (z_ui (z_ui (z_ui μ 50 44 0) 50 49 (-1)) 50 52 ((μ.1 50 52) + 1)) 50 54 1) 61 3 ((μ.1 61 3) + (1000 * (μ.1 50 43)))) 50 43 0)
                      exact hr 0 165 _ _ _ none (by decide +kernel) (by rfl) (⟨rfl, (by unfold eM0; simp only [h6, h14, h19, h20, h22, cond_true, cond_false])⟩)
                · have h19 : (decide ((μ.1 61 1) ≤ (μ.1 61 0))) = false := decide_eq_false (cn_le.mp h19)
                  refine z_rcs hc hH 9 (pc' := 111) (lv' := [(6, .int 2), (5, .int 1), (4, .int (nB ((decide ((nI dl) = 3)) && (decide ((μ.1 50 41) = 1))))), (3, .int (nB ((((!(decide (0 ≤ (μ.1 61 0)))) || (!(decide (0 ≤ (μ.1 61 1))))) || (!(decide (0 ≤ (μ.1 61 2))))) || (!(decide (0 ≤ (μ.1 61 3))))))), (0, .ref 50), (1, .int 0), (2, .int (nB om))]) (st' := [.ref 50]) (μ' := z_ui (z_ui (z_ui (z_ui μ 50 44 0) 50 49 (-1)) 50 52 ((μ.1 50 52) + 1)) 50 54 1) (by rfl) ?_
                  refine zq_gfr hc hH (by rfl) (ci := 6) (f := 29) (q := 61) (by rfl) (by decide +kernel) (by rfl) (by decide +kernel) ?_
                  refine z_rcs0 hc hH 1 (pc' := 116) (lv' := [(6, .int 2), (5, .int 1), (4, .int (nB ((decide ((nI dl) = 3)) && (decide ((μ.1 50 41) = 1))))), (3, .int (nB ((((!(decide (0 ≤ (μ.1 61 0)))) || (!(decide (0 ≤ (μ.1 61 1))))) || (!(decide (0 ≤ (μ.1 61 2))))) || (!(decide (0 ≤ (μ.1 61 3))))))), (0, .ref 50), (1, .int 0), (2, .int (nB om))]) (st' := [.int 2, .ref 61]) (by rfl) ?_
                  refine zq_iald hc hH (by rfl) 4 (oka_i (by decide +kernel)) (show vp_in (nI 2) 4 from vp_in_nI (by decide) (by decide)) ?_
                  rw [show (2 : Int32).toNatClampNeg = 2 from rfl]
                  refine zV1 (Z := Z) (Eq.trans (ui_o (by first | decide | omega)) (Eq.trans (ui_o (by first | decide | omega)) (Eq.trans (ui_o (by first | decide | omega)) (ui_o (by first | decide | omega))))) ?_
                  refine z_rcs0 hc hH 1 (pc' := 118) (lv' := [(6, .int 2), (5, .int 1), (4, .int (nB ((decide ((nI dl) = 3)) && (decide ((μ.1 50 41) = 1))))), (3, .int (nB ((((!(decide (0 ≤ (μ.1 61 0)))) || (!(decide (0 ≤ (μ.1 61 1))))) || (!(decide (0 ≤ (μ.1 61 2))))) || (!(decide (0 ≤ (μ.1 61 3))))))), (0, .ref 50), (1, .int 0), (2, .int (nB om))]) (st' := [.ref 50, .int (μ.1 61 2)]) (by rfl) ?_
                  refine zq_gfr hc hH (by rfl) (ci := 6) (f := 29) (q := 61) (by rfl) (by decide +kernel) (by rfl) (by decide +kernel) ?_
                  refine z_rcs0 hc hH 1 (pc' := 123) (lv' := [(6, .int 2), (5, .int 1), (4, .int (nB ((decide ((nI dl) = 3)) && (decide ((μ.1 50 41) = 1))))), (3, .int (nB ((((!(decide (0 ≤ (μ.1 61 0)))) || (!(decide (0 ≤ (μ.1 61 1))))) || (!(decide (0 ≤ (μ.1 61 2))))) || (!(decide (0 ≤ (μ.1 61 3))))))), (0, .ref 50), (1, .int 0), (2, .int (nB om))]) (st' := [.int 1, .ref 61, .int (μ.1 61 2)]) (by rfl) ?_
                  refine zq_iald hc hH (by rfl) 4 (oka_i (by decide +kernel)) (show vp_in (nI 1) 4 from vp_in_nI (by decide) (by decide)) ?_
                  rw [show (1 : Int32).toNatClampNeg = 1 from rfl]
                  refine zV1 (Z := Z) (Eq.trans (ui_o (by first | decide | omega)) (Eq.trans (ui_o (by first | decide | omega)) (Eq.trans (ui_o (by first | decide | omega)) (ui_o (by first | decide | omega))))) ?_
                  refine zq_ic hc hH (by rfl) (tg := 132) (by rfl) (fun h23 => ?_) (fun h23 => ?_)
                  · have h23 : (decide ((μ.1 61 2) ≤ (μ.1 61 1))) = true := decide_eq_true (cm_le.mp h23)
                    refine z_rcs0 hc hH 8 (pc' := 111) (lv' := [(6, .int 3), (5, .int 1), (4, .int (nB ((decide ((nI dl) = 3)) && (decide ((μ.1 50 41) = 1))))), (3, .int (nB ((((!(decide (0 ≤ (μ.1 61 0)))) || (!(decide (0 ≤ (μ.1 61 1))))) || (!(decide (0 ≤ (μ.1 61 2))))) || (!(decide (0 ≤ (μ.1 61 3))))))), (0, .ref 50), (1, .int 0), (2, .int (nB om))]) (st' := [.ref 50]) (by rfl) ?_
                    refine zq_gfr hc hH (by rfl) (ci := 6) (f := 29) (q := 61) (by rfl) (by decide +kernel) (by rfl) (by decide +kernel) ?_
                    refine z_rcs0 hc hH 1 (pc' := 116) (lv' := [(6, .int 3), (5, .int 1), (4, .int (nB ((decide ((nI dl) = 3)) && (decide ((μ.1 50 41) = 1))))), (3, .int (nB ((((!(decide (0 ≤ (μ.1 61 0)))) || (!(decide (0 ≤ (μ.1 61 1))))) || (!(decide (0 ≤ (μ.1 61 2))))) || (!(decide (0 ≤ (μ.1 61 3))))))), (0, .ref 50), (1, .int 0), (2, .int (nB om))]) (st' := [.int 3, .ref 61]) (by rfl) ?_
                    refine zq_iald hc hH (by rfl) 4 (oka_i (by decide +kernel)) (show vp_in (nI 3) 4 from vp_in_nI (by decide) (by decide)) ?_
                    rw [show (3 : Int32).toNatClampNeg = 3 from rfl]
                    refine zV1 (Z := Z) (Eq.trans (ui_o (by first | decide | omega)) (Eq.trans (ui_o (by first | decide | omega)) (Eq.trans (ui_o (by first | decide | omega)) (ui_o (by first | decide | omega))))) ?_
                    refine z_rcs0 hc hH 1 (pc' := 118) (lv' := [(6, .int 3), (5, .int 1), (4, .int (nB ((decide ((nI dl) = 3)) && (decide ((μ.1 50 41) = 1))))), (3, .int (nB ((((!(decide (0 ≤ (μ.1 61 0)))) || (!(decide (0 ≤ (μ.1 61 1))))) || (!(decide (0 ≤ (μ.1 61 2))))) || (!(decide (0 ≤ (μ.1 61 3))))))), (0, .ref 50), (1, .int 0), (2, .int (nB om))]) (st' := [.ref 50, .int (μ.1 61 3)]) (by rfl) ?_
                    refine zq_gfr hc hH (by rfl) (ci := 6) (f := 29) (q := 61) (by rfl) (by decide +kernel) (by rfl) (by decide +kernel) ?_
                    refine z_rcs0 hc hH 1 (pc' := 123) (lv' := [(6, .int 3), (5, .int 1), (4, .int (nB ((decide ((nI dl) = 3)) && (decide ((μ.1 50 41) = 1))))), (3, .int (nB ((((!(decide (0 ≤ (μ.1 61 0)))) || (!(decide (0 ≤ (μ.1 61 1))))) || (!(decide (0 ≤ (μ.1 61 2))))) || (!(decide (0 ≤ (μ.1 61 3))))))), (0, .ref 50), (1, .int 0), (2, .int (nB om))]) (st' := [.int 1, .ref 61, .int (μ.1 61 3)]) (by rfl) ?_
                    refine zq_iald hc hH (by rfl) 4 (oka_i (by decide +kernel)) (show vp_in (nI 1) 4 from vp_in_nI (by decide) (by decide)) ?_
                    rw [show (1 : Int32).toNatClampNeg = 1 from rfl]
                    refine zV1 (Z := Z) (Eq.trans (ui_o (by first | decide | omega)) (Eq.trans (ui_o (by first | decide | omega)) (Eq.trans (ui_o (by first | decide | omega)) (ui_o (by first | decide | omega))))) ?_
                    refine zq_ic hc hH (by rfl) (tg := 132) (by rfl) (fun h24 => ?_) (fun h24 => ?_)
                    · have h24 : (decide ((μ.1 61 3) ≤ (μ.1 61 1))) = true := decide_eq_true (cm_le.mp h24)
                      refine z_rcs0 hc hH 8 (pc' := 143) (lv' := [(6, .int 4), (5, .int 1), (4, .int (nB ((decide ((nI dl) = 3)) && (decide ((μ.1 50 41) = 1))))), (3, .int (nB ((((!(decide (0 ≤ (μ.1 61 0)))) || (!(decide (0 ≤ (μ.1 61 1))))) || (!(decide (0 ≤ (μ.1 61 2))))) || (!(decide (0 ≤ (μ.1 61 3))))))), (0, .ref 50), (1, .int 0), (2, .int (nB om))]) (st' := [.ref 50]) (by rfl) ?_
                      refine zq_gfr hc hH (by rfl) (ci := 6) (f := 29) (q := 61) (by rfl) (by decide +kernel) (by rfl) (by decide +kernel) ?_
                      refine z_rcs0 hc hH 2 (pc' := 149) (lv' := [(6, .int 4), (5, .int 1), (4, .int (nB ((decide ((nI dl) = 3)) && (decide ((μ.1 50 41) = 1))))), (3, .int (nB ((((!(decide (0 ≤ (μ.1 61 0)))) || (!(decide (0 ≤ (μ.1 61 1))))) || (!(decide (0 ≤ (μ.1 61 2))))) || (!(decide (0 ≤ (μ.1 61 3))))))), (0, .ref 50), (1, .int 0), (2, .int (nB om))]) (st' := [.int 1, .ref 61, .int 1, .ref 61]) (by rfl) ?_
                      refine zq_iald hc hH (by rfl) 4 (oka_i (by decide +kernel)) (show vp_in (nI 1) 4 from vp_in_nI (by decide) (by decide)) ?_
                      rw [show (1 : Int32).toNatClampNeg = 1 from rfl]
                      refine zV1 (Z := Z) (Eq.trans (ui_o (by first | decide | omega)) (Eq.trans (ui_o (by first | decide | omega)) (Eq.trans (ui_o (by first | decide | omega)) (ui_o (by first | decide | omega))))) ?_
                      refine z_rcs0 hc hH 2 (pc' := 154) (lv' := [(6, .int 4), (5, .int 1), (4, .int (nB ((decide ((nI dl) = 3)) && (decide ((μ.1 50 41) = 1))))), (3, .int (nB ((((!(decide (0 ≤ (μ.1 61 0)))) || (!(decide (0 ≤ (μ.1 61 1))))) || (!(decide (0 ≤ (μ.1 61 2))))) || (!(decide (0 ≤ (μ.1 61 3))))))), (0, .ref 50), (1, .int 0), (2, .int (nB om))]) (st' := [.ref 50, .int 1000, .int (μ.1 61 1), .int 1, .ref 61]) (by rfl) ?_
                      refine zq_gfi hc hH (by rfl) (ci := 6) (f := 43) (by rfl) (by decide +kernel) (by rfl) ?_
                      refine zV1 (Z := Z) (Eq.trans (ui_k (by first | decide | omega)) (Eq.trans (ui_k (by first | decide | omega)) (Eq.trans (ui_k (by first | decide | omega)) (ui_k (by first | decide | omega))))) ?_
                      refine z_rcs0 hc hH 2 (pc' := 159) (lv' := [(6, .int 4), (5, .int 1), (4, .int (nB ((decide ((nI dl) = 3)) && (decide ((μ.1 50 41) = 1))))), (3, .int (nB ((((!(decide (0 ≤ (μ.1 61 0)))) || (!(decide (0 ≤ (μ.1 61 1))))) || (!(decide (0 ≤ (μ.1 61 2))))) || (!(decide (0 ≤ (μ.1 61 3))))))), (0, .ref 50), (1, .int 0), (2, .int (nB om))]) (st' := [.int ((μ.1 61 1) + (1000 * (μ.1 50 43))), .int 1, .ref 61]) (by rfl) ?_
                      refine zq_iast hc hH (by rfl) 4 (oka_i (by decide +kernel)).2 (show vp_in (nI 1) 4 from vp_in_nI (by decide) (by decide)) ?_
                      rw [show (1 : Int32).toNatClampNeg = 1 from rfl]
                      show Z 0 160 [(6, .int 4), (5, .int 1), (4, .int (nB ((decide ((nI dl) = 3)) && (decide ((μ.1 50 41) = 1))))), (3, .int (nB ((((!(decide (0 ≤ (μ.1 61 0)))) || (!(decide (0 ≤ (μ.1 61 1))))) || (!(decide (0 ≤ (μ.1 61 2))))) || (!(decide (0 ≤ (μ.1 61 3))))))), (0, .ref 50), (1, .int 0), (2, .int (nB om))] [] (z_ui (z_ui (z_ui (z_ui (z_ui μ 50 44 0) 50 49 (-1)) 50 52 ((μ.1 50 52) + 1)) 50 54 1) 61 1 ((μ.1 61 1) + (1000 * (μ.1 50 43))))
                      refine z_rcs0 hc hH 2 (pc' := 162) (lv' := [(6, .int 4), (5, .int 1), (4, .int (nB ((decide ((nI dl) = 3)) && (decide ((μ.1 50 41) = 1))))), (3, .int (nB ((((!(decide (0 ≤ (μ.1 61 0)))) || (!(decide (0 ≤ (μ.1 61 1))))) || (!(decide (0 ≤ (μ.1 61 2))))) || (!(decide (0 ≤ (μ.1 61 3))))))), (0, .ref 50), (1, .int 0), (2, .int (nB om))]) (st' := [.int 0, .ref 50]) (by rfl) ?_
                      refine zq_pfi hc hH (by rfl) (ci := 6) (f := 43) (by rfl) (by decide +kernel) (by rfl) ?_
                      show Z 0 165 [(6, .int 4), (5, .int 1), (4, .int (nB ((decide ((nI dl) = 3)) && (decide ((μ.1 50 41) = 1))))), (3, .int (nB ((((!(decide (0 ≤ (μ.1 61 0)))) || (!(decide (0 ≤ (μ.1 61 1))))) || (!(decide (0 ≤ (μ.1 61 2))))) || (!(decide (0 ≤ (μ.1 61 3))))))), (0, .ref 50), (1, .int 0), (2, .int (nB om))] [] (z_ui (z_ui (z_ui (z_ui (z_ui (z_ui μ 50 44 0) 50 49 (-1)) 50 52 ((μ.1 50 52) + 1)) 50 54 1) 61 1 ((μ.1 61 1) + (1000 * (μ.1 50 43)))) 50 43 0)
                      exact hr 0 165 _ _ _ none (by decide +kernel) (by rfl) (⟨rfl, (by unfold eM0; simp only [h6, h14, h19, h23, h24, cond_true, cond_false])⟩)
                    · have h24 : (decide ((μ.1 61 3) ≤ (μ.1 61 1))) = false := decide_eq_false (cn_le.mp h24)
                      refine z_rcs hc hH 9 (pc' := 143) (lv' := [(6, .int 4), (5, .int 3), (4, .int (nB ((decide ((nI dl) = 3)) && (decide ((μ.1 50 41) = 1))))), (3, .int (nB ((((!(decide (0 ≤ (μ.1 61 0)))) || (!(decide (0 ≤ (μ.1 61 1))))) || (!(decide (0 ≤ (μ.1 61 2))))) || (!(decide (0 ≤ (μ.1 61 3))))))), (0, .ref 50), (1, .int 0), (2, .int (nB om))]) (st' := [.ref 50]) (μ' := z_ui (z_ui (z_ui (z_ui μ 50 44 0) 50 49 (-1)) 50 52 ((μ.1 50 52) + 1)) 50 54 1) (by rfl) ?_
                      refine zq_gfr hc hH (by rfl) (ci := 6) (f := 29) (q := 61) (by rfl) (by decide +kernel) (by rfl) (by decide +kernel) ?_
                      refine z_rcs0 hc hH 2 (pc' := 149) (lv' := [(6, .int 4), (5, .int 3), (4, .int (nB ((decide ((nI dl) = 3)) && (decide ((μ.1 50 41) = 1))))), (3, .int (nB ((((!(decide (0 ≤ (μ.1 61 0)))) || (!(decide (0 ≤ (μ.1 61 1))))) || (!(decide (0 ≤ (μ.1 61 2))))) || (!(decide (0 ≤ (μ.1 61 3))))))), (0, .ref 50), (1, .int 0), (2, .int (nB om))]) (st' := [.int 3, .ref 61, .int 3, .ref 61]) (by rfl) ?_
                      refine zq_iald hc hH (by rfl) 4 (oka_i (by decide +kernel)) (show vp_in (nI 3) 4 from vp_in_nI (by decide) (by decide)) ?_
                      rw [show (3 : Int32).toNatClampNeg = 3 from rfl]
                      refine zV1 (Z := Z) (Eq.trans (ui_o (by first | decide | omega)) (Eq.trans (ui_o (by first | decide | omega)) (Eq.trans (ui_o (by first | decide | omega)) (ui_o (by first | decide | omega))))) ?_
                      refine z_rcs0 hc hH 2 (pc' := 154) (lv' := [(6, .int 4), (5, .int 3), (4, .int (nB ((decide ((nI dl) = 3)) && (decide ((μ.1 50 41) = 1))))), (3, .int (nB ((((!(decide (0 ≤ (μ.1 61 0)))) || (!(decide (0 ≤ (μ.1 61 1))))) || (!(decide (0 ≤ (μ.1 61 2))))) || (!(decide (0 ≤ (μ.1 61 3))))))), (0, .ref 50), (1, .int 0), (2, .int (nB om))]) (st' := [.ref 50, .int 1000, .int (μ.1 61 3), .int 3, .ref 61]) (by rfl) ?_
                      refine zq_gfi hc hH (by rfl) (ci := 6) (f := 43) (by rfl) (by decide +kernel) (by rfl) ?_
                      refine zV1 (Z := Z) (Eq.trans (ui_k (by first | decide | omega)) (Eq.trans (ui_k (by first | decide | omega)) (Eq.trans (ui_k (by first | decide | omega)) (ui_k (by first | decide | omega))))) ?_
                      refine z_rcs0 hc hH 2 (pc' := 159) (lv' := [(6, .int 4), (5, .int 3), (4, .int (nB ((decide ((nI dl) = 3)) && (decide ((μ.1 50 41) = 1))))), (3, .int (nB ((((!(decide (0 ≤ (μ.1 61 0)))) || (!(decide (0 ≤ (μ.1 61 1))))) || (!(decide (0 ≤ (μ.1 61 2))))) || (!(decide (0 ≤ (μ.1 61 3))))))), (0, .ref 50), (1, .int 0), (2, .int (nB om))]) (st' := [.int ((μ.1 61 3) + (1000 * (μ.1 50 43))), .int 3, .ref 61]) (by rfl) ?_
                      refine zq_iast hc hH (by rfl) 4 (oka_i (by decide +kernel)).2 (show vp_in (nI 3) 4 from vp_in_nI (by decide) (by decide)) ?_
                      rw [show (3 : Int32).toNatClampNeg = 3 from rfl]
                      show Z 0 160 [(6, .int 4), (5, .int 3), (4, .int (nB ((decide ((nI dl) = 3)) && (decide ((μ.1 50 41) = 1))))), (3, .int (nB ((((!(decide (0 ≤ (μ.1 61 0)))) || (!(decide (0 ≤ (μ.1 61 1))))) || (!(decide (0 ≤ (μ.1 61 2))))) || (!(decide (0 ≤ (μ.1 61 3))))))), (0, .ref 50), (1, .int 0), (2, .int (nB om))] [] (z_ui (z_ui (z_ui (z_ui (z_ui μ 50 44 0) 50 49 (-1)) 50 52 ((μ.1 50 52) + 1)) 50 54 1) 61 3 ((μ.1 61 3) + (1000 * (μ.1 50 43))))
                      refine z_rcs0 hc hH 2 (pc' := 162) (lv' := [(6, .int 4), (5, .int 3), (4, .int (nB ((decide ((nI dl) = 3)) && (decide ((μ.1 50 41) = 1))))), (3, .int (nB ((((!(decide (0 ≤ (μ.1 61 0)))) || (!(decide (0 ≤ (μ.1 61 1))))) || (!(decide (0 ≤ (μ.1 61 2))))) || (!(decide (0 ≤ (μ.1 61 3))))))), (0, .ref 50), (1, .int 0), (2, .int (nB om))]) (st' := [.int 0, .ref 50]) (by rfl) ?_
                      refine zq_pfi hc hH (by rfl) (ci := 6) (f := 43) (by rfl) (by decide +kernel) (by rfl) ?_
                      show Z 0 165 [(6, .int 4), (5, .int 3), (4, .int (nB ((decide ((nI dl) = 3)) && (decide ((μ.1 50 41) = 1))))), (3, .int (nB ((((!(decide (0 ≤ (μ.1 61 0)))) || (!(decide (0 ≤ (μ.1 61 1))))) || (!(decide (0 ≤ (μ.1 61 2))))) || (!(decide (0 ≤ (μ.1 61 3))))))), (0, .ref 50), (1, .int 0), (2, .int (nB om))] [] (z_ui (z_ui (z_ui (z_ui (z_ui (z_ui μ 50 44 0) 50 49 (-1)) 50 52 ((μ.1 50 52) + 1)) 50 54 1) 61 3 ((μ.1 61 3) + (1000 * (μ.1 50 43)))) 50 43 0)
                      exact hr 0 165 _ _ _ none (by decide +kernel) (by rfl) (⟨rfl, (by unfold eM0; simp only [h6, h14, h19, h23, h24, cond_true, cond_false])⟩)
                  · have h23 : (decide ((μ.1 61 2) ≤ (μ.1 61 1))) = false := decide_eq_false (cn_le.mp h23)
                    refine z_rcs hc hH 9 (pc' := 111) (lv' := [(6, .int 3), (5, .int 2), (4, .int (nB ((decide ((nI dl) = 3)) && (decide ((μ.1 50 41) = 1))))), (3, .int (nB ((((!(decide (0 ≤ (μ.1 61 0)))) || (!(decide (0 ≤ (μ.1 61 1))))) || (!(decide (0 ≤ (μ.1 61 2))))) || (!(decide (0 ≤ (μ.1 61 3))))))), (0, .ref 50), (1, .int 0), (2, .int (nB om))]) (st' := [.ref 50]) (μ' := z_ui (z_ui (z_ui (z_ui μ 50 44 0) 50 49 (-1)) 50 52 ((μ.1 50 52) + 1)) 50 54 1) (by rfl) ?_
                    refine zq_gfr hc hH (by rfl) (ci := 6) (f := 29) (q := 61) (by rfl) (by decide +kernel) (by rfl) (by decide +kernel) ?_
                    refine z_rcs0 hc hH 1 (pc' := 116) (lv' := [(6, .int 3), (5, .int 2), (4, .int (nB ((decide ((nI dl) = 3)) && (decide ((μ.1 50 41) = 1))))), (3, .int (nB ((((!(decide (0 ≤ (μ.1 61 0)))) || (!(decide (0 ≤ (μ.1 61 1))))) || (!(decide (0 ≤ (μ.1 61 2))))) || (!(decide (0 ≤ (μ.1 61 3))))))), (0, .ref 50), (1, .int 0), (2, .int (nB om))]) (st' := [.int 3, .ref 61]) (by rfl) ?_
                    refine zq_iald hc hH (by rfl) 4 (oka_i (by decide +kernel)) (show vp_in (nI 3) 4 from vp_in_nI (by decide) (by decide)) ?_
                    rw [show (3 : Int32).toNatClampNeg = 3 from rfl]
                    refine zV1 (Z := Z) (Eq.trans (ui_o (by first | decide | omega)) (Eq.trans (ui_o (by first | decide | omega)) (Eq.trans (ui_o (by first | decide | omega)) (ui_o (by first | decide | omega))))) ?_
                    refine z_rcs0 hc hH 1 (pc' := 118) (lv' := [(6, .int 3), (5, .int 2), (4, .int (nB ((decide ((nI dl) = 3)) && (decide ((μ.1 50 41) = 1))))), (3, .int (nB ((((!(decide (0 ≤ (μ.1 61 0)))) || (!(decide (0 ≤ (μ.1 61 1))))) || (!(decide (0 ≤ (μ.1 61 2))))) || (!(decide (0 ≤ (μ.1 61 3))))))), (0, .ref 50), (1, .int 0), (2, .int (nB om))]) (st' := [.ref 50, .int (μ.1 61 3)]) (by rfl) ?_
                    refine zq_gfr hc hH (by rfl) (ci := 6) (f := 29) (q := 61) (by rfl) (by decide +kernel) (by rfl) (by decide +kernel) ?_
                    refine z_rcs0 hc hH 1 (pc' := 123) (lv' := [(6, .int 3), (5, .int 2), (4, .int (nB ((decide ((nI dl) = 3)) && (decide ((μ.1 50 41) = 1))))), (3, .int (nB ((((!(decide (0 ≤ (μ.1 61 0)))) || (!(decide (0 ≤ (μ.1 61 1))))) || (!(decide (0 ≤ (μ.1 61 2))))) || (!(decide (0 ≤ (μ.1 61 3))))))), (0, .ref 50), (1, .int 0), (2, .int (nB om))]) (st' := [.int 2, .ref 61, .int (μ.1 61 3)]) (by rfl) ?_
                    refine zq_iald hc hH (by rfl) 4 (oka_i (by decide +kernel)) (show vp_in (nI 2) 4 from vp_in_nI (by decide) (by decide)) ?_
                    rw [show (2 : Int32).toNatClampNeg = 2 from rfl]
                    refine zV1 (Z := Z) (Eq.trans (ui_o (by first | decide | omega)) (Eq.trans (ui_o (by first | decide | omega)) (Eq.trans (ui_o (by first | decide | omega)) (ui_o (by first | decide | omega))))) ?_
                    refine zq_ic hc hH (by rfl) (tg := 132) (by rfl) (fun h25 => ?_) (fun h25 => ?_)
                    · have h25 : (decide ((μ.1 61 3) ≤ (μ.1 61 2))) = true := decide_eq_true (cm_le.mp h25)
                      refine z_rcs0 hc hH 8 (pc' := 143) (lv' := [(6, .int 4), (5, .int 2), (4, .int (nB ((decide ((nI dl) = 3)) && (decide ((μ.1 50 41) = 1))))), (3, .int (nB ((((!(decide (0 ≤ (μ.1 61 0)))) || (!(decide (0 ≤ (μ.1 61 1))))) || (!(decide (0 ≤ (μ.1 61 2))))) || (!(decide (0 ≤ (μ.1 61 3))))))), (0, .ref 50), (1, .int 0), (2, .int (nB om))]) (st' := [.ref 50]) (by rfl) ?_
                      refine zq_gfr hc hH (by rfl) (ci := 6) (f := 29) (q := 61) (by rfl) (by decide +kernel) (by rfl) (by decide +kernel) ?_
                      refine z_rcs0 hc hH 2 (pc' := 149) (lv' := [(6, .int 4), (5, .int 2), (4, .int (nB ((decide ((nI dl) = 3)) && (decide ((μ.1 50 41) = 1))))), (3, .int (nB ((((!(decide (0 ≤ (μ.1 61 0)))) || (!(decide (0 ≤ (μ.1 61 1))))) || (!(decide (0 ≤ (μ.1 61 2))))) || (!(decide (0 ≤ (μ.1 61 3))))))), (0, .ref 50), (1, .int 0), (2, .int (nB om))]) (st' := [.int 2, .ref 61, .int 2, .ref 61]) (by rfl) ?_
                      refine zq_iald hc hH (by rfl) 4 (oka_i (by decide +kernel)) (show vp_in (nI 2) 4 from vp_in_nI (by decide) (by decide)) ?_
                      rw [show (2 : Int32).toNatClampNeg = 2 from rfl]
                      refine zV1 (Z := Z) (Eq.trans (ui_o (by first | decide | omega)) (Eq.trans (ui_o (by first | decide | omega)) (Eq.trans (ui_o (by first | decide | omega)) (ui_o (by first | decide | omega))))) ?_
                      refine z_rcs0 hc hH 2 (pc' := 154) (lv' := [(6, .int 4), (5, .int 2), (4, .int (nB ((decide ((nI dl) = 3)) && (decide ((μ.1 50 41) = 1))))), (3, .int (nB ((((!(decide (0 ≤ (μ.1 61 0)))) || (!(decide (0 ≤ (μ.1 61 1))))) || (!(decide (0 ≤ (μ.1 61 2))))) || (!(decide (0 ≤ (μ.1 61 3))))))), (0, .ref 50), (1, .int 0), (2, .int (nB om))]) (st' := [.ref 50, .int 1000, .int (μ.1 61 2), .int 2, .ref 61]) (by rfl) ?_
                      refine zq_gfi hc hH (by rfl) (ci := 6) (f := 43) (by rfl) (by decide +kernel) (by rfl) ?_
                      refine zV1 (Z := Z) (Eq.trans (ui_k (by first | decide | omega)) (Eq.trans (ui_k (by first | decide | omega)) (Eq.trans (ui_k (by first | decide | omega)) (ui_k (by first | decide | omega))))) ?_
                      refine z_rcs0 hc hH 2 (pc' := 159) (lv' := [(6, .int 4), (5, .int 2), (4, .int (nB ((decide ((nI dl) = 3)) && (decide ((μ.1 50 41) = 1))))), (3, .int (nB ((((!(decide (0 ≤ (μ.1 61 0)))) || (!(decide (0 ≤ (μ.1 61 1))))) || (!(decide (0 ≤ (μ.1 61 2))))) || (!(decide (0 ≤ (μ.1 61 3))))))), (0, .ref 50), (1, .int 0), (2, .int (nB om))]) (st' := [.int ((μ.1 61 2) + (1000 * (μ.1 50 43))), .int 2, .ref 61]) (by rfl) ?_
                      refine zq_iast hc hH (by rfl) 4 (oka_i (by decide +kernel)).2 (show vp_in (nI 2) 4 from vp_in_nI (by decide) (by decide)) ?_
                      rw [show (2 : Int32).toNatClampNeg = 2 from rfl]
                      show Z 0 160 [(6, .int 4), (5, .int 2), (4, .int (nB ((decide ((nI dl) = 3)) && (decide ((μ.1 50 41) = 1))))), (3, .int (nB ((((!(decide (0 ≤ (μ.1 61 0)))) || (!(decide (0 ≤ (μ.1 61 1))))) || (!(decide (0 ≤ (μ.1 61 2))))) || (!(decide (0 ≤ (μ.1 61 3))))))), (0, .ref 50), (1, .int 0), (2, .int (nB om))] [] (z_ui (z_ui (z_ui (z_ui (z_ui μ 50 44 0) 50 49 (-1)) 50 52 ((μ.1 50 52) + 1)) 50 54 1) 61 2 ((μ.1 61 2) + (1000 * (μ.1 50 43))))
                      refine z_rcs0 hc hH 2 (pc' := 162) (lv' := [(6, .int 4), (5, .int 2), (4, .int (nB ((decide ((nI dl) = 3)) && (decide ((μ.1 50 41) = 1))))), (3, .int (nB ((((!(decide (0 ≤ (μ.1 61 0)))) || (!(decide (0 ≤ (μ.1 61 1))))) || (!(decide (0 ≤ (μ.1 61 2))))) || (!(decide (0 ≤ (μ.1 61 3))))))), (0, .ref 50), (1, .int 0), (2, .int (nB om))]) (st' := [.int 0, .ref 50]) (by rfl) ?_
                      refine zq_pfi hc hH (by rfl) (ci := 6) (f := 43) (by rfl) (by decide +kernel) (by rfl) ?_
                      show Z 0 165 [(6, .int 4), (5, .int 2), (4, .int (nB ((decide ((nI dl) = 3)) && (decide ((μ.1 50 41) = 1))))), (3, .int (nB ((((!(decide (0 ≤ (μ.1 61 0)))) || (!(decide (0 ≤ (μ.1 61 1))))) || (!(decide (0 ≤ (μ.1 61 2))))) || (!(decide (0 ≤ (μ.1 61 3))))))), (0, .ref 50), (1, .int 0), (2, .int (nB om))] [] (z_ui (z_ui (z_ui (z_ui (z_ui (z_ui μ 50 44 0) 50 49 (-1)) 50 52 ((μ.1 50 52) + 1)) 50 54 1) 61 2 ((μ.1 61 2) + (1000 * (μ.1 50 43)))) 50 43 0)
                      exact hr 0 165 _ _ _ none (by decide +kernel) (by rfl) (⟨rfl, (by unfold eM0; simp only [h6, h14, h19, h23, h25, cond_true, cond_false])⟩)
                    · have h25 : (decide ((μ.1 61 3) ≤ (μ.1 61 2))) = false := decide_eq_false (cn_le.mp h25)
                      refine z_rcs hc hH 9 (pc' := 143) (lv' := [(6, .int 4), (5, .int 3), (4, .int (nB ((decide ((nI dl) = 3)) && (decide ((μ.1 50 41) = 1))))), (3, .int (nB ((((!(decide (0 ≤ (μ.1 61 0)))) || (!(decide (0 ≤ (μ.1 61 1))))) || (!(decide (0 ≤ (μ.1 61 2))))) || (!(decide (0 ≤ (μ.1 61 3))))))), (0, .ref 50), (1, .int 0), (2, .int (nB om))]) (st' := [.ref 50]) (μ' := z_ui (z_ui (z_ui (z_ui μ 50 44 0) 50 49 (-1)) 50 52 ((μ.1 50 52) + 1)) 50 54 1) (by rfl) ?_
                      refine zq_gfr hc hH (by rfl) (ci := 6) (f := 29) (q := 61) (by rfl) (by decide +kernel) (by rfl) (by decide +kernel) ?_
                      refine z_rcs0 hc hH 2 (pc' := 149) (lv' := [(6, .int 4), (5, .int 3), (4, .int (nB ((decide ((nI dl) = 3)) && (decide ((μ.1 50 41) = 1))))), (3, .int (nB ((((!(decide (0 ≤ (μ.1 61 0)))) || (!(decide (0 ≤ (μ.1 61 1))))) || (!(decide (0 ≤ (μ.1 61 2))))) || (!(decide (0 ≤ (μ.1 61 3))))))), (0, .ref 50), (1, .int 0), (2, .int (nB om))]) (st' := [.int 3, .ref 61, .int 3, .ref 61]) (by rfl) ?_
                      refine zq_iald hc hH (by rfl) 4 (oka_i (by decide +kernel)) (show vp_in (nI 3) 4 from vp_in_nI (by decide) (by decide)) ?_
                      rw [show (3 : Int32).toNatClampNeg = 3 from rfl]
                      refine zV1 (Z := Z) (Eq.trans (ui_o (by first | decide | omega)) (Eq.trans (ui_o (by first | decide | omega)) (Eq.trans (ui_o (by first | decide | omega)) (ui_o (by first | decide | omega))))) ?_
                      refine z_rcs0 hc hH 2 (pc' := 154) (lv' := [(6, .int 4), (5, .int 3), (4, .int (nB ((decide ((nI dl) = 3)) && (decide ((μ.1 50 41) = 1))))), (3, .int (nB ((((!(decide (0 ≤ (μ.1 61 0)))) || (!(decide (0 ≤ (μ.1 61 1))))) || (!(decide (0 ≤ (μ.1 61 2))))) || (!(decide (0 ≤ (μ.1 61 3))))))), (0, .ref 50), (1, .int 0), (2, .int (nB om))]) (st' := [.ref 50, .int 1000, .int (μ.1 61 3), .int 3, .ref 61]) (by rfl) ?_
                      refine zq_gfi hc hH (by rfl) (ci := 6) (f := 43) (by rfl) (by decide +kernel) (by rfl) ?_
                      refine zV1 (Z := Z) (Eq.trans (ui_k (by first | decide | omega)) (Eq.trans (ui_k (by first | decide | omega)) (Eq.trans (ui_k (by first | decide | omega)) (ui_k (by first | decide | omega))))) ?_
                      refine z_rcs0 hc hH 2 (pc' := 159) (lv' := [(6, .int 4), (5, .int 3), (4, .int (nB ((decide ((nI dl) = 3)) && (decide ((μ.1 50 41) = 1))))), (3, .int (nB ((((!(decide (0 ≤ (μ.1 61 0)))) || (!(decide (0 ≤ (μ.1 61 1))))) || (!(decide (0 ≤ (μ.1 61 2))))) || (!(decide (0 ≤ (μ.1 61 3))))))), (0, .ref 50), (1, .int 0), (2, .int (nB om))]) (st' := [.int ((μ.1 61 3) + (1000 * (μ.1 50 43))), .int 3, .ref 61]) (by rfl) ?_
                      refine zq_iast hc hH (by rfl) 4 (oka_i (by decide +kernel)).2 (show vp_in (nI 3) 4 from vp_in_nI (by decide) (by decide)) ?_
                      rw [show (3 : Int32).toNatClampNeg = 3 from rfl]
                      show Z 0 160 [(6, .int 4), (5, .int 3), (4, .int (nB ((decide ((nI dl) = 3)) && (decide ((μ.1 50 41) = 1))))), (3, .int (nB ((((!(decide (0 ≤ (μ.1 61 0)))) || (!(decide (0 ≤ (μ.1 61 1))))) || (!(decide (0 ≤ (μ.1 61 2))))) || (!(decide (0 ≤ (μ.1 61 3))))))), (0, .ref 50), (1, .int 0), (2, .int (nB om))] [] (z_ui (z_ui (z_ui (z_ui (z_ui μ 50 44 0) 50 49 (-1)) 50 52 ((μ.1 50 52) + 1)) 50 54 1) 61 3 ((μ.1 61 3) + (1000 * (μ.1 50 43))))
                      refine z_rcs0 hc hH 2 (pc' := 162) (lv' := [(6, .int 4), (5, .int 3), (4, .int (nB ((decide ((nI dl) = 3)) && (decide ((μ.1 50 41) = 1))))), (3, .int (nB ((((!(decide (0 ≤ (μ.1 61 0)))) || (!(decide (0 ≤ (μ.1 61 1))))) || (!(decide (0 ≤ (μ.1 61 2))))) || (!(decide (0 ≤ (μ.1 61 3))))))), (0, .ref 50), (1, .int 0), (2, .int (nB om))]) (st' := [.int 0, .ref 50]) (by rfl) ?_
                      refine zq_pfi hc hH (by rfl) (ci := 6) (f := 43) (by rfl) (by decide +kernel) (by rfl) ?_
                      show Z 0 165 [(6, .int 4), (5, .int 3), (4, .int (nB ((decide ((nI dl) = 3)) && (decide ((μ.1 50 41) = 1))))), (3, .int (nB ((((!(decide (0 ≤ (μ.1 61 0)))) || (!(decide (0 ≤ (μ.1 61 1))))) || (!(decide (0 ≤ (μ.1 61 2))))) || (!(decide (0 ≤ (μ.1 61 3))))))), (0, .ref 50), (1, .int 0), (2, .int (nB om))] [] (z_ui (z_ui (z_ui (z_ui (z_ui (z_ui μ 50 44 0) 50 49 (-1)) 50 52 ((μ.1 50 52) + 1)) 50 54 1) 61 3 ((μ.1 61 3) + (1000 * (μ.1 50 43)))) 50 43 0)
                      exact hr 0 165 _ _ _ none (by decide +kernel) (by rfl) (⟨rfl, (by unfold eM0; simp only [h6, h14, h19, h23, h25, cond_true, cond_false])⟩)
          refine zq_ic hc hH (by rfl) (tg := 81) (by rfl) (fun h26 => ?_) (fun h26 => ?_)
          · have h26 : (decide ((nI dl) = 3)) = false := decide_eq_false (cm_ne.mp h26)
            refine z_rcs hc hH 1 (pc' := 82) (lv' := [(4, .int 4), (3, .int (nB ((((!(decide (0 ≤ (μ.1 61 0)))) || (!(decide (0 ≤ (μ.1 61 1))))) || (!(decide (0 ≤ (μ.1 61 2))))) || (!(decide (0 ≤ (μ.1 61 3))))))), (0, .ref 50), (1, .int 0), (2, .int (nB om))]) (st' := [.int 0]) (μ' := z_ui (z_ui (z_ui μ 50 44 0) 50 49 (-1)) 50 52 ((μ.1 50 52) + 1)) (by rfl) ?_
            exact zJ hJ5 rfl (by first | with_reducible rfl | (simp only [h26, lb_f, Int64.or_zero, Int32.add_zero, nB_t, nB_f, Bool.not_true, Bool.not_false, Bool.and_true, Bool.true_and, Bool.false_and, Bool.and_false, Bool.or_true, Bool.true_or, Bool.false_or, Bool.or_false, cond_true, cond_false]; done) | rfl) rfl
          · have h26 : (decide ((nI dl) = 3)) = true := decide_eq_true (cn_ne.mp h26)
            refine z_rcs0 hc hH 1 (pc' := 70) (lv' := [(4, .int 4), (3, .int (nB ((((!(decide (0 ≤ (μ.1 61 0)))) || (!(decide (0 ≤ (μ.1 61 1))))) || (!(decide (0 ≤ (μ.1 61 2))))) || (!(decide (0 ≤ (μ.1 61 3))))))), (0, .ref 50), (1, .int 0), (2, .int (nB om))]) (st' := [.ref 50]) (by rfl) ?_
            refine zq_gfi hc hH (by rfl) (ci := 6) (f := 41) (by rfl) (by decide +kernel) (by rfl) ?_
            refine zV1 (Z := Z) (Eq.trans (ui_k (by first | decide | omega)) (Eq.trans (ui_k (by first | decide | omega)) (ui_k (by first | decide | omega)))) ?_
            refine z_rcs0 hc hH 1 (pc' := 74) (lv' := [(4, .int 4), (3, .int (nB ((((!(decide (0 ≤ (μ.1 61 0)))) || (!(decide (0 ≤ (μ.1 61 1))))) || (!(decide (0 ≤ (μ.1 61 2))))) || (!(decide (0 ≤ (μ.1 61 3))))))), (0, .ref 50), (1, .int 0), (2, .int (nB om))]) (st' := [.int 1, .int (μ.1 50 41)]) (by rfl) ?_
            refine zq_ic hc hH (by rfl) (tg := 81) (by rfl) (fun h27 => ?_) (fun h27 => ?_)
            · have h27 : (decide ((μ.1 50 41) = 1)) = false := decide_eq_false (cm_ne.mp h27)
              refine z_rcs0 hc hH 1 (pc' := 82) (lv' := [(4, .int 4), (3, .int (nB ((((!(decide (0 ≤ (μ.1 61 0)))) || (!(decide (0 ≤ (μ.1 61 1))))) || (!(decide (0 ≤ (μ.1 61 2))))) || (!(decide (0 ≤ (μ.1 61 3))))))), (0, .ref 50), (1, .int 0), (2, .int (nB om))]) (st' := [.int 0]) (by rfl) ?_
              exact zJ hJ5 rfl (by first | with_reducible rfl | (simp only [h26, h27, lb_f, Int64.or_zero, Int32.add_zero, nB_t, nB_f, Bool.not_true, Bool.not_false, Bool.and_true, Bool.true_and, Bool.false_and, Bool.and_false, Bool.or_true, Bool.true_or, Bool.false_or, Bool.or_false, cond_true, cond_false]; done) | rfl) rfl
            · have h27 : (decide ((μ.1 50 41) = 1)) = true := decide_eq_true (cn_ne.mp h27)
              refine z_rcs0 hc hH 2 (pc' := 82) (lv' := [(4, .int 4), (3, .int (nB ((((!(decide (0 ≤ (μ.1 61 0)))) || (!(decide (0 ≤ (μ.1 61 1))))) || (!(decide (0 ≤ (μ.1 61 2))))) || (!(decide (0 ≤ (μ.1 61 3))))))), (0, .ref 50), (1, .int 0), (2, .int (nB om))]) (st' := [.int 1]) (by rfl) ?_
              exact zJ hJ5 rfl (by first | with_reducible rfl | (simp only [h26, h27, lb_f, Int64.or_zero, Int32.add_zero, nB_t, nB_f, Bool.not_true, Bool.not_false, Bool.and_true, Bool.true_and, Bool.false_and, Bool.and_false, Bool.or_true, Bool.true_or, Bool.false_or, Bool.or_false, cond_true, cond_false]; done) | rfl) rfl
        refine zq_if hc hH (by rfl) (tg := 45) (by rfl) (fun h28 => ?_) (fun h28 => ?_)
        · have h28 : (((!(decide (0 ≤ (μ.1 61 0)))) || (!(decide (0 ≤ (μ.1 61 1))))) || (!(decide (0 ≤ (μ.1 61 2))))) = true := nB_n.mp (cm_ne.mp h28)
          refine z_rcs0 hc hH 2 (pc' := 50) (lv' := [(4, .int 3), (3, .int (nB (((!(decide (0 ≤ (μ.1 61 0)))) || (!(decide (0 ≤ (μ.1 61 1))))) || (!(decide (0 ≤ (μ.1 61 2))))))), (0, .ref 50), (1, .int 0), (2, .int (nB om))]) (st' := [.int 1]) (by rfl) ?_
          exact zJ hJ4 rfl (by first | with_reducible rfl | (simp only [h28, lb_f, Int64.or_zero, Int32.add_zero, nB_t, nB_f, Bool.not_true, Bool.not_false, Bool.and_true, Bool.true_and, Bool.false_and, Bool.and_false, Bool.or_true, Bool.true_or, Bool.false_or, Bool.or_false, cond_true, cond_false]; done) | rfl) rfl
        · have h28 : (((!(decide (0 ≤ (μ.1 61 0)))) || (!(decide (0 ≤ (μ.1 61 1))))) || (!(decide (0 ≤ (μ.1 61 2))))) = false := nB_z.mp (cn_ne.mp h28)
          refine z_rcs0 hc hH 1 (pc' := 36) (lv' := [(4, .int 3), (3, .int (nB (((!(decide (0 ≤ (μ.1 61 0)))) || (!(decide (0 ≤ (μ.1 61 1))))) || (!(decide (0 ≤ (μ.1 61 2))))))), (0, .ref 50), (1, .int 0), (2, .int (nB om))]) (st' := [.ref 50]) (by rfl) ?_
          refine zq_gfr hc hH (by rfl) (ci := 6) (f := 29) (q := 61) (by rfl) (by decide +kernel) (by rfl) (by decide +kernel) ?_
          refine z_rcs0 hc hH 1 (pc' := 41) (lv' := [(4, .int 3), (3, .int (nB (((!(decide (0 ≤ (μ.1 61 0)))) || (!(decide (0 ≤ (μ.1 61 1))))) || (!(decide (0 ≤ (μ.1 61 2))))))), (0, .ref 50), (1, .int 0), (2, .int (nB om))]) (st' := [.int 3, .ref 61]) (by rfl) ?_
          refine zq_iald hc hH (by rfl) 4 (oka_i (by decide +kernel)) (show vp_in (nI 3) 4 from vp_in_nI (by decide) (by decide)) ?_
          rw [show (3 : Int32).toNatClampNeg = 3 from rfl]
          refine zV1 (Z := Z) (Eq.trans (ui_o (by first | decide | omega)) (Eq.trans (ui_o (by first | decide | omega)) (ui_o (by first | decide | omega)))) ?_
          refine zq_if hc hH (by rfl) (tg := 49) (by rfl) (fun h29 => ?_) (fun h29 => ?_)
          · have h29 : (decide (0 ≤ (μ.1 61 3))) = true := decide_eq_true (cm_ge.mp h29)
            refine z_rcs0 hc hH 1 (pc' := 50) (lv' := [(4, .int 3), (3, .int (nB (((!(decide (0 ≤ (μ.1 61 0)))) || (!(decide (0 ≤ (μ.1 61 1))))) || (!(decide (0 ≤ (μ.1 61 2))))))), (0, .ref 50), (1, .int 0), (2, .int (nB om))]) (st' := [.int 0]) (by rfl) ?_
            exact zJ hJ4 rfl (by first | with_reducible rfl | (simp only [h28, h29, lb_f, Int64.or_zero, Int32.add_zero, nB_t, nB_f, Bool.not_true, Bool.not_false, Bool.and_true, Bool.true_and, Bool.false_and, Bool.and_false, Bool.or_true, Bool.true_or, Bool.false_or, Bool.or_false, cond_true, cond_false]; done) | rfl) rfl
          · have h29 : (decide (0 ≤ (μ.1 61 3))) = false := decide_eq_false (cn_ge.mp h29)
            refine z_rcs0 hc hH 2 (pc' := 50) (lv' := [(4, .int 3), (3, .int (nB (((!(decide (0 ≤ (μ.1 61 0)))) || (!(decide (0 ≤ (μ.1 61 1))))) || (!(decide (0 ≤ (μ.1 61 2))))))), (0, .ref 50), (1, .int 0), (2, .int (nB om))]) (st' := [.int 1]) (by rfl) ?_
            exact zJ hJ4 rfl (by first | with_reducible rfl | (simp only [h28, h29, lb_f, Int64.or_zero, Int32.add_zero, nB_t, nB_f, Bool.not_true, Bool.not_false, Bool.and_true, Bool.true_and, Bool.false_and, Bool.and_false, Bool.or_true, Bool.true_or, Bool.false_or, Bool.or_false, cond_true, cond_false]; done) | rfl) rfl
      refine zq_if hc hH (by rfl) (tg := 45) (by rfl) (fun h30 => ?_) (fun h30 => ?_)
      · have h30 : ((!(decide (0 ≤ (μ.1 61 0)))) || (!(decide (0 ≤ (μ.1 61 1))))) = true := nB_n.mp (cm_ne.mp h30)
        refine z_rcs0 hc hH 2 (pc' := 50) (lv' := [(4, .int 2), (3, .int (nB ((!(decide (0 ≤ (μ.1 61 0)))) || (!(decide (0 ≤ (μ.1 61 1))))))), (0, .ref 50), (1, .int 0), (2, .int (nB om))]) (st' := [.int 1]) (by rfl) ?_
        exact zJ hJ3 rfl (by first | with_reducible rfl | (simp only [h30, lb_f, Int64.or_zero, Int32.add_zero, nB_t, nB_f, Bool.not_true, Bool.not_false, Bool.and_true, Bool.true_and, Bool.false_and, Bool.and_false, Bool.or_true, Bool.true_or, Bool.false_or, Bool.or_false, cond_true, cond_false]; done) | rfl) rfl
      · have h30 : ((!(decide (0 ≤ (μ.1 61 0)))) || (!(decide (0 ≤ (μ.1 61 1))))) = false := nB_z.mp (cn_ne.mp h30)
        refine z_rcs0 hc hH 1 (pc' := 36) (lv' := [(4, .int 2), (3, .int (nB ((!(decide (0 ≤ (μ.1 61 0)))) || (!(decide (0 ≤ (μ.1 61 1))))))), (0, .ref 50), (1, .int 0), (2, .int (nB om))]) (st' := [.ref 50]) (by rfl) ?_
        refine zq_gfr hc hH (by rfl) (ci := 6) (f := 29) (q := 61) (by rfl) (by decide +kernel) (by rfl) (by decide +kernel) ?_
        refine z_rcs0 hc hH 1 (pc' := 41) (lv' := [(4, .int 2), (3, .int (nB ((!(decide (0 ≤ (μ.1 61 0)))) || (!(decide (0 ≤ (μ.1 61 1))))))), (0, .ref 50), (1, .int 0), (2, .int (nB om))]) (st' := [.int 2, .ref 61]) (by rfl) ?_
        refine zq_iald hc hH (by rfl) 4 (oka_i (by decide +kernel)) (show vp_in (nI 2) 4 from vp_in_nI (by decide) (by decide)) ?_
        rw [show (2 : Int32).toNatClampNeg = 2 from rfl]
        refine zV1 (Z := Z) (Eq.trans (ui_o (by first | decide | omega)) (Eq.trans (ui_o (by first | decide | omega)) (ui_o (by first | decide | omega)))) ?_
        refine zq_if hc hH (by rfl) (tg := 49) (by rfl) (fun h31 => ?_) (fun h31 => ?_)
        · have h31 : (decide (0 ≤ (μ.1 61 2))) = true := decide_eq_true (cm_ge.mp h31)
          refine z_rcs0 hc hH 1 (pc' := 50) (lv' := [(4, .int 2), (3, .int (nB ((!(decide (0 ≤ (μ.1 61 0)))) || (!(decide (0 ≤ (μ.1 61 1))))))), (0, .ref 50), (1, .int 0), (2, .int (nB om))]) (st' := [.int 0]) (by rfl) ?_
          exact zJ hJ3 rfl (by first | with_reducible rfl | (simp only [h30, h31, lb_f, Int64.or_zero, Int32.add_zero, nB_t, nB_f, Bool.not_true, Bool.not_false, Bool.and_true, Bool.true_and, Bool.false_and, Bool.and_false, Bool.or_true, Bool.true_or, Bool.false_or, Bool.or_false, cond_true, cond_false]; done) | rfl) rfl
        · have h31 : (decide (0 ≤ (μ.1 61 2))) = false := decide_eq_false (cn_ge.mp h31)
          refine z_rcs0 hc hH 2 (pc' := 50) (lv' := [(4, .int 2), (3, .int (nB ((!(decide (0 ≤ (μ.1 61 0)))) || (!(decide (0 ≤ (μ.1 61 1))))))), (0, .ref 50), (1, .int 0), (2, .int (nB om))]) (st' := [.int 1]) (by rfl) ?_
          exact zJ hJ3 rfl (by first | with_reducible rfl | (simp only [h30, h31, lb_f, Int64.or_zero, Int32.add_zero, nB_t, nB_f, Bool.not_true, Bool.not_false, Bool.and_true, Bool.true_and, Bool.false_and, Bool.and_false, Bool.or_true, Bool.true_or, Bool.false_or, Bool.or_false, cond_true, cond_false]; done) | rfl) rfl
    refine zq_if hc hH (by rfl) (tg := 45) (by rfl) (fun h32 => ?_) (fun h32 => ?_)
    · have h32 : (!(decide (0 ≤ (μ.1 61 0)))) = true := nB_n.mp (cm_ne.mp h32)
      refine z_rcs0 hc hH 2 (pc' := 50) (lv' := [(4, .int 1), (3, .int (nB (!(decide (0 ≤ (μ.1 61 0)))))), (0, .ref 50), (1, .int 0), (2, .int (nB om))]) (st' := [.int 1]) (by rfl) ?_
      exact zJ hJ2 rfl (by first | with_reducible rfl | (simp only [h32, lb_f, Int64.or_zero, Int32.add_zero, nB_t, nB_f, Bool.not_true, Bool.not_false, Bool.and_true, Bool.true_and, Bool.false_and, Bool.and_false, Bool.or_true, Bool.true_or, Bool.false_or, Bool.or_false, cond_true, cond_false]; done) | rfl) rfl
    · have h32 : (!(decide (0 ≤ (μ.1 61 0)))) = false := nB_z.mp (cn_ne.mp h32)
      refine z_rcs0 hc hH 1 (pc' := 36) (lv' := [(4, .int 1), (3, .int (nB (!(decide (0 ≤ (μ.1 61 0)))))), (0, .ref 50), (1, .int 0), (2, .int (nB om))]) (st' := [.ref 50]) (by rfl) ?_
      refine zq_gfr hc hH (by rfl) (ci := 6) (f := 29) (q := 61) (by rfl) (by decide +kernel) (by rfl) (by decide +kernel) ?_
      refine z_rcs0 hc hH 1 (pc' := 41) (lv' := [(4, .int 1), (3, .int (nB (!(decide (0 ≤ (μ.1 61 0)))))), (0, .ref 50), (1, .int 0), (2, .int (nB om))]) (st' := [.int 1, .ref 61]) (by rfl) ?_
      refine zq_iald hc hH (by rfl) 4 (oka_i (by decide +kernel)) (show vp_in (nI 1) 4 from vp_in_nI (by decide) (by decide)) ?_
      rw [show (1 : Int32).toNatClampNeg = 1 from rfl]
      refine zV1 (Z := Z) (Eq.trans (ui_o (by first | decide | omega)) (Eq.trans (ui_o (by first | decide | omega)) (ui_o (by first | decide | omega)))) ?_
      refine zq_if hc hH (by rfl) (tg := 49) (by rfl) (fun h33 => ?_) (fun h33 => ?_)
      · have h33 : (decide (0 ≤ (μ.1 61 1))) = true := decide_eq_true (cm_ge.mp h33)
        refine z_rcs0 hc hH 1 (pc' := 50) (lv' := [(4, .int 1), (3, .int (nB (!(decide (0 ≤ (μ.1 61 0)))))), (0, .ref 50), (1, .int 0), (2, .int (nB om))]) (st' := [.int 0]) (by rfl) ?_
        exact zJ hJ2 rfl (by first | with_reducible rfl | (simp only [h32, h33, lb_f, Int64.or_zero, Int32.add_zero, nB_t, nB_f, Bool.not_true, Bool.not_false, Bool.and_true, Bool.true_and, Bool.false_and, Bool.and_false, Bool.or_true, Bool.true_or, Bool.false_or, Bool.or_false, cond_true, cond_false]; done) | rfl) rfl
      · have h33 : (decide (0 ≤ (μ.1 61 1))) = false := decide_eq_false (cn_ge.mp h33)
        refine z_rcs0 hc hH 2 (pc' := 50) (lv' := [(4, .int 1), (3, .int (nB (!(decide (0 ≤ (μ.1 61 0)))))), (0, .ref 50), (1, .int 0), (2, .int (nB om))]) (st' := [.int 1]) (by rfl) ?_
        exact zJ hJ2 rfl (by first | with_reducible rfl | (simp only [h32, h33, lb_f, Int64.or_zero, Int32.add_zero, nB_t, nB_f, Bool.not_true, Bool.not_false, Bool.and_true, Bool.true_and, Bool.false_and, Bool.and_false, Bool.or_true, Bool.true_or, Bool.false_or, Bool.or_false, cond_true, cond_false]; done) | rfl) rfl
  refine zq_if hc hH (by rfl) (tg := 49) (by rfl) (fun h34 => ?_) (fun h34 => ?_)
  · have h34 : (decide (0 ≤ (μ.1 61 0))) = true := decide_eq_true (cm_ge.mp h34)
    refine z_rcs0 hc hH 1 (pc' := 50) (lv' := [(4, .int 0), (3, .int 0), (0, .ref 50), (1, .int 0), (2, .int (nB om))]) (st' := [.int 0]) (by rfl) ?_
    exact zJ hJ1 rfl (by first | with_reducible rfl | (simp only [h34, lb_f, Int64.or_zero, Int32.add_zero, nB_t, nB_f, Bool.not_true, Bool.not_false, Bool.and_true, Bool.true_and, Bool.false_and, Bool.and_false, Bool.or_true, Bool.true_or, Bool.false_or, Bool.or_false, cond_true, cond_false]; done) | rfl) rfl
  · have h34 : (decide (0 ≤ (μ.1 61 0))) = false := decide_eq_false (cn_ge.mp h34)
    refine z_rcs0 hc hH 2 (pc' := 50) (lv' := [(4, .int 0), (3, .int 0), (0, .ref 50), (1, .int 0), (2, .int (nB om))]) (st' := [.int 1]) (by rfl) ?_
    exact zJ hJ1 rfl (by first | with_reducible rfl | (simp only [h34, lb_f, Int64.or_zero, Int32.add_zero, nB_t, nB_f, Bool.not_true, Bool.not_false, Bool.and_true, Bool.true_and, Bool.false_and, Bool.and_false, Bool.or_true, Bool.true_or, Bool.false_or, Bool.or_false, cond_true, cond_false]; done) | rfl) rfl
noncomputable def eM1 (μ : zM) (om : Bool) (dl e : Nat) : zM := (bif (((!(decide (0 ≤ (μ.1 61 0)))) || (!(decide (0 ≤ (μ.1 61 1))))) || (!(decide (0 ≤ (μ.1 61 2))))) || (!(decide (0 ≤ (μ.1 61 3)))) then (bif decide ((μ.1 61 1) ≤ (μ.1 61 0)) then (bif decide ((μ.1 61 2) ≤ (μ.1 61 0)) then (bif decide ((μ.1 61 3) ≤ (μ.1 61 0)) then z_ui (z_ui (z_ui (z_ui (z_ui (z_ui μ 50 44 0) 50 49 (-1)) 50 52 ((μ.1 50 52) + 1)) 50 54 1) 61 0 ((μ.1 61 0) + (1000 * (μ.1 50 43)))) 50 43 0 else z_ui (z_ui (z_ui (z_ui (z_ui (z_ui μ 50 44 0) 50 49 (-1)) 50 52 ((μ.1 50 52) + 1)) 50 54 1) 61 3 ((μ.1 61 3) + (1000 * (μ.1 50 43)))) 50 43 0) else (bif decide ((μ.1 61 3) ≤ (μ.1 61 2)) then z_ui (z_ui (z_ui (z_ui (z_ui (z_ui μ 50 44 0) 50 49 (-1)) 50 52 ((μ.1 50 52) + 1)) 50 54 1) 61 2 ((μ.1 61 2) + (1000 * (μ.1 50 43)))) 50 43 0 else z_ui (z_ui (z_ui (z_ui (z_ui (z_ui μ 50 44 0) 50 49 (-1)) 50 52 ((μ.1 50 52) + 1)) 50 54 1) 61 3 ((μ.1 61 3) + (1000 * (μ.1 50 43)))) 50 43 0)) else (bif decide ((μ.1 61 2) ≤ (μ.1 61 1)) then (bif decide ((μ.1 61 3) ≤ (μ.1 61 1)) then z_ui (z_ui (z_ui (z_ui (z_ui (z_ui μ 50 44 0) 50 49 (-1)) 50 52 ((μ.1 50 52) + 1)) 50 54 1) 61 1 ((μ.1 61 1) + (1000 * (μ.1 50 43)))) 50 43 0 else z_ui (z_ui (z_ui (z_ui (z_ui (z_ui μ 50 44 0) 50 49 (-1)) 50 52 ((μ.1 50 52) + 1)) 50 54 1) 61 3 ((μ.1 61 3) + (1000 * (μ.1 50 43)))) 50 43 0) else (bif decide ((μ.1 61 3) ≤ (μ.1 61 2)) then z_ui (z_ui (z_ui (z_ui (z_ui (z_ui μ 50 44 0) 50 49 (-1)) 50 52 ((μ.1 50 52) + 1)) 50 54 1) 61 2 ((μ.1 61 2) + (1000 * (μ.1 50 43)))) 50 43 0 else z_ui (z_ui (z_ui (z_ui (z_ui (z_ui μ 50 44 0) 50 49 (-1)) 50 52 ((μ.1 50 52) + 1)) 50 54 1) 61 3 ((μ.1 61 3) + (1000 * (μ.1 50 43)))) 50 43 0))) else z_ui (z_ui (z_ui (z_ui μ 50 44 0) 50 49 (-1)) 50 52 ((μ.1 50 52) + 1)) 50 42 (bif om then (μ.1 50 42) + 1 else 0))
theorem gm_ends1 (d : Nat) (hd : 1 ≤ d) (μ : zM) (om : Bool) (dl e : Nat) (hdl : μ.1 50 40 = nI dl) (hdl4 : dl < 4) (he : (dl + 1) % 4 = e) : z_C d mi_X7_ends [.ref 50, .int 1, .int (nB om)] μ (fun r μ' => r = none ∧ μ' = eM1 μ om dl e) := by
  refine z_C_in (by decide) (by omega) (fun d' Z ed hc hr => ?_)
  have hH : zH mi_X7_ends zt_X7_ends 79 7 7 := hh_X7_ends
  refine z_rcs hc hH 2 (pc' := 2) (lv' := [(0, .ref 50), (1, .int 1), (2, .int (nB om))]) (st' := [.int 0, .ref 50]) (μ' := μ) (by rfl) ?_
  refine zq_pfi hc hH (by rfl) (ci := 6) (f := 44) (by rfl) (by decide +kernel) (by rfl) ?_
  show Z 0 5 [(0, .ref 50), (1, .int 1), (2, .int (nB om))] [] (z_ui μ 50 44 0)
  refine z_rcs hc hH 2 (pc' := 7) (lv' := [(0, .ref 50), (1, .int 1), (2, .int (nB om))]) (st' := [.int (-1), .ref 50]) (μ' := z_ui μ 50 44 0) (by rfl) ?_
  refine zq_pfi hc hH (by rfl) (ci := 6) (f := 49) (by rfl) (by decide +kernel) (by rfl) ?_
  show Z 0 10 [(0, .ref 50), (1, .int 1), (2, .int (nB om))] [] (z_ui (z_ui μ 50 44 0) 50 49 (-1))
  refine z_rcs0 hc hH 2 (pc' := 12) (lv' := [(0, .ref 50), (1, .int 1), (2, .int (nB om))]) (st' := [.ref 50, .ref 50]) (by rfl) ?_
  refine zq_gfi hc hH (by rfl) (ci := 6) (f := 52) (by rfl) (by decide +kernel) (by rfl) ?_
  refine zV1 (Z := Z) (Eq.trans (ui_k (by first | decide | omega)) (ui_k (by first | decide | omega))) ?_
  refine z_rcs0 hc hH 2 (pc' := 17) (lv' := [(0, .ref 50), (1, .int 1), (2, .int (nB om))]) (st' := [.int ((μ.1 50 52) + 1), .ref 50]) (by rfl) ?_
  refine zq_pfi hc hH (by rfl) (ci := 6) (f := 52) (by rfl) (by decide +kernel) (by rfl) ?_
  show Z 0 20 [(0, .ref 50), (1, .int 1), (2, .int (nB om))] [] (z_ui (z_ui (z_ui μ 50 44 0) 50 49 (-1)) 50 52 ((μ.1 50 52) + 1))
  refine z_rcs0 hc hH 10 (pc' := 36) (lv' := [(4, .int 0), (3, .int 0), (0, .ref 50), (1, .int 1), (2, .int (nB om))]) (st' := [.ref 50]) (by rfl) ?_
  refine zq_gfr hc hH (by rfl) (ci := 6) (f := 29) (q := 61) (by rfl) (by decide +kernel) (by rfl) (by decide +kernel) ?_
  refine z_rcs0 hc hH 1 (pc' := 41) (lv' := [(4, .int 0), (3, .int 0), (0, .ref 50), (1, .int 1), (2, .int (nB om))]) (st' := [.int 0, .ref 61]) (by rfl) ?_
  refine zq_iald hc hH (by rfl) 4 (oka_i (by decide +kernel)) (show vp_in (nI 0) 4 from vp_in_nI (by decide) (by decide)) ?_
  rw [show (0 : Int32).toNatClampNeg = 0 from rfl]
  refine zV1 (Z := Z) (Eq.trans (ui_o (by first | decide | omega)) (Eq.trans (ui_o (by first | decide | omega)) (ui_o (by first | decide | omega)))) ?_
  have hJ1 : Z 0 50 [(4, .int 0), (3, .int 0), (0, .ref 50), (1, .int 1), (2, .int (nB om))] [.int (nB (!(decide (0 ≤ (μ.1 61 0)))))] (z_ui (z_ui (z_ui μ 50 44 0) 50 49 (-1)) 50 52 ((μ.1 50 52) + 1)) := by
    refine z_rcs0 hc hH 7 (pc' := 32) (lv' := [(4, .int 1), (3, .int (nB (!(decide (0 ≤ (μ.1 61 0)))))), (0, .ref 50), (1, .int 1), (2, .int (nB om))]) (st' := [.int (nB (!(decide (0 ≤ (μ.1 61 0)))))]) (by rfl) ?_
    have hJ2 : Z 0 50 [(4, .int 1), (3, .int (nB (!(decide (0 ≤ (μ.1 61 0)))))), (0, .ref 50), (1, .int 1), (2, .int (nB om))] [.int (nB ((!(decide (0 ≤ (μ.1 61 0)))) || (!(decide (0 ≤ (μ.1 61 1))))))] (z_ui (z_ui (z_ui μ 50 44 0) 50 49 (-1)) 50 52 ((μ.1 50 52) + 1)) := by
      refine z_rcs0 hc hH 7 (pc' := 32) (lv' := [(4, .int 2), (3, .int (nB ((!(decide (0 ≤ (μ.1 61 0)))) || (!(decide (0 ≤ (μ.1 61 1))))))), (0, .ref 50), (1, .int 1), (2, .int (nB om))]) (st' := [.int (nB ((!(decide (0 ≤ (μ.1 61 0)))) || (!(decide (0 ≤ (μ.1 61 1))))))]) (by rfl) ?_
      have hJ3 : Z 0 50 [(4, .int 2), (3, .int (nB ((!(decide (0 ≤ (μ.1 61 0)))) || (!(decide (0 ≤ (μ.1 61 1))))))), (0, .ref 50), (1, .int 1), (2, .int (nB om))] [.int (nB (((!(decide (0 ≤ (μ.1 61 0)))) || (!(decide (0 ≤ (μ.1 61 1))))) || (!(decide (0 ≤ (μ.1 61 2))))))] (z_ui (z_ui (z_ui μ 50 44 0) 50 49 (-1)) 50 52 ((μ.1 50 52) + 1)) := by
        refine z_rcs0 hc hH 7 (pc' := 32) (lv' := [(4, .int 3), (3, .int (nB (((!(decide (0 ≤ (μ.1 61 0)))) || (!(decide (0 ≤ (μ.1 61 1))))) || (!(decide (0 ≤ (μ.1 61 2))))))), (0, .ref 50), (1, .int 1), (2, .int (nB om))]) (st' := [.int (nB (((!(decide (0 ≤ (μ.1 61 0)))) || (!(decide (0 ≤ (μ.1 61 1))))) || (!(decide (0 ≤ (μ.1 61 2))))))]) (by rfl) ?_
        have hJ4 : Z 0 50 [(4, .int 3), (3, .int (nB (((!(decide (0 ≤ (μ.1 61 0)))) || (!(decide (0 ≤ (μ.1 61 1))))) || (!(decide (0 ≤ (μ.1 61 2))))))), (0, .ref 50), (1, .int 1), (2, .int (nB om))] [.int (nB ((((!(decide (0 ≤ (μ.1 61 0)))) || (!(decide (0 ≤ (μ.1 61 1))))) || (!(decide (0 ≤ (μ.1 61 2))))) || (!(decide (0 ≤ (μ.1 61 3))))))] (z_ui (z_ui (z_ui μ 50 44 0) 50 49 (-1)) 50 52 ((μ.1 50 52) + 1)) := by
          refine z_rcs0 hc hH 11 (pc' := 85) (lv' := [(4, .int 0), (3, .int (nB ((((!(decide (0 ≤ (μ.1 61 0)))) || (!(decide (0 ≤ (μ.1 61 1))))) || (!(decide (0 ≤ (μ.1 61 2))))) || (!(decide (0 ≤ (μ.1 61 3))))))), (0, .ref 50), (1, .int 1), (2, .int (nB om))]) (st' := [.int (nB ((((!(decide (0 ≤ (μ.1 61 0)))) || (!(decide (0 ≤ (μ.1 61 1))))) || (!(decide (0 ≤ (μ.1 61 2))))) || (!(decide (0 ≤ (μ.1 61 3))))))]) (by rfl) ?_
          refine zq_if hc hH (by rfl) (tg := 93) (by rfl) (fun h5 => ?_) (fun h5 => ?_)
          · have h5 : ((((!(decide (0 ≤ (μ.1 61 0)))) || (!(decide (0 ≤ (μ.1 61 1))))) || (!(decide (0 ≤ (μ.1 61 2))))) || (!(decide (0 ≤ (μ.1 61 3))))) = true := nB_n.mp (cm_ne.mp h5)
            refine z_rcs0 hc hH 2 (pc' := 95) (lv' := [(4, .int 0), (3, .int (nB ((((!(decide (0 ≤ (μ.1 61 0)))) || (!(decide (0 ≤ (μ.1 61 1))))) || (!(decide (0 ≤ (μ.1 61 2))))) || (!(decide (0 ≤ (μ.1 61 3))))))), (0, .ref 50), (1, .int 1), (2, .int (nB om))]) (st' := [.int 1, .ref 50]) (by rfl) ?_
            refine zq_pfb hc hH (by rfl) (ci := 6) (f := 54) (by rfl) (by decide +kernel) (by rfl) (by decide) ?_
            show Z 0 98 [(4, .int 0), (3, .int (nB ((((!(decide (0 ≤ (μ.1 61 0)))) || (!(decide (0 ≤ (μ.1 61 1))))) || (!(decide (0 ≤ (μ.1 61 2))))) || (!(decide (0 ≤ (μ.1 61 3))))))), (0, .ref 50), (1, .int 1), (2, .int (nB om))] [] (z_ui (z_ui (z_ui (z_ui μ 50 44 0) 50 49 (-1)) 50 52 ((μ.1 50 52) + 1)) 50 54 1)
            refine z_rcs0 hc hH 8 (pc' := 111) (lv' := [(6, .int 1), (5, .int 0), (4, .int 0), (3, .int (nB ((((!(decide (0 ≤ (μ.1 61 0)))) || (!(decide (0 ≤ (μ.1 61 1))))) || (!(decide (0 ≤ (μ.1 61 2))))) || (!(decide (0 ≤ (μ.1 61 3))))))), (0, .ref 50), (1, .int 1), (2, .int (nB om))]) (st' := [.ref 50]) (by rfl) ?_
            refine zq_gfr hc hH (by rfl) (ci := 6) (f := 29) (q := 61) (by rfl) (by decide +kernel) (by rfl) (by decide +kernel) ?_
            refine z_rcs0 hc hH 1 (pc' := 116) (lv' := [(6, .int 1), (5, .int 0), (4, .int 0), (3, .int (nB ((((!(decide (0 ≤ (μ.1 61 0)))) || (!(decide (0 ≤ (μ.1 61 1))))) || (!(decide (0 ≤ (μ.1 61 2))))) || (!(decide (0 ≤ (μ.1 61 3))))))), (0, .ref 50), (1, .int 1), (2, .int (nB om))]) (st' := [.int 1, .ref 61]) (by rfl) ?_
            refine zq_iald hc hH (by rfl) 4 (oka_i (by decide +kernel)) (show vp_in (nI 1) 4 from vp_in_nI (by decide) (by decide)) ?_
            rw [show (1 : Int32).toNatClampNeg = 1 from rfl]
            refine zV1 (Z := Z) (Eq.trans (ui_o (by first | decide | omega)) (Eq.trans (ui_o (by first | decide | omega)) (Eq.trans (ui_o (by first | decide | omega)) (ui_o (by first | decide | omega))))) ?_
            refine z_rcs0 hc hH 1 (pc' := 118) (lv' := [(6, .int 1), (5, .int 0), (4, .int 0), (3, .int (nB ((((!(decide (0 ≤ (μ.1 61 0)))) || (!(decide (0 ≤ (μ.1 61 1))))) || (!(decide (0 ≤ (μ.1 61 2))))) || (!(decide (0 ≤ (μ.1 61 3))))))), (0, .ref 50), (1, .int 1), (2, .int (nB om))]) (st' := [.ref 50, .int (μ.1 61 1)]) (by rfl) ?_
            refine zq_gfr hc hH (by rfl) (ci := 6) (f := 29) (q := 61) (by rfl) (by decide +kernel) (by rfl) (by decide +kernel) ?_
            refine z_rcs0 hc hH 1 (pc' := 123) (lv' := [(6, .int 1), (5, .int 0), (4, .int 0), (3, .int (nB ((((!(decide (0 ≤ (μ.1 61 0)))) || (!(decide (0 ≤ (μ.1 61 1))))) || (!(decide (0 ≤ (μ.1 61 2))))) || (!(decide (0 ≤ (μ.1 61 3))))))), (0, .ref 50), (1, .int 1), (2, .int (nB om))]) (st' := [.int 0, .ref 61, .int (μ.1 61 1)]) (by rfl) ?_
            refine zq_iald hc hH (by rfl) 4 (oka_i (by decide +kernel)) (show vp_in (nI 0) 4 from vp_in_nI (by decide) (by decide)) ?_
            rw [show (0 : Int32).toNatClampNeg = 0 from rfl]
            refine zV1 (Z := Z) (Eq.trans (ui_o (by first | decide | omega)) (Eq.trans (ui_o (by first | decide | omega)) (Eq.trans (ui_o (by first | decide | omega)) (ui_o (by first | decide | omega))))) ?_
            refine zq_ic hc hH (by rfl) (tg := 132) (by rfl) (fun h6 => ?_) (fun h6 => ?_)
            · have h6 : (decide ((μ.1 61 1) ≤ (μ.1 61 0))) = true := decide_eq_true (cm_le.mp h6)
              refine z_rcs0 hc hH 8 (pc' := 111) (lv' := [(6, .int 2), (5, .int 0), (4, .int 0), (3, .int (nB ((((!(decide (0 ≤ (μ.1 61 0)))) || (!(decide (0 ≤ (μ.1 61 1))))) || (!(decide (0 ≤ (μ.1 61 2))))) || (!(decide (0 ≤ (μ.1 61 3))))))), (0, .ref 50), (1, .int 1), (2, .int (nB om))]) (st' := [.ref 50]) (by rfl) ?_
              refine zq_gfr hc hH (by rfl) (ci := 6) (f := 29) (q := 61) (by rfl) (by decide +kernel) (by rfl) (by decide +kernel) ?_
              refine z_rcs0 hc hH 1 (pc' := 116) (lv' := [(6, .int 2), (5, .int 0), (4, .int 0), (3, .int (nB ((((!(decide (0 ≤ (μ.1 61 0)))) || (!(decide (0 ≤ (μ.1 61 1))))) || (!(decide (0 ≤ (μ.1 61 2))))) || (!(decide (0 ≤ (μ.1 61 3))))))), (0, .ref 50), (1, .int 1), (2, .int (nB om))]) (st' := [.int 2, .ref 61]) (by rfl) ?_
              refine zq_iald hc hH (by rfl) 4 (oka_i (by decide +kernel)) (show vp_in (nI 2) 4 from vp_in_nI (by decide) (by decide)) ?_
              rw [show (2 : Int32).toNatClampNeg = 2 from rfl]
              refine zV1 (Z := Z) (Eq.trans (ui_o (by first | decide | omega)) (Eq.trans (ui_o (by first | decide | omega)) (Eq.trans (ui_o (by first | decide | omega)) (ui_o (by first | decide | omega))))) ?_
              refine z_rcs0 hc hH 1 (pc' := 118) (lv' := [(6, .int 2), (5, .int 0), (4, .int 0), (3, .int (nB ((((!(decide (0 ≤ (μ.1 61 0)))) || (!(decide (0 ≤ (μ.1 61 1))))) || (!(decide (0 ≤ (μ.1 61 2))))) || (!(decide (0 ≤ (μ.1 61 3))))))), (0, .ref 50), (1, .int 1), (2, .int (nB om))]) (st' := [.ref 50, .int (μ.1 61 2)]) (by rfl) ?_
              refine zq_gfr hc hH (by rfl) (ci := 6) (f := 29) (q := 61) (by rfl) (by decide +kernel) (by rfl) (by decide +kernel) ?_
              refine z_rcs0 hc hH 1 (pc' := 123) (lv' := [(6, .int 2), (5, .int 0), (4, .int 0), (3, .int (nB ((((!(decide (0 ≤ (μ.1 61 0)))) || (!(decide (0 ≤ (μ.1 61 1))))) || (!(decide (0 ≤ (μ.1 61 2))))) || (!(decide (0 ≤ (μ.1 61 3))))))), (0, .ref 50), (1, .int 1), (2, .int (nB om))]) (st' := [.int 0, .ref 61, .int (μ.1 61 2)]) (by rfl) ?_
              refine zq_iald hc hH (by rfl) 4 (oka_i (by decide +kernel)) (show vp_in (nI 0) 4 from vp_in_nI (by decide) (by decide)) ?_
              rw [show (0 : Int32).toNatClampNeg = 0 from rfl]
              refine zV1 (Z := Z) (Eq.trans (ui_o (by first | decide | omega)) (Eq.trans (ui_o (by first | decide | omega)) (Eq.trans (ui_o (by first | decide | omega)) (ui_o (by first | decide | omega))))) ?_
              refine zq_ic hc hH (by rfl) (tg := 132) (by rfl) (fun h7 => ?_) (fun h7 => ?_)
              · have h7 : (decide ((μ.1 61 2) ≤ (μ.1 61 0))) = true := decide_eq_true (cm_le.mp h7)
                refine z_rcs0 hc hH 8 (pc' := 111) (lv' := [(6, .int 3), (5, .int 0), (4, .int 0), (3, .int (nB ((((!(decide (0 ≤ (μ.1 61 0)))) || (!(decide (0 ≤ (μ.1 61 1))))) || (!(decide (0 ≤ (μ.1 61 2))))) || (!(decide (0 ≤ (μ.1 61 3))))))), (0, .ref 50), (1, .int 1), (2, .int (nB om))]) (st' := [.ref 50]) (by rfl) ?_
                refine zq_gfr hc hH (by rfl) (ci := 6) (f := 29) (q := 61) (by rfl) (by decide +kernel) (by rfl) (by decide +kernel) ?_
                refine z_rcs0 hc hH 1 (pc' := 116) (lv' := [(6, .int 3), (5, .int 0), (4, .int 0), (3, .int (nB ((((!(decide (0 ≤ (μ.1 61 0)))) || (!(decide (0 ≤ (μ.1 61 1))))) || (!(decide (0 ≤ (μ.1 61 2))))) || (!(decide (0 ≤ (μ.1 61 3))))))), (0, .ref 50), (1, .int 1), (2, .int (nB om))]) (st' := [.int 3, .ref 61]) (by rfl) ?_
                refine zq_iald hc hH (by rfl) 4 (oka_i (by decide +kernel)) (show vp_in (nI 3) 4 from vp_in_nI (by decide) (by decide)) ?_
                rw [show (3 : Int32).toNatClampNeg = 3 from rfl]
                refine zV1 (Z := Z) (Eq.trans (ui_o (by first | decide | omega)) (Eq.trans (ui_o (by first | decide | omega)) (Eq.trans (ui_o (by first | decide | omega)) (ui_o (by first | decide | omega))))) ?_
                refine z_rcs0 hc hH 1 (pc' := 118) (lv' := [(6, .int 3), (5, .int 0), (4, .int 0), (3, .int (nB ((((!(decide (0 ≤ (μ.1 61 0)))) || (!(decide (0 ≤ (μ.1 61 1))))) || (!(decide (0 ≤ (μ.1 61 2))))) || (!(decide (0 ≤ (μ.1 61 3))))))), (0, .ref 50), (1, .int 1), (2, .int (nB om))]) (st' := [.ref 50, .int (μ.1 61 3)]) (by rfl) ?_
                refine zq_gfr hc hH (by rfl) (ci := 6) (f := 29) (q := 61) (by rfl) (by decide +kernel) (by rfl) (by decide +kernel) ?_
                refine z_rcs0 hc hH 1 (pc' := 123) (lv' := [(6, .int 3), (5, .int 0), (4, .int 0), (3, .int (nB ((((!(decide (0 ≤ (μ.1 61 0)))) || (!(decide (0 ≤ (μ.1 61 1))))) || (!(decide (0 ≤ (μ.1 61 2))))) || (!(decide (0 ≤ (μ.1 61 3))))))), (0, .ref 50), (1, .int 1), (2, .int (nB om))]) (st' := [.int 0, .ref 61, .int (μ.1 61 3)]) (by rfl) ?_
                refine zq_iald hc hH (by rfl) 4 (oka_i (by decide +kernel)) (show vp_in (nI 0) 4 from vp_in_nI (by decide) (by decide)) ?_
                rw [show (0 : Int32).toNatClampNeg = 0 from rfl]
                refine zV1 (Z := Z) (Eq.trans (ui_o (by first | decide | omega)) (Eq.trans (ui_o (by first | decide | omega)) (Eq.trans (ui_o (by first | decide | omega)) (ui_o (by first | decide | omega))))) ?_
                refine zq_ic hc hH (by rfl) (tg := 132) (by rfl) (fun h8 => ?_) (fun h8 => ?_)
                · have h8 : (decide ((μ.1 61 3) ≤ (μ.1 61 0))) = true := decide_eq_true (cm_le.mp h8)
                  refine z_rcs0 hc hH 8 (pc' := 143) (lv' := [(6, .int 4), (5, .int 0), (4, .int 0), (3, .int (nB ((((!(decide (0 ≤ (μ.1 61 0)))) || (!(decide (0 ≤ (μ.1 61 1))))) || (!(decide (0 ≤ (μ.1 61 2))))) || (!(decide (0 ≤ (μ.1 61 3))))))), (0, .ref 50), (1, .int 1), (2, .int (nB om))]) (st' := [.ref 50]) (by rfl) ?_
                  refine zq_gfr hc hH (by rfl) (ci := 6) (f := 29) (q := 61) (by rfl) (by decide +kernel) (by rfl) (by decide +kernel) ?_
                  refine z_rcs0 hc hH 2 (pc' := 149) (lv' := [(6, .int 4), (5, .int 0), (4, .int 0), (3, .int (nB ((((!(decide (0 ≤ (μ.1 61 0)))) || (!(decide (0 ≤ (μ.1 61 1))))) || (!(decide (0 ≤ (μ.1 61 2))))) || (!(decide (0 ≤ (μ.1 61 3))))))), (0, .ref 50), (1, .int 1), (2, .int (nB om))]) (st' := [.int 0, .ref 61, .int 0, .ref 61]) (by rfl) ?_
                  refine zq_iald hc hH (by rfl) 4 (oka_i (by decide +kernel)) (show vp_in (nI 0) 4 from vp_in_nI (by decide) (by decide)) ?_
                  rw [show (0 : Int32).toNatClampNeg = 0 from rfl]
                  refine zV1 (Z := Z) (Eq.trans (ui_o (by first | decide | omega)) (Eq.trans (ui_o (by first | decide | omega)) (Eq.trans (ui_o (by first | decide | omega)) (ui_o (by first | decide | omega))))) ?_
                  refine z_rcs0 hc hH 2 (pc' := 154) (lv' := [(6, .int 4), (5, .int 0), (4, .int 0), (3, .int (nB ((((!(decide (0 ≤ (μ.1 61 0)))) || (!(decide (0 ≤ (μ.1 61 1))))) || (!(decide (0 ≤ (μ.1 61 2))))) || (!(decide (0 ≤ (μ.1 61 3))))))), (0, .ref 50), (1, .int 1), (2, .int (nB om))]) (st' := [.ref 50, .int 1000, .int (μ.1 61 0), .int 0, .ref 61]) (by rfl) ?_
                  refine zq_gfi hc hH (by rfl) (ci := 6) (f := 43) (by rfl) (by decide +kernel) (by rfl) ?_
                  refine zV1 (Z := Z) (Eq.trans (ui_k (by first | decide | omega)) (Eq.trans (ui_k (by first | decide | omega)) (Eq.trans (ui_k (by first | decide | omega)) (ui_k (by first | decide | omega))))) ?_
                  refine z_rcs0 hc hH 2 (pc' := 159) (lv' := [(6, .int 4), (5, .int 0), (4, .int 0), (3, .int (nB ((((!(decide (0 ≤ (μ.1 61 0)))) || (!(decide (0 ≤ (μ.1 61 1))))) || (!(decide (0 ≤ (μ.1 61 2))))) || (!(decide (0 ≤ (μ.1 61 3))))))), (0, .ref 50), (1, .int 1), (2, .int (nB om))]) (st' := [.int ((μ.1 61 0) + (1000 * (μ.1 50 43))), .int 0, .ref 61]) (by rfl) ?_
                  refine zq_iast hc hH (by rfl) 4 (oka_i (by decide +kernel)).2 (show vp_in (nI 0) 4 from vp_in_nI (by decide) (by decide)) ?_
                  rw [show (0 : Int32).toNatClampNeg = 0 from rfl]
                  show Z 0 160 [(6, .int 4), (5, .int 0), (4, .int 0), (3, .int (nB ((((!(decide (0 ≤ (μ.1 61 0)))) || (!(decide (0 ≤ (μ.1 61 1))))) || (!(decide (0 ≤ (μ.1 61 2))))) || (!(decide (0 ≤ (μ.1 61 3))))))), (0, .ref 50), (1, .int 1), (2, .int (nB om))] [] (z_ui (z_ui (z_ui (z_ui (z_ui μ 50 44 0) 50 49 (-1)) 50 52 ((μ.1 50 52) + 1)) 50 54 1) 61 0 ((μ.1 61 0) + (1000 * (μ.1 50 43))))
                  refine z_rcs0 hc hH 2 (pc' := 162) (lv' := [(6, .int 4), (5, .int 0), (4, .int 0), (3, .int (nB ((((!(decide (0 ≤ (μ.1 61 0)))) || (!(decide (0 ≤ (μ.1 61 1))))) || (!(decide (0 ≤ (μ.1 61 2))))) || (!(decide (0 ≤ (μ.1 61 3))))))), (0, .ref 50), (1, .int 1), (2, .int (nB om))]) (st' := [.int 0, .ref 50]) (by rfl) ?_
                  refine zq_pfi hc hH (by rfl) (ci := 6) (f := 43) (by rfl) (by decide +kernel) (by rfl) ?_
                  show Z 0 165 [(6, .int 4), (5, .int 0), (4, .int 0), (3, .int (nB ((((!(decide (0 ≤ (μ.1 61 0)))) || (!(decide (0 ≤ (μ.1 61 1))))) || (!(decide (0 ≤ (μ.1 61 2))))) || (!(decide (0 ≤ (μ.1 61 3))))))), (0, .ref 50), (1, .int 1), (2, .int (nB om))] [] (z_ui (z_ui (z_ui (z_ui (z_ui (z_ui μ 50 44 0) 50 49 (-1)) 50 52 ((μ.1 50 52) + 1)) 50 54 1) 61 0 ((μ.1 61 0) + (1000 * (μ.1 50 43)))) 50 43 0)
                  exact hr 0 165 _ _ _ none (by decide +kernel) (by rfl) (⟨rfl, (by unfold eM1; simp only [h5, h6, h7, h8, cond_true, cond_false])⟩)
                · have h8 : (decide ((μ.1 61 3) ≤ (μ.1 61 0))) = false := decide_eq_false (cn_le.mp h8)
                  refine z_rcs hc hH 9 (pc' := 143) (lv' := [(6, .int 4), (5, .int 3), (4, .int 0), (3, .int (nB ((((!(decide (0 ≤ (μ.1 61 0)))) || (!(decide (0 ≤ (μ.1 61 1))))) || (!(decide (0 ≤ (μ.1 61 2))))) || (!(decide (0 ≤ (μ.1 61 3))))))), (0, .ref 50), (1, .int 1), (2, .int (nB om))]) (st' := [.ref 50]) (μ' := z_ui (z_ui (z_ui (z_ui μ 50 44 0) 50 49 (-1)) 50 52 ((μ.1 50 52) + 1)) 50 54 1) (by rfl) ?_
                  refine zq_gfr hc hH (by rfl) (ci := 6) (f := 29) (q := 61) (by rfl) (by decide +kernel) (by rfl) (by decide +kernel) ?_
                  refine z_rcs0 hc hH 2 (pc' := 149) (lv' := [(6, .int 4), (5, .int 3), (4, .int 0), (3, .int (nB ((((!(decide (0 ≤ (μ.1 61 0)))) || (!(decide (0 ≤ (μ.1 61 1))))) || (!(decide (0 ≤ (μ.1 61 2))))) || (!(decide (0 ≤ (μ.1 61 3))))))), (0, .ref 50), (1, .int 1), (2, .int (nB om))]) (st' := [.int 3, .ref 61, .int 3, .ref 61]) (by rfl) ?_
                  refine zq_iald hc hH (by rfl) 4 (oka_i (by decide +kernel)) (show vp_in (nI 3) 4 from vp_in_nI (by decide) (by decide)) ?_
                  rw [show (3 : Int32).toNatClampNeg = 3 from rfl]
                  refine zV1 (Z := Z) (Eq.trans (ui_o (by first | decide | omega)) (Eq.trans (ui_o (by first | decide | omega)) (Eq.trans (ui_o (by first | decide | omega)) (ui_o (by first | decide | omega))))) ?_
                  refine z_rcs0 hc hH 2 (pc' := 154) (lv' := [(6, .int 4), (5, .int 3), (4, .int 0), (3, .int (nB ((((!(decide (0 ≤ (μ.1 61 0)))) || (!(decide (0 ≤ (μ.1 61 1))))) || (!(decide (0 ≤ (μ.1 61 2))))) || (!(decide (0 ≤ (μ.1 61 3))))))), (0, .ref 50), (1, .int 1), (2, .int (nB om))]) (st' := [.ref 50, .int 1000, .int (μ.1 61 3), .int 3, .ref 61]) (by rfl) ?_
                  refine zq_gfi hc hH (by rfl) (ci := 6) (f := 43) (by rfl) (by decide +kernel) (by rfl) ?_
                  refine zV1 (Z := Z) (Eq.trans (ui_k (by first | decide | omega)) (Eq.trans (ui_k (by first | decide | omega)) (Eq.trans (ui_k (by first | decide | omega)) (ui_k (by first | decide | omega))))) ?_
                  refine z_rcs0 hc hH 2 (pc' := 159) (lv' := [(6, .int 4), (5, .int 3), (4, .int 0), (3, .int (nB ((((!(decide (0 ≤ (μ.1 61 0)))) || (!(decide (0 ≤ (μ.1 61 1))))) || (!(decide (0 ≤ (μ.1 61 2))))) || (!(decide (0 ≤ (μ.1 61 3))))))), (0, .ref 50), (1, .int 1), (2, .int (nB om))]) (st' := [.int ((μ.1 61 3) + (1000 * (μ.1 50 43))), .int 3, .ref 61]) (by rfl) ?_
                  refine zq_iast hc hH (by rfl) 4 (oka_i (by decide +kernel)).2 (show vp_in (nI 3) 4 from vp_in_nI (by decide) (by decide)) ?_
                  rw [show (3 : Int32).toNatClampNeg = 3 from rfl]
                  show Z 0 160 [(6, .int 4), (5, .int 3), (4, .int 0), (3, .int (nB ((((!(decide (0 ≤ (μ.1 61 0)))) || (!(decide (0 ≤ (μ.1 61 1))))) || (!(decide (0 ≤ (μ.1 61 2))))) || (!(decide (0 ≤ (μ.1 61 3))))))), (0, .ref 50), (1, .int 1), (2, .int (nB om))] [] (z_ui (z_ui (z_ui (z_ui (z_ui μ 50 44 0) 50 49 (-1)) 50 52 ((μ.1 50 52) + 1)) 50 54 1) 61 3 ((μ.1 61 3) + (1000 * (μ.1 50 43))))
                  refine z_rcs0 hc hH 2 (pc' := 162) (lv' := [(6, .int 4), (5, .int 3), (4, .int 0), (3, .int (nB ((((!(decide (0 ≤ (μ.1 61 0)))) || (!(decide (0 ≤ (μ.1 61 1))))) || (!(decide (0 ≤ (μ.1 61 2))))) || (!(decide (0 ≤ (μ.1 61 3))))))), (0, .ref 50), (1, .int 1), (2, .int (nB om))]) (st' := [.int 0, .ref 50]) (by rfl) ?_
                  refine zq_pfi hc hH (by rfl) (ci := 6) (f := 43) (by rfl) (by decide +kernel) (by rfl) ?_
                  show Z 0 165 [(6, .int 4), (5, .int 3), (4, .int 0), (3, .int (nB ((((!(decide (0 ≤ (μ.1 61 0)))) || (!(decide (0 ≤ (μ.1 61 1))))) || (!(decide (0 ≤ (μ.1 61 2))))) || (!(decide (0 ≤ (μ.1 61 3))))))), (0, .ref 50), (1, .int 1), (2, .int (nB om))] [] (z_ui (z_ui (z_ui (z_ui (z_ui (z_ui μ 50 44 0) 50 49 (-1)) 50 52 ((μ.1 50 52) + 1)) 50 54 1) 61 3 ((μ.1 61 3) + (1000 * (μ.1 50 43)))) 50 43 0)
                  exact hr 0 165 _ _ _ none (by decide +kernel) (by rfl) (⟨rfl, (by unfold eM1; simp only [h5, h6, h7, h8, cond_true, cond_false])⟩)
              · have h7 : (decide ((μ.1 61 2) ≤ (μ.1 61 0))) = false := decide_eq_false (cn_le.mp h7)
                refine z_rcs hc hH 9 (pc' := 111) (lv' := [(6, .int 3), (5, .int 2), (4, .int 0), (3, .int (nB ((((!(decide (0 ≤ (μ.1 61 0)))) || (!(decide (0 ≤ (μ.1 61 1))))) || (!(decide (0 ≤ (μ.1 61 2))))) || (!(decide (0 ≤ (μ.1 61 3))))))), (0, .ref 50), (1, .int 1), (2, .int (nB om))]) (st' := [.ref 50]) (μ' := z_ui (z_ui (z_ui (z_ui μ 50 44 0) 50 49 (-1)) 50 52 ((μ.1 50 52) + 1)) 50 54 1) (by rfl) ?_
                refine zq_gfr hc hH (by rfl) (ci := 6) (f := 29) (q := 61) (by rfl) (by decide +kernel) (by rfl) (by decide +kernel) ?_
                refine z_rcs0 hc hH 1 (pc' := 116) (lv' := [(6, .int 3), (5, .int 2), (4, .int 0), (3, .int (nB ((((!(decide (0 ≤ (μ.1 61 0)))) || (!(decide (0 ≤ (μ.1 61 1))))) || (!(decide (0 ≤ (μ.1 61 2))))) || (!(decide (0 ≤ (μ.1 61 3))))))), (0, .ref 50), (1, .int 1), (2, .int (nB om))]) (st' := [.int 3, .ref 61]) (by rfl) ?_
                refine zq_iald hc hH (by rfl) 4 (oka_i (by decide +kernel)) (show vp_in (nI 3) 4 from vp_in_nI (by decide) (by decide)) ?_
                rw [show (3 : Int32).toNatClampNeg = 3 from rfl]
                refine zV1 (Z := Z) (Eq.trans (ui_o (by first | decide | omega)) (Eq.trans (ui_o (by first | decide | omega)) (Eq.trans (ui_o (by first | decide | omega)) (ui_o (by first | decide | omega))))) ?_
                refine z_rcs0 hc hH 1 (pc' := 118) (lv' := [(6, .int 3), (5, .int 2), (4, .int 0), (3, .int (nB ((((!(decide (0 ≤ (μ.1 61 0)))) || (!(decide (0 ≤ (μ.1 61 1))))) || (!(decide (0 ≤ (μ.1 61 2))))) || (!(decide (0 ≤ (μ.1 61 3))))))), (0, .ref 50), (1, .int 1), (2, .int (nB om))]) (st' := [.ref 50, .int (μ.1 61 3)]) (by rfl) ?_
                refine zq_gfr hc hH (by rfl) (ci := 6) (f := 29) (q := 61) (by rfl) (by decide +kernel) (by rfl) (by decide +kernel) ?_
                refine z_rcs0 hc hH 1 (pc' := 123) (lv' := [(6, .int 3), (5, .int 2), (4, .int 0), (3, .int (nB ((((!(decide (0 ≤ (μ.1 61 0)))) || (!(decide (0 ≤ (μ.1 61 1))))) || (!(decide (0 ≤ (μ.1 61 2))))) || (!(decide (0 ≤ (μ.1 61 3))))))), (0, .ref 50), (1, .int 1), (2, .int (nB om))]) (st' := [.int 2, .ref 61, .int (μ.1 61 3)]) (by rfl) ?_
                refine zq_iald hc hH (by rfl) 4 (oka_i (by decide +kernel)) (show vp_in (nI 2) 4 from vp_in_nI (by decide) (by decide)) ?_
                rw [show (2 : Int32).toNatClampNeg = 2 from rfl]
                refine zV1 (Z := Z) (Eq.trans (ui_o (by first | decide | omega)) (Eq.trans (ui_o (by first | decide | omega)) (Eq.trans (ui_o (by first | decide | omega)) (ui_o (by first | decide | omega))))) ?_
                refine zq_ic hc hH (by rfl) (tg := 132) (by rfl) (fun h9 => ?_) (fun h9 => ?_)
                · have h9 : (decide ((μ.1 61 3) ≤ (μ.1 61 2))) = true := decide_eq_true (cm_le.mp h9)
                  refine z_rcs0 hc hH 8 (pc' := 143) (lv' := [(6, .int 4), (5, .int 2), (4, .int 0), (3, .int (nB ((((!(decide (0 ≤ (μ.1 61 0)))) || (!(decide (0 ≤ (μ.1 61 1))))) || (!(decide (0 ≤ (μ.1 61 2))))) || (!(decide (0 ≤ (μ.1 61 3))))))), (0, .ref 50), (1, .int 1), (2, .int (nB om))]) (st' := [.ref 50]) (by rfl) ?_
                  refine zq_gfr hc hH (by rfl) (ci := 6) (f := 29) (q := 61) (by rfl) (by decide +kernel) (by rfl) (by decide +kernel) ?_
                  refine z_rcs0 hc hH 2 (pc' := 149) (lv' := [(6, .int 4), (5, .int 2), (4, .int 0), (3, .int (nB ((((!(decide (0 ≤ (μ.1 61 0)))) || (!(decide (0 ≤ (μ.1 61 1))))) || (!(decide (0 ≤ (μ.1 61 2))))) || (!(decide (0 ≤ (μ.1 61 3))))))), (0, .ref 50), (1, .int 1), (2, .int (nB om))]) (st' := [.int 2, .ref 61, .int 2, .ref 61]) (by rfl) ?_
                  refine zq_iald hc hH (by rfl) 4 (oka_i (by decide +kernel)) (show vp_in (nI 2) 4 from vp_in_nI (by decide) (by decide)) ?_
                  rw [show (2 : Int32).toNatClampNeg = 2 from rfl]
                  refine zV1 (Z := Z) (Eq.trans (ui_o (by first | decide | omega)) (Eq.trans (ui_o (by first | decide | omega)) (Eq.trans (ui_o (by first | decide | omega)) (ui_o (by first | decide | omega))))) ?_
                  refine z_rcs0 hc hH 2 (pc' := 154) (lv' := [(6, .int 4), (5, .int 2), (4, .int 0), (3, .int (nB ((((!(decide (0 ≤ (μ.1 61 0)))) || (!(decide (0 ≤ (μ.1 61 1))))) || (!(decide (0 ≤ (μ.1 61 2))))) || (!(decide (0 ≤ (μ.1 61 3))))))), (0, .ref 50), (1, .int 1), (2, .int (nB om))]) (st' := [.ref 50, .int 1000, .int (μ.1 61 2), .int 2, .ref 61]) (by rfl) ?_
                  refine zq_gfi hc hH (by rfl) (ci := 6) (f := 43) (by rfl) (by decide +kernel) (by rfl) ?_
                  refine zV1 (Z := Z) (Eq.trans (ui_k (by first | decide | omega)) (Eq.trans (ui_k (by first | decide | omega)) (Eq.trans (ui_k (by first | decide | omega)) (ui_k (by first | decide | omega))))) ?_
                  refine z_rcs0 hc hH 2 (pc' := 159) (lv' := [(6, .int 4), (5, .int 2), (4, .int 0), (3, .int (nB ((((!(decide (0 ≤ (μ.1 61 0)))) || (!(decide (0 ≤ (μ.1 61 1))))) || (!(decide (0 ≤ (μ.1 61 2))))) || (!(decide (0 ≤ (μ.1 61 3))))))), (0, .ref 50), (1, .int 1), (2, .int (nB om))]) (st' := [.int ((μ.1 61 2) + (1000 * (μ.1 50 43))), .int 2, .ref 61]) (by rfl) ?_
                  refine zq_iast hc hH (by rfl) 4 (oka_i (by decide +kernel)).2 (show vp_in (nI 2) 4 from vp_in_nI (by decide) (by decide)) ?_
                  rw [show (2 : Int32).toNatClampNeg = 2 from rfl]
                  show Z 0 160 [(6, .int 4), (5, .int 2), (4, .int 0), (3, .int (nB ((((!(decide (0 ≤ (μ.1 61 0)))) || (!(decide (0 ≤ (μ.1 61 1))))) || (!(decide (0 ≤ (μ.1 61 2))))) || (!(decide (0 ≤ (μ.1 61 3))))))), (0, .ref 50), (1, .int 1), (2, .int (nB om))] [] (z_ui (z_ui (z_ui (z_ui (z_ui μ 50 44 0) 50 49 (-1)) 50 52 ((μ.1 50 52) + 1)) 50 54 1) 61 2 ((μ.1 61 2) + (1000 * (μ.1 50 43))))
                  refine z_rcs0 hc hH 2 (pc' := 162) (lv' := [(6, .int 4), (5, .int 2), (4, .int 0), (3, .int (nB ((((!(decide (0 ≤ (μ.1 61 0)))) || (!(decide (0 ≤ (μ.1 61 1))))) || (!(decide (0 ≤ (μ.1 61 2))))) || (!(decide (0 ≤ (μ.1 61 3))))))), (0, .ref 50), (1, .int 1), (2, .int (nB om))]) (st' := [.int 0, .ref 50]) (by rfl) ?_
                  refine zq_pfi hc hH (by rfl) (ci := 6) (f := 43) (by rfl) (by decide +kernel) (by rfl) ?_
                  show Z 0 165 [(6, .int 4), (5, .int 2), (4, .int 0), (3, .int (nB ((((!(decide (0 ≤ (μ.1 61 0)))) || (!(decide (0 ≤ (μ.1 61 1))))) || (!(decide (0 ≤ (μ.1 61 2))))) || (!(decide (0 ≤ (μ.1 61 3))))))), (0, .ref 50), (1, .int 1), (2, .int (nB om))] [] (z_ui (z_ui (z_ui (z_ui (z_ui (z_ui μ 50 44 0) 50 49 (-1)) 50 52 ((μ.1 50 52) + 1)) 50 54 1) 61 2 ((μ.1 61 2) + (1000 * (μ.1 50 43)))) 50 43 0)
                  exact hr 0 165 _ _ _ none (by decide +kernel) (by rfl) (⟨rfl, (by unfold eM1; simp only [h5, h6, h7, h9, cond_true, cond_false])⟩)
                · have h9 : (decide ((μ.1 61 3) ≤ (μ.1 61 2))) = false := decide_eq_false (cn_le.mp h9)
                  refine z_rcs hc hH 9 (pc' := 143) (lv' := [(6, .int 4), (5, .int 3), (4, .int 0), (3, .int (nB ((((!(decide (0 ≤ (μ.1 61 0)))) || (!(decide (0 ≤ (μ.1 61 1))))) || (!(decide (0 ≤ (μ.1 61 2))))) || (!(decide (0 ≤ (μ.1 61 3))))))), (0, .ref 50), (1, .int 1), (2, .int (nB om))]) (st' := [.ref 50]) (μ' := z_ui (z_ui (z_ui (z_ui μ 50 44 0) 50 49 (-1)) 50 52 ((μ.1 50 52) + 1)) 50 54 1) (by rfl) ?_
                  refine zq_gfr hc hH (by rfl) (ci := 6) (f := 29) (q := 61) (by rfl) (by decide +kernel) (by rfl) (by decide +kernel) ?_
                  refine z_rcs0 hc hH 2 (pc' := 149) (lv' := [(6, .int 4), (5, .int 3), (4, .int 0), (3, .int (nB ((((!(decide (0 ≤ (μ.1 61 0)))) || (!(decide (0 ≤ (μ.1 61 1))))) || (!(decide (0 ≤ (μ.1 61 2))))) || (!(decide (0 ≤ (μ.1 61 3))))))), (0, .ref 50), (1, .int 1), (2, .int (nB om))]) (st' := [.int 3, .ref 61, .int 3, .ref 61]) (by rfl) ?_
                  refine zq_iald hc hH (by rfl) 4 (oka_i (by decide +kernel)) (show vp_in (nI 3) 4 from vp_in_nI (by decide) (by decide)) ?_
                  rw [show (3 : Int32).toNatClampNeg = 3 from rfl]
                  refine zV1 (Z := Z) (Eq.trans (ui_o (by first | decide | omega)) (Eq.trans (ui_o (by first | decide | omega)) (Eq.trans (ui_o (by first | decide | omega)) (ui_o (by first | decide | omega))))) ?_
                  refine z_rcs0 hc hH 2 (pc' := 154) (lv' := [(6, .int 4), (5, .int 3), (4, .int 0), (3, .int (nB ((((!(decide (0 ≤ (μ.1 61 0)))) || (!(decide (0 ≤ (μ.1 61 1))))) || (!(decide (0 ≤ (μ.1 61 2))))) || (!(decide (0 ≤ (μ.1 61 3))))))), (0, .ref 50), (1, .int 1), (2, .int (nB om))]) (st' := [.ref 50, .int 1000, .int (μ.1 61 3), .int 3, .ref 61]) (by rfl) ?_
                  refine zq_gfi hc hH (by rfl) (ci := 6) (f := 43) (by rfl) (by decide +kernel) (by rfl) ?_
                  refine zV1 (Z := Z) (Eq.trans (ui_k (by first | decide | omega)) (Eq.trans (ui_k (by first | decide | omega)) (Eq.trans (ui_k (by first | decide | omega)) (ui_k (by first | decide | omega))))) ?_
                  refine z_rcs0 hc hH 2 (pc' := 159) (lv' := [(6, .int 4), (5, .int 3), (4, .int 0), (3, .int (nB ((((!(decide (0 ≤ (μ.1 61 0)))) || (!(decide (0 ≤ (μ.1 61 1))))) || (!(decide (0 ≤ (μ.1 61 2))))) || (!(decide (0 ≤ (μ.1 61 3))))))), (0, .ref 50), (1, .int 1), (2, .int (nB om))]) (st' := [.int ((μ.1 61 3) + (1000 * (μ.1 50 43))), .int 3, .ref 61]) (by rfl) ?_
                  refine zq_iast hc hH (by rfl) 4 (oka_i (by decide +kernel)).2 (show vp_in (nI 3) 4 from vp_in_nI (by decide) (by decide)) ?_
                  rw [show (3 : Int32).toNatClampNeg = 3 from rfl]
                  show Z 0 160 [(6, .int 4), (5, .int 3), (4, .int 0), (3, .int (nB ((((!(decide (0 ≤ (μ.1 61 0)))) || (!(decide (0 ≤ (μ.1 61 1))))) || (!(decide (0 ≤ (μ.1 61 2))))) || (!(decide (0 ≤ (μ.1 61 3))))))), (0, .ref 50), (1, .int 1), (2, .int (nB om))] [] (z_ui (z_ui (z_ui (z_ui (z_ui μ 50 44 0) 50 49 (-1)) 50 52 ((μ.1 50 52) + 1)) 50 54 1) 61 3 ((μ.1 61 3) + (1000 * (μ.1 50 43))))
                  refine z_rcs0 hc hH 2 (pc' := 162) (lv' := [(6, .int 4), (5, .int 3), (4, .int 0), (3, .int (nB ((((!(decide (0 ≤ (μ.1 61 0)))) || (!(decide (0 ≤ (μ.1 61 1))))) || (!(decide (0 ≤ (μ.1 61 2))))) || (!(decide (0 ≤ (μ.1 61 3))))))), (0, .ref 50), (1, .int 1), (2, .int (nB om))]) (st' := [.int 0, .ref 50]) (by rfl) ?_
                  refine zq_pfi hc hH (by rfl) (ci := 6) (f := 43) (by rfl) (by decide +kernel) (by rfl) ?_
                  show Z 0 165 [(6, .int 4), (5, .int 3), (4, .int 0), (3, .int (nB ((((!(decide (0 ≤ (μ.1 61 0)))) || (!(decide (0 ≤ (μ.1 61 1))))) || (!(decide (0 ≤ (μ.1 61 2))))) || (!(decide (0 ≤ (μ.1 61 3))))))), (0, .ref 50), (1, .int 1), (2, .int (nB om))] [] (z_ui (z_ui (z_ui (z_ui (z_ui (z_ui μ 50 44 0) 50 49 (-1)) 50 52 ((μ.1 50 52) + 1)) 50 54 1) 61 3 ((μ.1 61 3) + (1000 * (μ.1 50 43)))) 50 43 0)
                  exact hr 0 165 _ _ _ none (by decide +kernel) (by rfl) (⟨rfl, (by unfold eM1; simp only [h5, h6, h7, h9, cond_true, cond_false])⟩)
            · have h6 : (decide ((μ.1 61 1) ≤ (μ.1 61 0))) = false := decide_eq_false (cn_le.mp h6)
              refine z_rcs hc hH 9 (pc' := 111) (lv' := [(6, .int 2), (5, .int 1), (4, .int 0), (3, .int (nB ((((!(decide (0 ≤ (μ.1 61 0)))) || (!(decide (0 ≤ (μ.1 61 1))))) || (!(decide (0 ≤ (μ.1 61 2))))) || (!(decide (0 ≤ (μ.1 61 3))))))), (0, .ref 50), (1, .int 1), (2, .int (nB om))]) (st' := [.ref 50]) (μ' := z_ui (z_ui (z_ui (z_ui μ 50 44 0) 50 49 (-1)) 50 52 ((μ.1 50 52) + 1)) 50 54 1) (by rfl) ?_
              refine zq_gfr hc hH (by rfl) (ci := 6) (f := 29) (q := 61) (by rfl) (by decide +kernel) (by rfl) (by decide +kernel) ?_
              refine z_rcs0 hc hH 1 (pc' := 116) (lv' := [(6, .int 2), (5, .int 1), (4, .int 0), (3, .int (nB ((((!(decide (0 ≤ (μ.1 61 0)))) || (!(decide (0 ≤ (μ.1 61 1))))) || (!(decide (0 ≤ (μ.1 61 2))))) || (!(decide (0 ≤ (μ.1 61 3))))))), (0, .ref 50), (1, .int 1), (2, .int (nB om))]) (st' := [.int 2, .ref 61]) (by rfl) ?_
              refine zq_iald hc hH (by rfl) 4 (oka_i (by decide +kernel)) (show vp_in (nI 2) 4 from vp_in_nI (by decide) (by decide)) ?_
              rw [show (2 : Int32).toNatClampNeg = 2 from rfl]
              refine zV1 (Z := Z) (Eq.trans (ui_o (by first | decide | omega)) (Eq.trans (ui_o (by first | decide | omega)) (Eq.trans (ui_o (by first | decide | omega)) (ui_o (by first | decide | omega))))) ?_
              refine z_rcs0 hc hH 1 (pc' := 118) (lv' := [(6, .int 2), (5, .int 1), (4, .int 0), (3, .int (nB ((((!(decide (0 ≤ (μ.1 61 0)))) || (!(decide (0 ≤ (μ.1 61 1))))) || (!(decide (0 ≤ (μ.1 61 2))))) || (!(decide (0 ≤ (μ.1 61 3))))))), (0, .ref 50), (1, .int 1), (2, .int (nB om))]) (st' := [.ref 50, .int (μ.1 61 2)]) (by rfl) ?_
              refine zq_gfr hc hH (by rfl) (ci := 6) (f := 29) (q := 61) (by rfl) (by decide +kernel) (by rfl) (by decide +kernel) ?_
              refine z_rcs0 hc hH 1 (pc' := 123) (lv' := [(6, .int 2), (5, .int 1), (4, .int 0), (3, .int (nB ((((!(decide (0 ≤ (μ.1 61 0)))) || (!(decide (0 ≤ (μ.1 61 1))))) || (!(decide (0 ≤ (μ.1 61 2))))) || (!(decide (0 ≤ (μ.1 61 3))))))), (0, .ref 50), (1, .int 1), (2, .int (nB om))]) (st' := [.int 1, .ref 61, .int (μ.1 61 2)]) (by rfl) ?_
              refine zq_iald hc hH (by rfl) 4 (oka_i (by decide +kernel)) (show vp_in (nI 1) 4 from vp_in_nI (by decide) (by decide)) ?_
              rw [show (1 : Int32).toNatClampNeg = 1 from rfl]
              refine zV1 (Z := Z) (Eq.trans (ui_o (by first | decide | omega)) (Eq.trans (ui_o (by first | decide | omega)) (Eq.trans (ui_o (by first | decide | omega)) (ui_o (by first | decide | omega))))) ?_
              refine zq_ic hc hH (by rfl) (tg := 132) (by rfl) (fun h10 => ?_) (fun h10 => ?_)
              · have h10 : (decide ((μ.1 61 2) ≤ (μ.1 61 1))) = true := decide_eq_true (cm_le.mp h10)
                refine z_rcs0 hc hH 8 (pc' := 111) (lv' := [(6, .int 3), (5, .int 1), (4, .int 0), (3, .int (nB ((((!(decide (0 ≤ (μ.1 61 0)))) || (!(decide (0 ≤ (μ.1 61 1))))) || (!(decide (0 ≤ (μ.1 61 2))))) || (!(decide (0 ≤ (μ.1 61 3))))))), (0, .ref 50), (1, .int 1), (2, .int (nB om))]) (st' := [.ref 50]) (by rfl) ?_
                refine zq_gfr hc hH (by rfl) (ci := 6) (f := 29) (q := 61) (by rfl) (by decide +kernel) (by rfl) (by decide +kernel) ?_
                refine z_rcs0 hc hH 1 (pc' := 116) (lv' := [(6, .int 3), (5, .int 1), (4, .int 0), (3, .int (nB ((((!(decide (0 ≤ (μ.1 61 0)))) || (!(decide (0 ≤ (μ.1 61 1))))) || (!(decide (0 ≤ (μ.1 61 2))))) || (!(decide (0 ≤ (μ.1 61 3))))))), (0, .ref 50), (1, .int 1), (2, .int (nB om))]) (st' := [.int 3, .ref 61]) (by rfl) ?_
                refine zq_iald hc hH (by rfl) 4 (oka_i (by decide +kernel)) (show vp_in (nI 3) 4 from vp_in_nI (by decide) (by decide)) ?_
                rw [show (3 : Int32).toNatClampNeg = 3 from rfl]
                refine zV1 (Z := Z) (Eq.trans (ui_o (by first | decide | omega)) (Eq.trans (ui_o (by first | decide | omega)) (Eq.trans (ui_o (by first | decide | omega)) (ui_o (by first | decide | omega))))) ?_
                refine z_rcs0 hc hH 1 (pc' := 118) (lv' := [(6, .int 3), (5, .int 1), (4, .int 0), (3, .int (nB ((((!(decide (0 ≤ (μ.1 61 0)))) || (!(decide (0 ≤ (μ.1 61 1))))) || (!(decide (0 ≤ (μ.1 61 2))))) || (!(decide (0 ≤ (μ.1 61 3))))))), (0, .ref 50), (1, .int 1), (2, .int (nB om))]) (st' := [.ref 50, .int (μ.1 61 3)]) (by rfl) ?_
                refine zq_gfr hc hH (by rfl) (ci := 6) (f := 29) (q := 61) (by rfl) (by decide +kernel) (by rfl) (by decide +kernel) ?_
                refine z_rcs0 hc hH 1 (pc' := 123) (lv' := [(6, .int 3), (5, .int 1), (4, .int 0), (3, .int (nB ((((!(decide (0 ≤ (μ.1 61 0)))) || (!(decide (0 ≤ (μ.1 61 1))))) || (!(decide (0 ≤ (μ.1 61 2))))) || (!(decide (0 ≤ (μ.1 61 3))))))), (0, .ref 50), (1, .int 1), (2, .int (nB om))]) (st' := [.int 1, .ref 61, .int (μ.1 61 3)]) (by rfl) ?_
                refine zq_iald hc hH (by rfl) 4 (oka_i (by decide +kernel)) (show vp_in (nI 1) 4 from vp_in_nI (by decide) (by decide)) ?_
                rw [show (1 : Int32).toNatClampNeg = 1 from rfl]
                refine zV1 (Z := Z) (Eq.trans (ui_o (by first | decide | omega)) (Eq.trans (ui_o (by first | decide | omega)) (Eq.trans (ui_o (by first | decide | omega)) (ui_o (by first | decide | omega))))) ?_
                refine zq_ic hc hH (by rfl) (tg := 132) (by rfl) (fun h11 => ?_) (fun h11 => ?_)
                · have h11 : (decide ((μ.1 61 3) ≤ (μ.1 61 1))) = true := decide_eq_true (cm_le.mp h11)
                  refine z_rcs0 hc hH 8 (pc' := 143) (lv' := [(6, .int 4), (5, .int 1), (4, .int 0), (3, .int (nB ((((!(decide (0 ≤ (μ.1 61 0)))) || (!(decide (0 ≤ (μ.1 61 1))))) || (!(decide (0 ≤ (μ.1 61 2))))) || (!(decide (0 ≤ (μ.1 61 3))))))), (0, .ref 50), (1, .int 1), (2, .int (nB om))]) (st' := [.ref 50]) (by rfl) ?_
                  refine zq_gfr hc hH (by rfl) (ci := 6) (f := 29) (q := 61) (by rfl) (by decide +kernel) (by rfl) (by decide +kernel) ?_
                  refine z_rcs0 hc hH 2 (pc' := 149) (lv' := [(6, .int 4), (5, .int 1), (4, .int 0), (3, .int (nB ((((!(decide (0 ≤ (μ.1 61 0)))) || (!(decide (0 ≤ (μ.1 61 1))))) || (!(decide (0 ≤ (μ.1 61 2))))) || (!(decide (0 ≤ (μ.1 61 3))))))), (0, .ref 50), (1, .int 1), (2, .int (nB om))]) (st' := [.int 1, .ref 61, .int 1, .ref 61]) (by rfl) ?_
                  refine zq_iald hc hH (by rfl) 4 (oka_i (by decide +kernel)) (show vp_in (nI 1) 4 from vp_in_nI (by decide) (by decide)) ?_
                  rw [show (1 : Int32).toNatClampNeg = 1 from rfl]
                  refine zV1 (Z := Z) (Eq.trans (ui_o (by first | decide | omega)) (Eq.trans (ui_o (by first | decide | omega)) (Eq.trans (ui_o (by first | decide | omega)) (ui_o (by first | decide | omega))))) ?_
                  refine z_rcs0 hc hH 2 (pc' := 154) (lv' := [(6, .int 4), (5, .int 1), (4, .int 0), (3, .int (nB ((((!(decide (0 ≤ (μ.1 61 0)))) || (!(decide (0 ≤ (μ.1 61 1))))) || (!(decide (0 ≤ (μ.1 61 2))))) || (!(decide (0 ≤ (μ.1 61 3))))))), (0, .ref 50), (1, .int 1), (2, .int (nB om))]) (st' := [.ref 50, .int 1000, .int (μ.1 61 1), .int 1, .ref 61]) (by rfl) ?_
                  refine zq_gfi hc hH (by rfl) (ci := 6) (f := 43) (by rfl) (by decide +kernel) (by rfl) ?_
                  refine zV1 (Z := Z) (Eq.trans (ui_k (by first | decide | omega)) (Eq.trans (ui_k (by first | decide | omega)) (Eq.trans (ui_k (by first | decide | omega)) (ui_k (by first | decide | omega))))) ?_
                  refine z_rcs0 hc hH 2 (pc' := 159) (lv' := [(6, .int 4), (5, .int 1), (4, .int 0), (3, .int (nB ((((!(decide (0 ≤ (μ.1 61 0)))) || (!(decide (0 ≤ (μ.1 61 1))))) || (!(decide (0 ≤ (μ.1 61 2))))) || (!(decide (0 ≤ (μ.1 61 3))))))), (0, .ref 50), (1, .int 1), (2, .int (nB om))]) (st' := [.int ((μ.1 61 1) + (1000 * (μ.1 50 43))), .int 1, .ref 61]) (by rfl) ?_
                  refine zq_iast hc hH (by rfl) 4 (oka_i (by decide +kernel)).2 (show vp_in (nI 1) 4 from vp_in_nI (by decide) (by decide)) ?_
                  rw [show (1 : Int32).toNatClampNeg = 1 from rfl]
                  show Z 0 160 [(6, .int 4), (5, .int 1), (4, .int 0), (3, .int (nB ((((!(decide (0 ≤ (μ.1 61 0)))) || (!(decide (0 ≤ (μ.1 61 1))))) || (!(decide (0 ≤ (μ.1 61 2))))) || (!(decide (0 ≤ (μ.1 61 3))))))), (0, .ref 50), (1, .int 1), (2, .int (nB om))] [] (z_ui (z_ui (z_ui (z_ui (z_ui μ 50 44 0) 50 49 (-1)) 50 52 ((μ.1 50 52) + 1)) 50 54 1) 61 1 ((μ.1 61 1) + (1000 * (μ.1 50 43))))
                  refine z_rcs0 hc hH 2 (pc' := 162) (lv' := [(6, .int 4), (5, .int 1), (4, .int 0), (3, .int (nB ((((!(decide (0 ≤ (μ.1 61 0)))) || (!(decide (0 ≤ (μ.1 61 1))))) || (!(decide (0 ≤ (μ.1 61 2))))) || (!(decide (0 ≤ (μ.1 61 3))))))), (0, .ref 50), (1, .int 1), (2, .int (nB om))]) (st' := [.int 0, .ref 50]) (by rfl) ?_
                  refine zq_pfi hc hH (by rfl) (ci := 6) (f := 43) (by rfl) (by decide +kernel) (by rfl) ?_
                  show Z 0 165 [(6, .int 4), (5, .int 1), (4, .int 0), (3, .int (nB ((((!(decide (0 ≤ (μ.1 61 0)))) || (!(decide (0 ≤ (μ.1 61 1))))) || (!(decide (0 ≤ (μ.1 61 2))))) || (!(decide (0 ≤ (μ.1 61 3))))))), (0, .ref 50), (1, .int 1), (2, .int (nB om))] [] (z_ui (z_ui (z_ui (z_ui (z_ui (z_ui μ 50 44 0) 50 49 (-1)) 50 52 ((μ.1 50 52) + 1)) 50 54 1) 61 1 ((μ.1 61 1) + (1000 * (μ.1 50 43)))) 50 43 0)
                  exact hr 0 165 _ _ _ none (by decide +kernel) (by rfl) (⟨rfl, (by unfold eM1; simp only [h5, h6, h10, h11, cond_true, cond_false])⟩)
                · have h11 : (decide ((μ.1 61 3) ≤ (μ.1 61 1))) = false := decide_eq_false (cn_le.mp h11)
                  refine z_rcs hc hH 9 (pc' := 143) (lv' := [(6, .int 4), (5, .int 3), (4, .int 0), (3, .int (nB ((((!(decide (0 ≤ (μ.1 61 0)))) || (!(decide (0 ≤ (μ.1 61 1))))) || (!(decide (0 ≤ (μ.1 61 2))))) || (!(decide (0 ≤ (μ.1 61 3))))))), (0, .ref 50), (1, .int 1), (2, .int (nB om))]) (st' := [.ref 50]) (μ' := z_ui (z_ui (z_ui (z_ui μ 50 44 0) 50 49 (-1)) 50 52 ((μ.1 50 52) + 1)) 50 54 1) (by rfl) ?_
                  refine zq_gfr hc hH (by rfl) (ci := 6) (f := 29) (q := 61) (by rfl) (by decide +kernel) (by rfl) (by decide +kernel) ?_
                  refine z_rcs0 hc hH 2 (pc' := 149) (lv' := [(6, .int 4), (5, .int 3), (4, .int 0), (3, .int (nB ((((!(decide (0 ≤ (μ.1 61 0)))) || (!(decide (0 ≤ (μ.1 61 1))))) || (!(decide (0 ≤ (μ.1 61 2))))) || (!(decide (0 ≤ (μ.1 61 3))))))), (0, .ref 50), (1, .int 1), (2, .int (nB om))]) (st' := [.int 3, .ref 61, .int 3, .ref 61]) (by rfl) ?_
                  refine zq_iald hc hH (by rfl) 4 (oka_i (by decide +kernel)) (show vp_in (nI 3) 4 from vp_in_nI (by decide) (by decide)) ?_
                  rw [show (3 : Int32).toNatClampNeg = 3 from rfl]
                  refine zV1 (Z := Z) (Eq.trans (ui_o (by first | decide | omega)) (Eq.trans (ui_o (by first | decide | omega)) (Eq.trans (ui_o (by first | decide | omega)) (ui_o (by first | decide | omega))))) ?_
                  refine z_rcs0 hc hH 2 (pc' := 154) (lv' := [(6, .int 4), (5, .int 3), (4, .int 0), (3, .int (nB ((((!(decide (0 ≤ (μ.1 61 0)))) || (!(decide (0 ≤ (μ.1 61 1))))) || (!(decide (0 ≤ (μ.1 61 2))))) || (!(decide (0 ≤ (μ.1 61 3))))))), (0, .ref 50), (1, .int 1), (2, .int (nB om))]) (st' := [.ref 50, .int 1000, .int (μ.1 61 3), .int 3, .ref 61]) (by rfl) ?_
                  refine zq_gfi hc hH (by rfl) (ci := 6) (f := 43) (by rfl) (by decide +kernel) (by rfl) ?_
                  refine zV1 (Z := Z) (Eq.trans (ui_k (by first | decide | omega)) (Eq.trans (ui_k (by first | decide | omega)) (Eq.trans (ui_k (by first | decide | omega)) (ui_k (by first | decide | omega))))) ?_
                  refine z_rcs0 hc hH 2 (pc' := 159) (lv' := [(6, .int 4), (5, .int 3), (4, .int 0), (3, .int (nB ((((!(decide (0 ≤ (μ.1 61 0)))) || (!(decide (0 ≤ (μ.1 61 1))))) || (!(decide (0 ≤ (μ.1 61 2))))) || (!(decide (0 ≤ (μ.1 61 3))))))), (0, .ref 50), (1, .int 1), (2, .int (nB om))]) (st' := [.int ((μ.1 61 3) + (1000 * (μ.1 50 43))), .int 3, .ref 61]) (by rfl) ?_
                  refine zq_iast hc hH (by rfl) 4 (oka_i (by decide +kernel)).2 (show vp_in (nI 3) 4 from vp_in_nI (by decide) (by decide)) ?_
                  rw [show (3 : Int32).toNatClampNeg = 3 from rfl]
                  show Z 0 160 [(6, .int 4), (5, .int 3), (4, .int 0), (3, .int (nB ((((!(decide (0 ≤ (μ.1 61 0)))) || (!(decide (0 ≤ (μ.1 61 1))))) || (!(decide (0 ≤ (μ.1 61 2))))) || (!(decide (0 ≤ (μ.1 61 3))))))), (0, .ref 50), (1, .int 1), (2, .int (nB om))] [] (z_ui (z_ui (z_ui (z_ui (z_ui μ 50 44 0) 50 49 (-1)) 50 52 ((μ.1 50 52) + 1)) 50 54 1) 61 3 ((μ.1 61 3) + (1000 * (μ.1 50 43))))
                  refine z_rcs0 hc hH 2 (pc' := 162) (lv' := [(6, .int 4), (5, .int 3), (4, .int 0), (3, .int (nB ((((!(decide (0 ≤ (μ.1 61 0)))) || (!(decide (0 ≤ (μ.1 61 1))))) || (!(decide (0 ≤ (μ.1 61 2))))) || (!(decide (0 ≤ (μ.1 61 3))))))), (0, .ref 50), (1, .int 1), (2, .int (nB om))]) (st' := [.int 0, .ref 50]) (by rfl) ?_
                  refine zq_pfi hc hH (by rfl) (ci := 6) (f := 43) (by rfl) (by decide +kernel) (by rfl) ?_
                  show Z 0 165 [(6, .int 4), (5, .int 3), (4, .int 0), (3, .int (nB ((((!(decide (0 ≤ (μ.1 61 0)))) || (!(decide (0 ≤ (μ.1 61 1))))) || (!(decide (0 ≤ (μ.1 61 2))))) || (!(decide (0 ≤ (μ.1 61 3))))))), (0, .ref 50), (1, .int 1), (2, .int (nB om))] [] (z_ui (z_ui (z_ui (z_ui (z_ui (z_ui μ 50 44 0) 50 49 (-1)) 50 52 ((μ.1 50 52) + 1)) 50 54 1) 61 3 ((μ.1 61 3) + (1000 * (μ.1 50 43)))) 50 43 0)
                  exact hr 0 165 _ _ _ none (by decide +kernel) (by rfl) (⟨rfl, (by unfold eM1; simp only [h5, h6, h10, h11, cond_true, cond_false])⟩)
              · have h10 : (decide ((μ.1 61 2) ≤ (μ.1 61 1))) = false := decide_eq_false (cn_le.mp h10)
                refine z_rcs hc hH 9 (pc' := 111) (lv' := [(6, .int 3), (5, .int 2), (4, .int 0), (3, .int (nB ((((!(decide (0 ≤ (μ.1 61 0)))) || (!(decide (0 ≤ (μ.1 61 1))))) || (!(decide (0 ≤ (μ.1 61 2))))) || (!(decide (0 ≤ (μ.1 61 3))))))), (0, .ref 50), (1, .int 1), (2, .int (nB om))]) (st' := [.ref 50]) (μ' := z_ui (z_ui (z_ui (z_ui μ 50 44 0) 50 49 (-1)) 50 52 ((μ.1 50 52) + 1)) 50 54 1) (by rfl) ?_
                refine zq_gfr hc hH (by rfl) (ci := 6) (f := 29) (q := 61) (by rfl) (by decide +kernel) (by rfl) (by decide +kernel) ?_
                refine z_rcs0 hc hH 1 (pc' := 116) (lv' := [(6, .int 3), (5, .int 2), (4, .int 0), (3, .int (nB ((((!(decide (0 ≤ (μ.1 61 0)))) || (!(decide (0 ≤ (μ.1 61 1))))) || (!(decide (0 ≤ (μ.1 61 2))))) || (!(decide (0 ≤ (μ.1 61 3))))))), (0, .ref 50), (1, .int 1), (2, .int (nB om))]) (st' := [.int 3, .ref 61]) (by rfl) ?_
                refine zq_iald hc hH (by rfl) 4 (oka_i (by decide +kernel)) (show vp_in (nI 3) 4 from vp_in_nI (by decide) (by decide)) ?_
                rw [show (3 : Int32).toNatClampNeg = 3 from rfl]
                refine zV1 (Z := Z) (Eq.trans (ui_o (by first | decide | omega)) (Eq.trans (ui_o (by first | decide | omega)) (Eq.trans (ui_o (by first | decide | omega)) (ui_o (by first | decide | omega))))) ?_
                refine z_rcs0 hc hH 1 (pc' := 118) (lv' := [(6, .int 3), (5, .int 2), (4, .int 0), (3, .int (nB ((((!(decide (0 ≤ (μ.1 61 0)))) || (!(decide (0 ≤ (μ.1 61 1))))) || (!(decide (0 ≤ (μ.1 61 2))))) || (!(decide (0 ≤ (μ.1 61 3))))))), (0, .ref 50), (1, .int 1), (2, .int (nB om))]) (st' := [.ref 50, .int (μ.1 61 3)]) (by rfl) ?_
                refine zq_gfr hc hH (by rfl) (ci := 6) (f := 29) (q := 61) (by rfl) (by decide +kernel) (by rfl) (by decide +kernel) ?_
                refine z_rcs0 hc hH 1 (pc' := 123) (lv' := [(6, .int 3), (5, .int 2), (4, .int 0), (3, .int (nB ((((!(decide (0 ≤ (μ.1 61 0)))) || (!(decide (0 ≤ (μ.1 61 1))))) || (!(decide (0 ≤ (μ.1 61 2))))) || (!(decide (0 ≤ (μ.1 61 3))))))), (0, .ref 50), (1, .int 1), (2, .int (nB om))]) (st' := [.int 2, .ref 61, .int (μ.1 61 3)]) (by rfl) ?_
                refine zq_iald hc hH (by rfl) 4 (oka_i (by decide +kernel)) (show vp_in (nI 2) 4 from vp_in_nI (by decide) (by decide)) ?_
                rw [show (2 : Int32).toNatClampNeg = 2 from rfl]
                refine zV1 (Z := Z) (Eq.trans (ui_o (by first | decide | omega)) (Eq.trans (ui_o (by first | decide | omega)) (Eq.trans (ui_o (by first | decide | omega)) (ui_o (by first | decide | omega))))) ?_
                refine zq_ic hc hH (by rfl) (tg := 132) (by rfl) (fun h12 => ?_) (fun h12 => ?_)
                · have h12 : (decide ((μ.1 61 3) ≤ (μ.1 61 2))) = true := decide_eq_true (cm_le.mp h12)
                  refine z_rcs0 hc hH 8 (pc' := 143) (lv' := [(6, .int 4), (5, .int 2), (4, .int 0), (3, .int (nB ((((!(decide (0 ≤ (μ.1 61 0)))) || (!(decide (0 ≤ (μ.1 61 1))))) || (!(decide (0 ≤ (μ.1 61 2))))) || (!(decide (0 ≤ (μ.1 61 3))))))), (0, .ref 50), (1, .int 1), (2, .int (nB om))]) (st' := [.ref 50]) (by rfl) ?_
                  refine zq_gfr hc hH (by rfl) (ci := 6) (f := 29) (q := 61) (by rfl) (by decide +kernel) (by rfl) (by decide +kernel) ?_
                  refine z_rcs0 hc hH 2 (pc' := 149) (lv' := [(6, .int 4), (5, .int 2), (4, .int 0), (3, .int (nB ((((!(decide (0 ≤ (μ.1 61 0)))) || (!(decide (0 ≤ (μ.1 61 1))))) || (!(decide (0 ≤ (μ.1 61 2))))) || (!(decide (0 ≤ (μ.1 61 3))))))), (0, .ref 50), (1, .int 1), (2, .int (nB om))]) (st' := [.int 2, .ref 61, .int 2, .ref 61]) (by rfl) ?_
                  refine zq_iald hc hH (by rfl) 4 (oka_i (by decide +kernel)) (show vp_in (nI 2) 4 from vp_in_nI (by decide) (by decide)) ?_
                  rw [show (2 : Int32).toNatClampNeg = 2 from rfl]
                  refine zV1 (Z := Z) (Eq.trans (ui_o (by first | decide | omega)) (Eq.trans (ui_o (by first | decide | omega)) (Eq.trans (ui_o (by first | decide | omega)) (ui_o (by first | decide | omega))))) ?_
                  refine z_rcs0 hc hH 2 (pc' := 154) (lv' := [(6, .int 4), (5, .int 2), (4, .int 0), (3, .int (nB ((((!(decide (0 ≤ (μ.1 61 0)))) || (!(decide (0 ≤ (μ.1 61 1))))) || (!(decide (0 ≤ (μ.1 61 2))))) || (!(decide (0 ≤ (μ.1 61 3))))))), (0, .ref 50), (1, .int 1), (2, .int (nB om))]) (st' := [.ref 50, .int 1000, .int (μ.1 61 2), .int 2, .ref 61]) (by rfl) ?_
                  refine zq_gfi hc hH (by rfl) (ci := 6) (f := 43) (by rfl) (by decide +kernel) (by rfl) ?_
                  refine zV1 (Z := Z) (Eq.trans (ui_k (by first | decide | omega)) (Eq.trans (ui_k (by first | decide | omega)) (Eq.trans (ui_k (by first | decide | omega)) (ui_k (by first | decide | omega))))) ?_
                  refine z_rcs0 hc hH 2 (pc' := 159) (lv' := [(6, .int 4), (5, .int 2), (4, .int 0), (3, .int (nB ((((!(decide (0 ≤ (μ.1 61 0)))) || (!(decide (0 ≤ (μ.1 61 1))))) || (!(decide (0 ≤ (μ.1 61 2))))) || (!(decide (0 ≤ (μ.1 61 3))))))), (0, .ref 50), (1, .int 1), (2, .int (nB om))]) (st' := [.int ((μ.1 61 2) + (1000 * (μ.1 50 43))), .int 2, .ref 61]) (by rfl) ?_
                  refine zq_iast hc hH (by rfl) 4 (oka_i (by decide +kernel)).2 (show vp_in (nI 2) 4 from vp_in_nI (by decide) (by decide)) ?_
                  rw [show (2 : Int32).toNatClampNeg = 2 from rfl]
                  show Z 0 160 [(6, .int 4), (5, .int 2), (4, .int 0), (3, .int (nB ((((!(decide (0 ≤ (μ.1 61 0)))) || (!(decide (0 ≤ (μ.1 61 1))))) || (!(decide (0 ≤ (μ.1 61 2))))) || (!(decide (0 ≤ (μ.1 61 3))))))), (0, .ref 50), (1, .int 1), (2, .int (nB om))] [] (z_ui (z_ui (z_ui (z_ui (z_ui μ 50 44 0) 50 49 (-1)) 50 52 ((μ.1 50 52) + 1)) 50 54 1) 61 2 ((μ.1 61 2) + (1000 * (μ.1 50 43))))
                  refine z_rcs0 hc hH 2 (pc' := 162) (lv' := [(6, .int 4), (5, .int 2), (4, .int 0), (3, .int (nB ((((!(decide (0 ≤ (μ.1 61 0)))) || (!(decide (0 ≤ (μ.1 61 1))))) || (!(decide (0 ≤ (μ.1 61 2))))) || (!(decide (0 ≤ (μ.1 61 3))))))), (0, .ref 50), (1, .int 1), (2, .int (nB om))]) (st' := [.int 0, .ref 50]) (by rfl) ?_
                  refine zq_pfi hc hH (by rfl) (ci := 6) (f := 43) (by rfl) (by decide +kernel) (by rfl) ?_
                  show Z 0 165 [(6, .int 4), (5, .int 2), (4, .int 0), (3, .int (nB ((((!(decide (0 ≤ (μ.1 61 0)))) || (!(decide (0 ≤ (μ.1 61 1))))) || (!(decide (0 ≤ (μ.1 61 2))))) || (!(decide (0 ≤ (μ.1 61 3))))))), (0, .ref 50), (1, .int 1), (2, .int (nB om))] [] (z_ui (z_ui (z_ui (z_ui (z_ui (z_ui μ 50 44 0) 50 49 (-1)) 50 52 ((μ.1 50 52) + 1)) 50 54 1) 61 2 ((μ.1 61 2) + (1000 * (μ.1 50 43)))) 50 43 0)
                  exact hr 0 165 _ _ _ none (by decide +kernel) (by rfl) (⟨rfl, (by unfold eM1; simp only [h5, h6, h10, h12, cond_true, cond_false])⟩)
                · have h12 : (decide ((μ.1 61 3) ≤ (μ.1 61 2))) = false := decide_eq_false (cn_le.mp h12)
                  refine z_rcs hc hH 9 (pc' := 143) (lv' := [(6, .int 4), (5, .int 3), (4, .int 0), (3, .int (nB ((((!(decide (0 ≤ (μ.1 61 0)))) || (!(decide (0 ≤ (μ.1 61 1))))) || (!(decide (0 ≤ (μ.1 61 2))))) || (!(decide (0 ≤ (μ.1 61 3))))))), (0, .ref 50), (1, .int 1), (2, .int (nB om))]) (st' := [.ref 50]) (μ' := z_ui (z_ui (z_ui (z_ui μ 50 44 0) 50 49 (-1)) 50 52 ((μ.1 50 52) + 1)) 50 54 1) (by rfl) ?_
                  refine zq_gfr hc hH (by rfl) (ci := 6) (f := 29) (q := 61) (by rfl) (by decide +kernel) (by rfl) (by decide +kernel) ?_
                  refine z_rcs0 hc hH 2 (pc' := 149) (lv' := [(6, .int 4), (5, .int 3), (4, .int 0), (3, .int (nB ((((!(decide (0 ≤ (μ.1 61 0)))) || (!(decide (0 ≤ (μ.1 61 1))))) || (!(decide (0 ≤ (μ.1 61 2))))) || (!(decide (0 ≤ (μ.1 61 3))))))), (0, .ref 50), (1, .int 1), (2, .int (nB om))]) (st' := [.int 3, .ref 61, .int 3, .ref 61]) (by rfl) ?_
                  refine zq_iald hc hH (by rfl) 4 (oka_i (by decide +kernel)) (show vp_in (nI 3) 4 from vp_in_nI (by decide) (by decide)) ?_
                  rw [show (3 : Int32).toNatClampNeg = 3 from rfl]
                  refine zV1 (Z := Z) (Eq.trans (ui_o (by first | decide | omega)) (Eq.trans (ui_o (by first | decide | omega)) (Eq.trans (ui_o (by first | decide | omega)) (ui_o (by first | decide | omega))))) ?_
                  refine z_rcs0 hc hH 2 (pc' := 154) (lv' := [(6, .int 4), (5, .int 3), (4, .int 0), (3, .int (nB ((((!(decide (0 ≤ (μ.1 61 0)))) || (!(decide (0 ≤ (μ.1 61 1))))) || (!(decide (0 ≤ (μ.1 61 2))))) || (!(decide (0 ≤ (μ.1 61 3))))))), (0, .ref 50), (1, .int 1), (2, .int (nB om))]) (st' := [.ref 50, .int 1000, .int (μ.1 61 3), .int 3, .ref 61]) (by rfl) ?_
                  refine zq_gfi hc hH (by rfl) (ci := 6) (f := 43) (by rfl) (by decide +kernel) (by rfl) ?_
                  refine zV1 (Z := Z) (Eq.trans (ui_k (by first | decide | omega)) (Eq.trans (ui_k (by first | decide | omega)) (Eq.trans (ui_k (by first | decide | omega)) (ui_k (by first | decide | omega))))) ?_
                  refine z_rcs0 hc hH 2 (pc' := 159) (lv' := [(6, .int 4), (5, .int 3), (4, .int 0), (3, .int (nB ((((!(decide (0 ≤ (μ.1 61 0)))) || (!(decide (0 ≤ (μ.1 61 1))))) || (!(decide (0 ≤ (μ.1 61 2))))) || (!(decide (0 ≤ (μ.1 61 3))))))), (0, .ref 50), (1, .int 1), (2, .int (nB om))]) (st' := [.int ((μ.1 61 3) + (1000 * (μ.1 50 43))), .int 3, .ref 61]) (by rfl) ?_
                  refine zq_iast hc hH (by rfl) 4 (oka_i (by decide +kernel)).2 (show vp_in (nI 3) 4 from vp_in_nI (by decide) (by decide)) ?_
                  rw [show (3 : Int32).toNatClampNeg = 3 from rfl]
                  show Z 0 160 [(6, .int 4), (5, .int 3), (4, .int 0), (3, .int (nB ((((!(decide (0 ≤ (μ.1 61 0)))) || (!(decide (0 ≤ (μ.1 61 1))))) || (!(decide (0 ≤ (μ.1 61 2))))) || (!(decide (0 ≤ (μ.1 61 3))))))), (0, .ref 50), (1, .int 1), (2, .int (nB om))] [] (z_ui (z_ui (z_ui (z_ui (z_ui μ 50 44 0) 50 49 (-1)) 50 52 ((μ.1 50 52) + 1)) 50 54 1) 61 3 ((μ.1 61 3) + (1000 * (μ.1 50 43))))
                  refine z_rcs0 hc hH 2 (pc' := 162) (lv' := [(6, .int 4), (5, .int 3), (4, .int 0), (3, .int (nB ((((!(decide (0 ≤ (μ.1 61 0)))) || (!(decide (0 ≤ (μ.1 61 1))))) || (!(decide (0 ≤ (μ.1 61 2))))) || (!(decide (0 ≤ (μ.1 61 3))))))), (0, .ref 50), (1, .int 1), (2, .int (nB om))]) (st' := [.int 0, .ref 50]) (by rfl) ?_
                  refine zq_pfi hc hH (by rfl) (ci := 6) (f := 43) (by rfl) (by decide +kernel) (by rfl) ?_
                  show Z 0 165 [(6, .int 4), (5, .int 3), (4, .int 0), (3, .int (nB ((((!(decide (0 ≤ (μ.1 61 0)))) || (!(decide (0 ≤ (μ.1 61 1))))) || (!(decide (0 ≤ (μ.1 61 2))))) || (!(decide (0 ≤ (μ.1 61 3))))))), (0, .ref 50), (1, .int 1), (2, .int (nB om))] [] (z_ui (z_ui (z_ui (z_ui (z_ui (z_ui μ 50 44 0) 50 49 (-1)) 50 52 ((μ.1 50 52) + 1)) 50 54 1) 61 3 ((μ.1 61 3) + (1000 * (μ.1 50 43)))) 50 43 0)
                  exact hr 0 165 _ _ _ none (by decide +kernel) (by rfl) (⟨rfl, (by unfold eM1; simp only [h5, h6, h10, h12, cond_true, cond_false])⟩)
          · have h5 : ((((!(decide (0 ≤ (μ.1 61 0)))) || (!(decide (0 ≤ (μ.1 61 1))))) || (!(decide (0 ≤ (μ.1 61 2))))) || (!(decide (0 ≤ (μ.1 61 3))))) = false := nB_z.mp (cn_ne.mp h5)
            refine z_rcs hc hH 6 (pc' := 206) (lv' := [(4, .int 0), (3, .int (nB ((((!(decide (0 ≤ (μ.1 61 0)))) || (!(decide (0 ≤ (μ.1 61 1))))) || (!(decide (0 ≤ (μ.1 61 2))))) || (!(decide (0 ≤ (μ.1 61 3))))))), (0, .ref 50), (1, .int 1), (2, .int (nB om))]) (st' := [.int (nB om), .ref 50]) (μ' := z_ui (z_ui (z_ui μ 50 44 0) 50 49 (-1)) 50 52 ((μ.1 50 52) + 1)) (by rfl) ?_
            have hJ13 : Z 0 219 [(4, .int 0), (3, .int (nB ((((!(decide (0 ≤ (μ.1 61 0)))) || (!(decide (0 ≤ (μ.1 61 1))))) || (!(decide (0 ≤ (μ.1 61 2))))) || (!(decide (0 ≤ (μ.1 61 3))))))), (0, .ref 50), (1, .int 1), (2, .int (nB om))] [.int (bif om then (μ.1 50 42) + 1 else 0), .ref 50] (z_ui (z_ui (z_ui μ 50 44 0) 50 49 (-1)) 50 52 ((μ.1 50 52) + 1)) := by
              refine zq_pfi hc hH (by rfl) (ci := 6) (f := 42) (by rfl) (by decide +kernel) (by rfl) ?_
              show Z 0 222 [(4, .int 0), (3, .int (nB ((((!(decide (0 ≤ (μ.1 61 0)))) || (!(decide (0 ≤ (μ.1 61 1))))) || (!(decide (0 ≤ (μ.1 61 2))))) || (!(decide (0 ≤ (μ.1 61 3))))))), (0, .ref 50), (1, .int 1), (2, .int (nB om))] [] (z_ui (z_ui (z_ui (z_ui μ 50 44 0) 50 49 (-1)) 50 52 ((μ.1 50 52) + 1)) 50 42 (bif om then (μ.1 50 42) + 1 else 0))
              exact hr 0 222 _ _ _ none (by decide +kernel) (by rfl) (⟨rfl, (by unfold eM1; simp only [h5, cond_true, cond_false])⟩)
            refine zq_if hc hH (by rfl) (tg := 218) (by rfl) (fun h14 => ?_) (fun h14 => ?_)
            · have h14 : (om) = false := nB_z.mp (cm_eq9.mp h14)
              refine z_rcs hc hH 1 (pc' := 219) (lv' := [(4, .int 0), (3, .int (nB ((((!(decide (0 ≤ (μ.1 61 0)))) || (!(decide (0 ≤ (μ.1 61 1))))) || (!(decide (0 ≤ (μ.1 61 2))))) || (!(decide (0 ≤ (μ.1 61 3))))))), (0, .ref 50), (1, .int 1), (2, .int (nB om))]) (st' := [.int 0, .ref 50]) (μ' := z_ui (z_ui (z_ui μ 50 44 0) 50 49 (-1)) 50 52 ((μ.1 50 52) + 1)) (by rfl) ?_
              exact zJ hJ13 rfl (by first | with_reducible rfl | (simp only [h14, lb_f, Int64.or_zero, Int32.add_zero, nB_t, nB_f, Bool.not_true, Bool.not_false, Bool.and_true, Bool.true_and, Bool.false_and, Bool.and_false, Bool.or_true, Bool.true_or, Bool.false_or, Bool.or_false, cond_true, cond_false]; done) | rfl) rfl
            · have h14 : (om) = true := nB_n.mp (cn_eq.mp h14)
              refine z_rcs0 hc hH 1 (pc' := 210) (lv' := [(4, .int 0), (3, .int (nB ((((!(decide (0 ≤ (μ.1 61 0)))) || (!(decide (0 ≤ (μ.1 61 1))))) || (!(decide (0 ≤ (μ.1 61 2))))) || (!(decide (0 ≤ (μ.1 61 3))))))), (0, .ref 50), (1, .int 1), (2, .int (nB om))]) (st' := [.ref 50, .ref 50]) (by rfl) ?_
              refine zq_gfi hc hH (by rfl) (ci := 6) (f := 42) (by rfl) (by decide +kernel) (by rfl) ?_
              refine zV1 (Z := Z) (Eq.trans (ui_k (by first | decide | omega)) (Eq.trans (ui_k (by first | decide | omega)) (ui_k (by first | decide | omega)))) ?_
              refine z_rcs0 hc hH 3 (pc' := 219) (lv' := [(4, .int 0), (3, .int (nB ((((!(decide (0 ≤ (μ.1 61 0)))) || (!(decide (0 ≤ (μ.1 61 1))))) || (!(decide (0 ≤ (μ.1 61 2))))) || (!(decide (0 ≤ (μ.1 61 3))))))), (0, .ref 50), (1, .int 1), (2, .int (nB om))]) (st' := [.int ((μ.1 50 42) + 1), .ref 50]) (by rfl) ?_
              exact zJ hJ13 rfl (by first | with_reducible rfl | (simp only [h14, lb_f, Int64.or_zero, Int32.add_zero, nB_t, nB_f, Bool.not_true, Bool.not_false, Bool.and_true, Bool.true_and, Bool.false_and, Bool.and_false, Bool.or_true, Bool.true_or, Bool.false_or, Bool.or_false, cond_true, cond_false]; done) | rfl) rfl
        refine zq_if hc hH (by rfl) (tg := 45) (by rfl) (fun h15 => ?_) (fun h15 => ?_)
        · have h15 : (((!(decide (0 ≤ (μ.1 61 0)))) || (!(decide (0 ≤ (μ.1 61 1))))) || (!(decide (0 ≤ (μ.1 61 2))))) = true := nB_n.mp (cm_ne.mp h15)
          refine z_rcs0 hc hH 2 (pc' := 50) (lv' := [(4, .int 3), (3, .int (nB (((!(decide (0 ≤ (μ.1 61 0)))) || (!(decide (0 ≤ (μ.1 61 1))))) || (!(decide (0 ≤ (μ.1 61 2))))))), (0, .ref 50), (1, .int 1), (2, .int (nB om))]) (st' := [.int 1]) (by rfl) ?_
          exact zJ hJ4 rfl (by first | with_reducible rfl | (simp only [h15, lb_f, Int64.or_zero, Int32.add_zero, nB_t, nB_f, Bool.not_true, Bool.not_false, Bool.and_true, Bool.true_and, Bool.false_and, Bool.and_false, Bool.or_true, Bool.true_or, Bool.false_or, Bool.or_false, cond_true, cond_false]; done) | rfl) rfl
        · have h15 : (((!(decide (0 ≤ (μ.1 61 0)))) || (!(decide (0 ≤ (μ.1 61 1))))) || (!(decide (0 ≤ (μ.1 61 2))))) = false := nB_z.mp (cn_ne.mp h15)
          refine z_rcs0 hc hH 1 (pc' := 36) (lv' := [(4, .int 3), (3, .int (nB (((!(decide (0 ≤ (μ.1 61 0)))) || (!(decide (0 ≤ (μ.1 61 1))))) || (!(decide (0 ≤ (μ.1 61 2))))))), (0, .ref 50), (1, .int 1), (2, .int (nB om))]) (st' := [.ref 50]) (by rfl) ?_
          refine zq_gfr hc hH (by rfl) (ci := 6) (f := 29) (q := 61) (by rfl) (by decide +kernel) (by rfl) (by decide +kernel) ?_
          refine z_rcs0 hc hH 1 (pc' := 41) (lv' := [(4, .int 3), (3, .int (nB (((!(decide (0 ≤ (μ.1 61 0)))) || (!(decide (0 ≤ (μ.1 61 1))))) || (!(decide (0 ≤ (μ.1 61 2))))))), (0, .ref 50), (1, .int 1), (2, .int (nB om))]) (st' := [.int 3, .ref 61]) (by rfl) ?_
          refine zq_iald hc hH (by rfl) 4 (oka_i (by decide +kernel)) (show vp_in (nI 3) 4 from vp_in_nI (by decide) (by decide)) ?_
          rw [show (3 : Int32).toNatClampNeg = 3 from rfl]
          refine zV1 (Z := Z) (Eq.trans (ui_o (by first | decide | omega)) (Eq.trans (ui_o (by first | decide | omega)) (ui_o (by first | decide | omega)))) ?_
          refine zq_if hc hH (by rfl) (tg := 49) (by rfl) (fun h16 => ?_) (fun h16 => ?_)
          · have h16 : (decide (0 ≤ (μ.1 61 3))) = true := decide_eq_true (cm_ge.mp h16)
            refine z_rcs0 hc hH 1 (pc' := 50) (lv' := [(4, .int 3), (3, .int (nB (((!(decide (0 ≤ (μ.1 61 0)))) || (!(decide (0 ≤ (μ.1 61 1))))) || (!(decide (0 ≤ (μ.1 61 2))))))), (0, .ref 50), (1, .int 1), (2, .int (nB om))]) (st' := [.int 0]) (by rfl) ?_
            exact zJ hJ4 rfl (by first | with_reducible rfl | (simp only [h15, h16, lb_f, Int64.or_zero, Int32.add_zero, nB_t, nB_f, Bool.not_true, Bool.not_false, Bool.and_true, Bool.true_and, Bool.false_and, Bool.and_false, Bool.or_true, Bool.true_or, Bool.false_or, Bool.or_false, cond_true, cond_false]; done) | rfl) rfl
          · have h16 : (decide (0 ≤ (μ.1 61 3))) = false := decide_eq_false (cn_ge.mp h16)
            refine z_rcs0 hc hH 2 (pc' := 50) (lv' := [(4, .int 3), (3, .int (nB (((!(decide (0 ≤ (μ.1 61 0)))) || (!(decide (0 ≤ (μ.1 61 1))))) || (!(decide (0 ≤ (μ.1 61 2))))))), (0, .ref 50), (1, .int 1), (2, .int (nB om))]) (st' := [.int 1]) (by rfl) ?_
            exact zJ hJ4 rfl (by first | with_reducible rfl | (simp only [h15, h16, lb_f, Int64.or_zero, Int32.add_zero, nB_t, nB_f, Bool.not_true, Bool.not_false, Bool.and_true, Bool.true_and, Bool.false_and, Bool.and_false, Bool.or_true, Bool.true_or, Bool.false_or, Bool.or_false, cond_true, cond_false]; done) | rfl) rfl
      refine zq_if hc hH (by rfl) (tg := 45) (by rfl) (fun h17 => ?_) (fun h17 => ?_)
      · have h17 : ((!(decide (0 ≤ (μ.1 61 0)))) || (!(decide (0 ≤ (μ.1 61 1))))) = true := nB_n.mp (cm_ne.mp h17)
        refine z_rcs0 hc hH 2 (pc' := 50) (lv' := [(4, .int 2), (3, .int (nB ((!(decide (0 ≤ (μ.1 61 0)))) || (!(decide (0 ≤ (μ.1 61 1))))))), (0, .ref 50), (1, .int 1), (2, .int (nB om))]) (st' := [.int 1]) (by rfl) ?_
        exact zJ hJ3 rfl (by first | with_reducible rfl | (simp only [h17, lb_f, Int64.or_zero, Int32.add_zero, nB_t, nB_f, Bool.not_true, Bool.not_false, Bool.and_true, Bool.true_and, Bool.false_and, Bool.and_false, Bool.or_true, Bool.true_or, Bool.false_or, Bool.or_false, cond_true, cond_false]; done) | rfl) rfl
      · have h17 : ((!(decide (0 ≤ (μ.1 61 0)))) || (!(decide (0 ≤ (μ.1 61 1))))) = false := nB_z.mp (cn_ne.mp h17)
        refine z_rcs0 hc hH 1 (pc' := 36) (lv' := [(4, .int 2), (3, .int (nB ((!(decide (0 ≤ (μ.1 61 0)))) || (!(decide (0 ≤ (μ.1 61 1))))))), (0, .ref 50), (1, .int 1), (2, .int (nB om))]) (st' := [.ref 50]) (by rfl) ?_
        refine zq_gfr hc hH (by rfl) (ci := 6) (f := 29) (q := 61) (by rfl) (by decide +kernel) (by rfl) (by decide +kernel) ?_
        refine z_rcs0 hc hH 1 (pc' := 41) (lv' := [(4, .int 2), (3, .int (nB ((!(decide (0 ≤ (μ.1 61 0)))) || (!(decide (0 ≤ (μ.1 61 1))))))), (0, .ref 50), (1, .int 1), (2, .int (nB om))]) (st' := [.int 2, .ref 61]) (by rfl) ?_
        refine zq_iald hc hH (by rfl) 4 (oka_i (by decide +kernel)) (show vp_in (nI 2) 4 from vp_in_nI (by decide) (by decide)) ?_
        rw [show (2 : Int32).toNatClampNeg = 2 from rfl]
        refine zV1 (Z := Z) (Eq.trans (ui_o (by first | decide | omega)) (Eq.trans (ui_o (by first | decide | omega)) (ui_o (by first | decide | omega)))) ?_
        refine zq_if hc hH (by rfl) (tg := 49) (by rfl) (fun h18 => ?_) (fun h18 => ?_)
        · have h18 : (decide (0 ≤ (μ.1 61 2))) = true := decide_eq_true (cm_ge.mp h18)
          refine z_rcs0 hc hH 1 (pc' := 50) (lv' := [(4, .int 2), (3, .int (nB ((!(decide (0 ≤ (μ.1 61 0)))) || (!(decide (0 ≤ (μ.1 61 1))))))), (0, .ref 50), (1, .int 1), (2, .int (nB om))]) (st' := [.int 0]) (by rfl) ?_
          exact zJ hJ3 rfl (by first | with_reducible rfl | (simp only [h17, h18, lb_f, Int64.or_zero, Int32.add_zero, nB_t, nB_f, Bool.not_true, Bool.not_false, Bool.and_true, Bool.true_and, Bool.false_and, Bool.and_false, Bool.or_true, Bool.true_or, Bool.false_or, Bool.or_false, cond_true, cond_false]; done) | rfl) rfl
        · have h18 : (decide (0 ≤ (μ.1 61 2))) = false := decide_eq_false (cn_ge.mp h18)
          refine z_rcs0 hc hH 2 (pc' := 50) (lv' := [(4, .int 2), (3, .int (nB ((!(decide (0 ≤ (μ.1 61 0)))) || (!(decide (0 ≤ (μ.1 61 1))))))), (0, .ref 50), (1, .int 1), (2, .int (nB om))]) (st' := [.int 1]) (by rfl) ?_
          exact zJ hJ3 rfl (by first | with_reducible rfl | (simp only [h17, h18, lb_f, Int64.or_zero, Int32.add_zero, nB_t, nB_f, Bool.not_true, Bool.not_false, Bool.and_true, Bool.true_and, Bool.false_and, Bool.and_false, Bool.or_true, Bool.true_or, Bool.false_or, Bool.or_false, cond_true, cond_false]; done) | rfl) rfl
    refine zq_if hc hH (by rfl) (tg := 45) (by rfl) (fun h19 => ?_) (fun h19 => ?_)
    · have h19 : (!(decide (0 ≤ (μ.1 61 0)))) = true := nB_n.mp (cm_ne.mp h19)
      refine z_rcs0 hc hH 2 (pc' := 50) (lv' := [(4, .int 1), (3, .int (nB (!(decide (0 ≤ (μ.1 61 0)))))), (0, .ref 50), (1, .int 1), (2, .int (nB om))]) (st' := [.int 1]) (by rfl) ?_
      exact zJ hJ2 rfl (by first | with_reducible rfl | (simp only [h19, lb_f, Int64.or_zero, Int32.add_zero, nB_t, nB_f, Bool.not_true, Bool.not_false, Bool.and_true, Bool.true_and, Bool.false_and, Bool.and_false, Bool.or_true, Bool.true_or, Bool.false_or, Bool.or_false, cond_true, cond_false]; done) | rfl) rfl
    · have h19 : (!(decide (0 ≤ (μ.1 61 0)))) = false := nB_z.mp (cn_ne.mp h19)
      refine z_rcs0 hc hH 1 (pc' := 36) (lv' := [(4, .int 1), (3, .int (nB (!(decide (0 ≤ (μ.1 61 0)))))), (0, .ref 50), (1, .int 1), (2, .int (nB om))]) (st' := [.ref 50]) (by rfl) ?_
      refine zq_gfr hc hH (by rfl) (ci := 6) (f := 29) (q := 61) (by rfl) (by decide +kernel) (by rfl) (by decide +kernel) ?_
      refine z_rcs0 hc hH 1 (pc' := 41) (lv' := [(4, .int 1), (3, .int (nB (!(decide (0 ≤ (μ.1 61 0)))))), (0, .ref 50), (1, .int 1), (2, .int (nB om))]) (st' := [.int 1, .ref 61]) (by rfl) ?_
      refine zq_iald hc hH (by rfl) 4 (oka_i (by decide +kernel)) (show vp_in (nI 1) 4 from vp_in_nI (by decide) (by decide)) ?_
      rw [show (1 : Int32).toNatClampNeg = 1 from rfl]
      refine zV1 (Z := Z) (Eq.trans (ui_o (by first | decide | omega)) (Eq.trans (ui_o (by first | decide | omega)) (ui_o (by first | decide | omega)))) ?_
      refine zq_if hc hH (by rfl) (tg := 49) (by rfl) (fun h20 => ?_) (fun h20 => ?_)
      · have h20 : (decide (0 ≤ (μ.1 61 1))) = true := decide_eq_true (cm_ge.mp h20)
        refine z_rcs0 hc hH 1 (pc' := 50) (lv' := [(4, .int 1), (3, .int (nB (!(decide (0 ≤ (μ.1 61 0)))))), (0, .ref 50), (1, .int 1), (2, .int (nB om))]) (st' := [.int 0]) (by rfl) ?_
        exact zJ hJ2 rfl (by first | with_reducible rfl | (simp only [h19, h20, lb_f, Int64.or_zero, Int32.add_zero, nB_t, nB_f, Bool.not_true, Bool.not_false, Bool.and_true, Bool.true_and, Bool.false_and, Bool.and_false, Bool.or_true, Bool.true_or, Bool.false_or, Bool.or_false, cond_true, cond_false]; done) | rfl) rfl
      · have h20 : (decide (0 ≤ (μ.1 61 1))) = false := decide_eq_false (cn_ge.mp h20)
        refine z_rcs0 hc hH 2 (pc' := 50) (lv' := [(4, .int 1), (3, .int (nB (!(decide (0 ≤ (μ.1 61 0)))))), (0, .ref 50), (1, .int 1), (2, .int (nB om))]) (st' := [.int 1]) (by rfl) ?_
        exact zJ hJ2 rfl (by first | with_reducible rfl | (simp only [h19, h20, lb_f, Int64.or_zero, Int32.add_zero, nB_t, nB_f, Bool.not_true, Bool.not_false, Bool.and_true, Bool.true_and, Bool.false_and, Bool.and_false, Bool.or_true, Bool.true_or, Bool.false_or, Bool.or_false, cond_true, cond_false]; done) | rfl) rfl
  refine zq_if hc hH (by rfl) (tg := 49) (by rfl) (fun h21 => ?_) (fun h21 => ?_)
  · have h21 : (decide (0 ≤ (μ.1 61 0))) = true := decide_eq_true (cm_ge.mp h21)
    refine z_rcs0 hc hH 1 (pc' := 50) (lv' := [(4, .int 0), (3, .int 0), (0, .ref 50), (1, .int 1), (2, .int (nB om))]) (st' := [.int 0]) (by rfl) ?_
    exact zJ hJ1 rfl (by first | with_reducible rfl | (simp only [h21, lb_f, Int64.or_zero, Int32.add_zero, nB_t, nB_f, Bool.not_true, Bool.not_false, Bool.and_true, Bool.true_and, Bool.false_and, Bool.and_false, Bool.or_true, Bool.true_or, Bool.false_or, Bool.or_false, cond_true, cond_false]; done) | rfl) rfl
  · have h21 : (decide (0 ≤ (μ.1 61 0))) = false := decide_eq_false (cn_ge.mp h21)
    refine z_rcs0 hc hH 2 (pc' := 50) (lv' := [(4, .int 0), (3, .int 0), (0, .ref 50), (1, .int 1), (2, .int (nB om))]) (st' := [.int 1]) (by rfl) ?_
    exact zJ hJ1 rfl (by first | with_reducible rfl | (simp only [h21, lb_f, Int64.or_zero, Int32.add_zero, nB_t, nB_f, Bool.not_true, Bool.not_false, Bool.and_true, Bool.true_and, Bool.false_and, Bool.and_false, Bool.or_true, Bool.true_or, Bool.false_or, Bool.or_false, cond_true, cond_false]; done) | rfl) rfl
/-! the game: over of the reference -/
set_option maxRecDepth 8000
/-- but for the reference's scratch cells -/
noncomputable def SMj (M W : zM) : Prop := ∀ r k, (r < 50 ∨ 58 < r ∨ (r = 50 ∧ (k = 0 ∨ 40 ≤ k))) → W.1 r k = M.1 r k ∧ W.2.1 r k = M.2.1 r k
theorem SM_rf (μ : zM) : SMj μ μ := fun _ _ _ => ⟨rfl, rfl⟩
theorem SM_tr {a b c : zM} (h : SMj a b) (h2 : SMj b c) : SMj a c := fun r k q => ⟨((h2 r k q).1).trans (h r k q).1, ((h2 r k q).2).trans (h r k q).2⟩
theorem SM_ui {a b : zM} (h : SMj a b) {r k : Nat} {x : Int32} : SMj (z_ui a r k x) (z_ui b r k x) := fun r' k' q => ⟨by
  by_cases e : r' = r
  · by_cases e2 : k' = k
    · rw [e, e2, ui_s, ui_s]
    · rw [ui_k e2, ui_k e2]; exact (h r' k' q).1
  · rw [ui_o e, ui_o e]; exact (h r' k' q).1, (h r' k' q).2⟩
noncomputable def lgM (μ : zM) (s : Nat) (c : Bool) : zM := bif c then z_ui μ 70 s 1 else μ
theorem SM_lg {a b : zM} (h : SMj a b) {s : Nat} {c : Bool} : SMj (lgM a s c) (lgM b s c) := by
  unfold lgM; cases c
  · exact h
  · exact SM_ui h
theorem lgM_o {μ : zM} {s r k : Nat} {c : Bool} (h : r ≠ 70) : (lgM μ s c).1 r k = μ.1 r k := by
  unfold lgM; cases c
  · rfl
  · exact ui_o h
theorem lgM_j {μ : zM} {s r k : Nat} {c : Bool} : (lgM μ s c).2.1 r k = μ.2.1 r k := by unfold lgM; cases c <;> rfl
/-- hands and SETS as before -/
noncomputable def SE (M W : zM) : Prop := ∀ r k, (r = 60 ∨ r = 62 ∨ r = 63 ∨ r = 64) → W.1 r k = M.1 r k
theorem SE_rf (μ : zM) : SE μ μ := fun _ _ _ => rfl
theorem SE_sm {a b c : zM} (h : SE a b) (h2 : SMj b c) : SE a c := fun r k q => ((h2 r k (by omega)).1).trans (h r k q)
theorem SE_ui {a b : zM} (h : SE a b) {r k : Nat} {x : Int32} (hr : r ≠ 60 ∧ r ≠ 62 ∧ r ≠ 63 ∧ r ≠ 64) : SE a (z_ui b r k x) := fun r' k' q => (ui_o (by first | decide | omega)).trans (h r' k' q)
theorem a_H_lg {μ : zM} (h : a_H μ) {s : Nat} {c : Bool} : a_H (lgM μ s c) := by
  unfold lgM; cases c
  · exact h
  · exact a_H_ui h (show bI 0 1 1 from ⟨by decide, by decide⟩)
theorem SE_lg {a b : zM} (h : SE a b) {s : Nat} {c : Bool} : SE a (lgM b s c) := fun r' k' q => (lgM_o (by first | decide | omega)).trans (h r' k' q)
noncomputable def ovM0 (μ : zM) (c : Nat) (w1 w2 w3 : Int64) : zM := bif decide ((μ.1 50 59) = 0) then lgM (lgM (lgM μ 1 (decide (lg_cmp ((w1 >>> ((nI c).toInt64 &&& 63)) &&& 1) 1 = 0))) 2 (decide (lg_cmp ((w2 >>> ((nI c).toInt64 &&& 63)) &&& 1) 1 = 0))) 3 (decide (lg_cmp ((w3 >>> ((nI c).toInt64 &&& 63)) &&& 1) 1 = 0)) else lgM (lgM (lgM (z_ui (z_ui (z_ui μ 61 0 ((μ.1 61 0) - 1000)) 50 43 ((μ.1 50 43) + 1)) 50 59 0) 1 (decide (lg_cmp ((w1 >>> ((nI c).toInt64 &&& 63)) &&& 1) 1 = 0))) 2 (decide (lg_cmp ((w2 >>> ((nI c).toInt64 &&& 63)) &&& 1) 1 = 0))) 3 (decide (lg_cmp ((w3 >>> ((nI c).toInt64 &&& 63)) &&& 1) 1 = 0))
theorem gm_over0 (d : Nat) (hd : 700 ≤ d) (μ : zM) (hH0 : a_H μ) (c : Nat) (hc49 : μ.1 50 49 = nI c) (ht : μ.1 50 45 = 0) (w1 : Int64) (hw1 : ∀ M, SE μ M → a_H M → ∀ d, 699 ≤ d → z_C d mi_X7_waitsAt [.ref 50, .int 1] M (fun r W => r = some (.long w1) ∧ SMj M W ∧ a_H W)) (w2 : Int64) (hw2 : ∀ M, SE μ M → a_H M → ∀ d, 699 ≤ d → z_C d mi_X7_waitsAt [.ref 50, .int 2] M (fun r W => r = some (.long w2) ∧ SMj M W ∧ a_H W)) (w3 : Int64) (hw3 : ∀ M, SE μ M → a_H M → ∀ d, 699 ≤ d → z_C d mi_X7_waitsAt [.ref 50, .int 3] M (fun r W => r = some (.long w3) ∧ SMj M W ∧ a_H W)) : z_C d mi_X7_over [.ref 50] μ (fun r μ' => r = none ∧ SMj (ovM0 μ c w1 w2 w3) μ') := by
  refine z_C_in (by decide) (by omega) (fun d' Z ed hc hr => ?_)
  have hH : zH mi_X7_over zt_X7_over 79 7 2 := hh_X7_over
  refine z_rcs hc hH 1 (pc' := 1) (lv' := [(0, .ref 50)]) (st' := [.ref 50]) (μ' := μ) (by rfl) ?_
  refine zq_gfi hc hH (by rfl) (ci := 6) (f := 59) (by rfl) (by decide +kernel) (by rfl) ?_
  refine zq_if hc hH (by rfl) (tg := 37) (by rfl) (fun h1 => ?_) (fun h1 => ?_)
  · have h1 : (decide ((μ.1 50 59) = 0)) = true := decide_eq_true (cm_eq9.mp h1)
    refine z_rcs hc hH 7 (pc' := 46) (lv' := [(1, .int 0), (0, .ref 50)]) (st' := [.ref 50, .int 0]) (μ' := μ) (by rfl) ?_
    refine zq_gfi hc hH (by rfl) (ci := 6) (f := 45) (by rfl) (by decide +kernel) (by rfl) ?_
    rw [ht]
    refine z_rcs hc hH 8 (pc' := 46) (lv' := [(1, .int 1), (0, .ref 50)]) (st' := [.ref 50, .int 1]) (μ' := μ) (by rfl) ?_
    refine zq_gfi hc hH (by rfl) (ci := 6) (f := 45) (by rfl) (by decide +kernel) (by rfl) ?_
    rw [ht]
    refine z_rcs hc hH 3 (pc' := 54) (lv' := [(1, .int 1), (0, .ref 50)]) (st' := [.int 1, .ref 50]) (μ' := μ) (by rfl) ?_
    refine zq_call hc (z_cx_ok hH (by rfl)) (hw1 _ (SE_rf _) (hH0) d' (by omega)) (by decide +kernel) (fun r9 W1 hq => ?_)
    obtain ⟨rfl, hO1, hA1⟩ := hq
    show Z 0 57 [(1, .int 1), (0, .ref 50)] [.long w1] W1
    refine z_rcs hc hH 1 (pc' := 58) (lv' := [(1, .int 1), (0, .ref 50)]) (st' := [.ref 50, .long w1]) (μ' := W1) (by rfl) ?_
    refine zq_gfi hc hH (by rfl) (ci := 6) (f := 49) (by rfl) (by decide +kernel) (by rfl) ?_
    rw [(hO1 _ _ (by omega)).1]
    rw [hc49]
    refine z_rcs hc hH 5 (pc' := 66) (lv' := [(1, .int 1), (0, .ref 50)]) (st' := [.int (lg_cmp ((w1 >>> ((nI c).toInt64 &&& 63)) &&& 1) 1)]) (μ' := W1) (by rfl) ?_
    have hJ2 : Z 0 76 [(1, .int 1), (0, .ref 50)] [] (lgM W1 1 (decide (lg_cmp ((w1 >>> ((nI c).toInt64 &&& 63)) &&& 1) 1 = 0))) := by
      refine z_rcs0 hc hH 7 (pc' := 46) (lv' := [(1, .int 2), (0, .ref 50)]) (st' := [.ref 50, .int 2]) (by rfl) ?_
      refine zq_gfi hc hH (by rfl) (ci := 6) (f := 45) (by rfl) (by decide +kernel) (by rfl) ?_
      rw [lgM_o (by first | decide | omega), (hO1 _ _ (by omega)).1]
      rw [ht]
      refine z_rcs0 hc hH 3 (pc' := 54) (lv' := [(1, .int 2), (0, .ref 50)]) (st' := [.int 2, .ref 50]) (by rfl) ?_
      refine zq_call hc (z_cx_ok hH (by rfl)) (hw2 _ (SE_lg (SE_sm (SE_rf _) hO1)) (a_H_lg (hA1)) d' (by omega)) (by decide +kernel) (fun r9 W2 hq => ?_)
      obtain ⟨rfl, hO2, hA2⟩ := hq
      show Z 0 57 [(1, .int 2), (0, .ref 50)] [.long w2] W2
      refine z_rcs hc hH 1 (pc' := 58) (lv' := [(1, .int 2), (0, .ref 50)]) (st' := [.ref 50, .long w2]) (μ' := W2) (by rfl) ?_
      refine zq_gfi hc hH (by rfl) (ci := 6) (f := 49) (by rfl) (by decide +kernel) (by rfl) ?_
      rw [(hO2 _ _ (by omega)).1, lgM_o (by first | decide | omega), (hO1 _ _ (by omega)).1]
      rw [hc49]
      refine z_rcs hc hH 5 (pc' := 66) (lv' := [(1, .int 2), (0, .ref 50)]) (st' := [.int (lg_cmp ((w2 >>> ((nI c).toInt64 &&& 63)) &&& 1) 1)]) (μ' := W2) (by rfl) ?_
      have hJ3 : Z 0 76 [(1, .int 2), (0, .ref 50)] [] (lgM W2 2 (decide (lg_cmp ((w2 >>> ((nI c).toInt64 &&& 63)) &&& 1) 1 = 0))) := by
        refine z_rcs0 hc hH 7 (pc' := 46) (lv' := [(1, .int 3), (0, .ref 50)]) (st' := [.ref 50, .int 3]) (by rfl) ?_
        refine zq_gfi hc hH (by rfl) (ci := 6) (f := 45) (by rfl) (by decide +kernel) (by rfl) ?_
        rw [lgM_o (by first | decide | omega), (hO2 _ _ (by omega)).1, lgM_o (by first | decide | omega), (hO1 _ _ (by omega)).1]
        rw [ht]
        refine z_rcs0 hc hH 3 (pc' := 54) (lv' := [(1, .int 3), (0, .ref 50)]) (st' := [.int 3, .ref 50]) (by rfl) ?_
        refine zq_call hc (z_cx_ok hH (by rfl)) (hw3 _ (SE_lg (SE_sm (SE_lg (SE_sm (SE_rf _) hO1)) hO2)) (a_H_lg (hA2)) d' (by omega)) (by decide +kernel) (fun r9 W3 hq => ?_)
        obtain ⟨rfl, hO3, hA3⟩ := hq
        show Z 0 57 [(1, .int 3), (0, .ref 50)] [.long w3] W3
        refine z_rcs hc hH 1 (pc' := 58) (lv' := [(1, .int 3), (0, .ref 50)]) (st' := [.ref 50, .long w3]) (μ' := W3) (by rfl) ?_
        refine zq_gfi hc hH (by rfl) (ci := 6) (f := 49) (by rfl) (by decide +kernel) (by rfl) ?_
        rw [(hO3 _ _ (by omega)).1, lgM_o (by first | decide | omega), (hO2 _ _ (by omega)).1, lgM_o (by first | decide | omega), (hO1 _ _ (by omega)).1]
        rw [hc49]
        refine z_rcs hc hH 5 (pc' := 66) (lv' := [(1, .int 3), (0, .ref 50)]) (st' := [.int (lg_cmp ((w3 >>> ((nI c).toInt64 &&& 63)) &&& 1) 1)]) (μ' := W3) (by rfl) ?_
        have hJ4 : Z 0 76 [(1, .int 3), (0, .ref 50)] [] (lgM W3 3 (decide (lg_cmp ((w3 >>> ((nI c).toInt64 &&& 63)) &&& 1) 1 = 0))) := by
          refine z_rcs0 hc hH 5 (pc' := 82) (lv' := [(1, .int 4), (0, .ref 50)]) (st' := []) (by rfl) ?_
          exact hr 0 82 _ _ _ none (by decide +kernel) (by rfl) (⟨rfl, by unfold ovM0; rw [h1, cond_true]; exact SM_lg (SM_tr (SM_lg (SM_tr (SM_lg (SM_tr (SM_rf _) hO1)) hO2)) hO3)⟩)
        refine zq_if hc hH (by rfl) (tg := 76) (by rfl) (fun h5 => ?_) (fun h5 => ?_)
        · have h5 : (decide ((lg_cmp ((w3 >>> ((nI c).toInt64 &&& 63)) &&& 1) 1) = 0)) = false := decide_eq_false (cm_ne.mp h5)
          exact zJ hJ4 rfl rfl (by unfold lgM; rw [h5, cond_false])
        · have h5 : (decide ((lg_cmp ((w3 >>> ((nI c).toInt64 &&& 63)) &&& 1) 1) = 0)) = true := decide_eq_true (cn_ne.mp h5)
          refine z_rcs hc hH 1 (pc' := 70) (lv' := [(1, .int 3), (0, .ref 50)]) (st' := [.ref 50]) (μ' := W3) (by rfl) ?_
          refine zq_gfr hc hH (by rfl) (ci := 6) (f := 38) (q := 70) (by rfl) (by decide +kernel) (by rfl) (by decide +kernel) ?_
          refine z_rcs hc hH 2 (pc' := 75) (lv' := [(1, .int 3), (0, .ref 50)]) (st' := [.int 1, .int 3, .ref 70]) (μ' := W3) (by rfl) ?_
          refine zq_bast hc hH (by rfl) 4 (by decide +kernel) (show vp_in (nI 3) 4 from vp_in_nI (by decide) (by decide)) (by decide) ?_
          rw [show (3 : Int32).toNatClampNeg = 3 from rfl]
          show Z 0 76 [(1, .int 3), (0, .ref 50)] [] (z_ui W3 70 3 1)
          exact zJ hJ4 rfl rfl (by unfold lgM; rw [h5, cond_true])
      refine zq_if hc hH (by rfl) (tg := 76) (by rfl) (fun h6 => ?_) (fun h6 => ?_)
      · have h6 : (decide ((lg_cmp ((w2 >>> ((nI c).toInt64 &&& 63)) &&& 1) 1) = 0)) = false := decide_eq_false (cm_ne.mp h6)
        exact zJ hJ3 rfl rfl (by unfold lgM; rw [h6, cond_false])
      · have h6 : (decide ((lg_cmp ((w2 >>> ((nI c).toInt64 &&& 63)) &&& 1) 1) = 0)) = true := decide_eq_true (cn_ne.mp h6)
        refine z_rcs hc hH 1 (pc' := 70) (lv' := [(1, .int 2), (0, .ref 50)]) (st' := [.ref 50]) (μ' := W2) (by rfl) ?_
        refine zq_gfr hc hH (by rfl) (ci := 6) (f := 38) (q := 70) (by rfl) (by decide +kernel) (by rfl) (by decide +kernel) ?_
        refine z_rcs hc hH 2 (pc' := 75) (lv' := [(1, .int 2), (0, .ref 50)]) (st' := [.int 1, .int 2, .ref 70]) (μ' := W2) (by rfl) ?_
        refine zq_bast hc hH (by rfl) 4 (by decide +kernel) (show vp_in (nI 2) 4 from vp_in_nI (by decide) (by decide)) (by decide) ?_
        rw [show (2 : Int32).toNatClampNeg = 2 from rfl]
        show Z 0 76 [(1, .int 2), (0, .ref 50)] [] (z_ui W2 70 2 1)
        exact zJ hJ3 rfl rfl (by unfold lgM; rw [h6, cond_true])
    refine zq_if hc hH (by rfl) (tg := 76) (by rfl) (fun h7 => ?_) (fun h7 => ?_)
    · have h7 : (decide ((lg_cmp ((w1 >>> ((nI c).toInt64 &&& 63)) &&& 1) 1) = 0)) = false := decide_eq_false (cm_ne.mp h7)
      exact zJ hJ2 rfl rfl (by unfold lgM; rw [h7, cond_false])
    · have h7 : (decide ((lg_cmp ((w1 >>> ((nI c).toInt64 &&& 63)) &&& 1) 1) = 0)) = true := decide_eq_true (cn_ne.mp h7)
      refine z_rcs hc hH 1 (pc' := 70) (lv' := [(1, .int 1), (0, .ref 50)]) (st' := [.ref 50]) (μ' := W1) (by rfl) ?_
      refine zq_gfr hc hH (by rfl) (ci := 6) (f := 38) (q := 70) (by rfl) (by decide +kernel) (by rfl) (by decide +kernel) ?_
      refine z_rcs hc hH 2 (pc' := 75) (lv' := [(1, .int 1), (0, .ref 50)]) (st' := [.int 1, .int 1, .ref 70]) (μ' := W1) (by rfl) ?_
      refine zq_bast hc hH (by rfl) 4 (by decide +kernel) (show vp_in (nI 1) 4 from vp_in_nI (by decide) (by decide)) (by decide) ?_
      rw [show (1 : Int32).toNatClampNeg = 1 from rfl]
      show Z 0 76 [(1, .int 1), (0, .ref 50)] [] (z_ui W1 70 1 1)
      exact zJ hJ2 rfl rfl (by unfold lgM; rw [h7, cond_true])
  · have h1 : (decide ((μ.1 50 59) = 0)) = false := decide_eq_false (cn_eq.mp h1)
    refine z_rcs hc hH 1 (pc' := 8) (lv' := [(0, .ref 50)]) (st' := [.ref 50]) (μ' := μ) (by rfl) ?_
    refine zq_gfr hc hH (by rfl) (ci := 6) (f := 29) (q := 61) (by rfl) (by decide +kernel) (by rfl) (by decide +kernel) ?_
    refine z_rcs hc hH 1 (pc' := 12) (lv' := [(0, .ref 50)]) (st' := [.ref 50, .ref 61]) (μ' := μ) (by rfl) ?_
    refine zq_gfi hc hH (by rfl) (ci := 6) (f := 45) (by rfl) (by decide +kernel) (by rfl) ?_
    rw [ht]
    refine z_rcs hc hH 1 (pc' := 16) (lv' := [(0, .ref 50)]) (st' := [.int 0, .ref 61, .int 0, .ref 61]) (μ' := μ) (by rfl) ?_
    refine zq_iald hc hH (by rfl) 4 (oka_i (by decide +kernel)) (show vp_in (nI 0) 4 from vp_in_nI (by decide) (by decide)) ?_
    rw [show (0 : Int32).toNatClampNeg = 0 from rfl]
    refine z_rcs hc hH 2 (pc' := 21) (lv' := [(0, .ref 50)]) (st' := [.int ((μ.1 61 0) - 1000), .int 0, .ref 61]) (μ' := μ) (by rfl) ?_
    refine zq_iast hc hH (by rfl) 4 (oka_i (by decide +kernel)).2 (show vp_in (nI 0) 4 from vp_in_nI (by decide) (by decide)) ?_
    rw [show (0 : Int32).toNatClampNeg = 0 from rfl]
    show Z 0 22 [(0, .ref 50)] [] (z_ui μ 61 0 ((μ.1 61 0) - 1000))
    refine z_rcs0 hc hH 2 (pc' := 24) (lv' := [(0, .ref 50)]) (st' := [.ref 50, .ref 50]) (by rfl) ?_
    refine zq_gfi hc hH (by rfl) (ci := 6) (f := 43) (by rfl) (by decide +kernel) (by rfl) ?_
    refine zV1 (Z := Z) (ui_o (by first | decide | omega)) ?_
    refine z_rcs0 hc hH 2 (pc' := 29) (lv' := [(0, .ref 50)]) (st' := [.int ((μ.1 50 43) + 1), .ref 50]) (by rfl) ?_
    refine zq_pfi hc hH (by rfl) (ci := 6) (f := 43) (by rfl) (by decide +kernel) (by rfl) ?_
    show Z 0 32 [(0, .ref 50)] [] (z_ui (z_ui μ 61 0 ((μ.1 61 0) - 1000)) 50 43 ((μ.1 50 43) + 1))
    refine z_rcs0 hc hH 2 (pc' := 34) (lv' := [(0, .ref 50)]) (st' := [.int 0, .ref 50]) (by rfl) ?_
    refine zq_pfb hc hH (by rfl) (ci := 6) (f := 59) (by rfl) (by decide +kernel) (by rfl) (by decide) ?_
    show Z 0 37 [(0, .ref 50)] [] (z_ui (z_ui (z_ui μ 61 0 ((μ.1 61 0) - 1000)) 50 43 ((μ.1 50 43) + 1)) 50 59 0)
    refine z_rcs0 hc hH 7 (pc' := 46) (lv' := [(1, .int 0), (0, .ref 50)]) (st' := [.ref 50, .int 0]) (by rfl) ?_
    refine zq_gfi hc hH (by rfl) (ci := 6) (f := 45) (by rfl) (by decide +kernel) (by rfl) ?_
    refine zV1 (Z := Z) (Eq.trans (ui_k (by first | decide | omega)) (Eq.trans (ui_k (by first | decide | omega)) (ui_o (by first | decide | omega)))) ?_
    rw [ht]
    refine z_rcs0 hc hH 8 (pc' := 46) (lv' := [(1, .int 1), (0, .ref 50)]) (st' := [.ref 50, .int 1]) (by rfl) ?_
    refine zq_gfi hc hH (by rfl) (ci := 6) (f := 45) (by rfl) (by decide +kernel) (by rfl) ?_
    refine zV1 (Z := Z) (Eq.trans (ui_k (by first | decide | omega)) (Eq.trans (ui_k (by first | decide | omega)) (ui_o (by first | decide | omega)))) ?_
    rw [ht]
    refine z_rcs0 hc hH 3 (pc' := 54) (lv' := [(1, .int 1), (0, .ref 50)]) (st' := [.int 1, .ref 50]) (by rfl) ?_
    refine zq_call hc (z_cx_ok hH (by rfl)) (hw1 _ (SE_ui (SE_ui (SE_ui (SE_rf _) (by omega)) (by omega)) (by omega)) (a_H_ui (r := 50) (k := 59) (a_H_ui (r := 50) (k := 43) (a_H_ui (r := 61) (k := 0) (hH0) (bI_top _)) (bI_top _)) ⟨by decide, by decide⟩) d' (by omega)) (by decide +kernel) (fun r9 W1 hq => ?_)
    obtain ⟨rfl, hO1, hA1⟩ := hq
    show Z 0 57 [(1, .int 1), (0, .ref 50)] [.long w1] W1
    refine z_rcs hc hH 1 (pc' := 58) (lv' := [(1, .int 1), (0, .ref 50)]) (st' := [.ref 50, .long w1]) (μ' := W1) (by rfl) ?_
    refine zq_gfi hc hH (by rfl) (ci := 6) (f := 49) (by rfl) (by decide +kernel) (by rfl) ?_
    refine zV1 (Z := Z) (Eq.trans (hO1 _ _ (by omega)).1 (Eq.trans (ui_k (by first | decide | omega)) (Eq.trans (ui_k (by first | decide | omega)) (ui_o (by first | decide | omega))))) ?_
    rw [hc49]
    refine z_rcs hc hH 5 (pc' := 66) (lv' := [(1, .int 1), (0, .ref 50)]) (st' := [.int (lg_cmp ((w1 >>> ((nI c).toInt64 &&& 63)) &&& 1) 1)]) (μ' := W1) (by rfl) ?_
    have hJ8 : Z 0 76 [(1, .int 1), (0, .ref 50)] [] (lgM W1 1 (decide (lg_cmp ((w1 >>> ((nI c).toInt64 &&& 63)) &&& 1) 1 = 0))) := by
      refine z_rcs0 hc hH 7 (pc' := 46) (lv' := [(1, .int 2), (0, .ref 50)]) (st' := [.ref 50, .int 2]) (by rfl) ?_
      refine zq_gfi hc hH (by rfl) (ci := 6) (f := 45) (by rfl) (by decide +kernel) (by rfl) ?_
      refine zV1 (Z := Z) (Eq.trans (lgM_o (by first | decide | omega)) (Eq.trans (hO1 _ _ (by omega)).1 (Eq.trans (ui_k (by first | decide | omega)) (Eq.trans (ui_k (by first | decide | omega)) (ui_o (by first | decide | omega)))))) ?_
      rw [ht]
      refine z_rcs0 hc hH 3 (pc' := 54) (lv' := [(1, .int 2), (0, .ref 50)]) (st' := [.int 2, .ref 50]) (by rfl) ?_
      refine zq_call hc (z_cx_ok hH (by rfl)) (hw2 _ (SE_lg (SE_sm (SE_ui (SE_ui (SE_ui (SE_rf _) (by omega)) (by omega)) (by omega)) hO1)) (a_H_lg (hA1)) d' (by omega)) (by decide +kernel) (fun r9 W2 hq => ?_)
      obtain ⟨rfl, hO2, hA2⟩ := hq
      show Z 0 57 [(1, .int 2), (0, .ref 50)] [.long w2] W2
      refine z_rcs hc hH 1 (pc' := 58) (lv' := [(1, .int 2), (0, .ref 50)]) (st' := [.ref 50, .long w2]) (μ' := W2) (by rfl) ?_
      refine zq_gfi hc hH (by rfl) (ci := 6) (f := 49) (by rfl) (by decide +kernel) (by rfl) ?_
      refine zV1 (Z := Z) (Eq.trans (hO2 _ _ (by omega)).1 (Eq.trans (lgM_o (by first | decide | omega)) (Eq.trans (hO1 _ _ (by omega)).1 (Eq.trans (ui_k (by first | decide | omega)) (Eq.trans (ui_k (by first | decide | omega)) (ui_o (by first | decide | omega))))))) ?_
      rw [hc49]
      refine z_rcs hc hH 5 (pc' := 66) (lv' := [(1, .int 2), (0, .ref 50)]) (st' := [.int (lg_cmp ((w2 >>> ((nI c).toInt64 &&& 63)) &&& 1) 1)]) (μ' := W2) (by rfl) ?_
      have hJ9 : Z 0 76 [(1, .int 2), (0, .ref 50)] [] (lgM W2 2 (decide (lg_cmp ((w2 >>> ((nI c).toInt64 &&& 63)) &&& 1) 1 = 0))) := by
        refine z_rcs0 hc hH 7 (pc' := 46) (lv' := [(1, .int 3), (0, .ref 50)]) (st' := [.ref 50, .int 3]) (by rfl) ?_
        refine zq_gfi hc hH (by rfl) (ci := 6) (f := 45) (by rfl) (by decide +kernel) (by rfl) ?_
        refine zV1 (Z := Z) (Eq.trans (lgM_o (by first | decide | omega)) (Eq.trans (hO2 _ _ (by omega)).1 (Eq.trans (lgM_o (by first | decide | omega)) (Eq.trans (hO1 _ _ (by omega)).1 (Eq.trans (ui_k (by first | decide | omega)) (Eq.trans (ui_k (by first | decide | omega)) (ui_o (by first | decide | omega)))))))) ?_
        rw [ht]
        refine z_rcs0 hc hH 3 (pc' := 54) (lv' := [(1, .int 3), (0, .ref 50)]) (st' := [.int 3, .ref 50]) (by rfl) ?_
        refine zq_call hc (z_cx_ok hH (by rfl)) (hw3 _ (SE_lg (SE_sm (SE_lg (SE_sm (SE_ui (SE_ui (SE_ui (SE_rf _) (by omega)) (by omega)) (by omega)) hO1)) hO2)) (a_H_lg (hA2)) d' (by omega)) (by decide +kernel) (fun r9 W3 hq => ?_)
        obtain ⟨rfl, hO3, hA3⟩ := hq
        show Z 0 57 [(1, .int 3), (0, .ref 50)] [.long w3] W3
        refine z_rcs hc hH 1 (pc' := 58) (lv' := [(1, .int 3), (0, .ref 50)]) (st' := [.ref 50, .long w3]) (μ' := W3) (by rfl) ?_
        refine zq_gfi hc hH (by rfl) (ci := 6) (f := 49) (by rfl) (by decide +kernel) (by rfl) ?_
        refine zV1 (Z := Z) (Eq.trans (hO3 _ _ (by omega)).1 (Eq.trans (lgM_o (by first | decide | omega)) (Eq.trans (hO2 _ _ (by omega)).1 (Eq.trans (lgM_o (by first | decide | omega)) (Eq.trans (hO1 _ _ (by omega)).1 (Eq.trans (ui_k (by first | decide | omega)) (Eq.trans (ui_k (by first | decide | omega)) (ui_o (by first | decide | omega))))))))) ?_
        rw [hc49]
        refine z_rcs hc hH 5 (pc' := 66) (lv' := [(1, .int 3), (0, .ref 50)]) (st' := [.int (lg_cmp ((w3 >>> ((nI c).toInt64 &&& 63)) &&& 1) 1)]) (μ' := W3) (by rfl) ?_
        have hJ10 : Z 0 76 [(1, .int 3), (0, .ref 50)] [] (lgM W3 3 (decide (lg_cmp ((w3 >>> ((nI c).toInt64 &&& 63)) &&& 1) 1 = 0))) := by
          refine z_rcs0 hc hH 5 (pc' := 82) (lv' := [(1, .int 4), (0, .ref 50)]) (st' := []) (by rfl) ?_
          exact hr 0 82 _ _ _ none (by decide +kernel) (by rfl) (⟨rfl, by unfold ovM0; rw [h1, cond_false]; exact SM_lg (SM_tr (SM_lg (SM_tr (SM_lg (SM_tr (SM_ui (SM_ui (SM_ui (SM_rf _)))) hO1)) hO2)) hO3)⟩)
        refine zq_if hc hH (by rfl) (tg := 76) (by rfl) (fun h11 => ?_) (fun h11 => ?_)
        · have h11 : (decide ((lg_cmp ((w3 >>> ((nI c).toInt64 &&& 63)) &&& 1) 1) = 0)) = false := decide_eq_false (cm_ne.mp h11)
          exact zJ hJ10 rfl rfl (by unfold lgM; rw [h11, cond_false])
        · have h11 : (decide ((lg_cmp ((w3 >>> ((nI c).toInt64 &&& 63)) &&& 1) 1) = 0)) = true := decide_eq_true (cn_ne.mp h11)
          refine z_rcs hc hH 1 (pc' := 70) (lv' := [(1, .int 3), (0, .ref 50)]) (st' := [.ref 50]) (μ' := W3) (by rfl) ?_
          refine zq_gfr hc hH (by rfl) (ci := 6) (f := 38) (q := 70) (by rfl) (by decide +kernel) (by rfl) (by decide +kernel) ?_
          refine z_rcs hc hH 2 (pc' := 75) (lv' := [(1, .int 3), (0, .ref 50)]) (st' := [.int 1, .int 3, .ref 70]) (μ' := W3) (by rfl) ?_
          refine zq_bast hc hH (by rfl) 4 (by decide +kernel) (show vp_in (nI 3) 4 from vp_in_nI (by decide) (by decide)) (by decide) ?_
          rw [show (3 : Int32).toNatClampNeg = 3 from rfl]
          show Z 0 76 [(1, .int 3), (0, .ref 50)] [] (z_ui W3 70 3 1)
          exact zJ hJ10 rfl rfl (by unfold lgM; rw [h11, cond_true])
      refine zq_if hc hH (by rfl) (tg := 76) (by rfl) (fun h12 => ?_) (fun h12 => ?_)
      · have h12 : (decide ((lg_cmp ((w2 >>> ((nI c).toInt64 &&& 63)) &&& 1) 1) = 0)) = false := decide_eq_false (cm_ne.mp h12)
        exact zJ hJ9 rfl rfl (by unfold lgM; rw [h12, cond_false])
      · have h12 : (decide ((lg_cmp ((w2 >>> ((nI c).toInt64 &&& 63)) &&& 1) 1) = 0)) = true := decide_eq_true (cn_ne.mp h12)
        refine z_rcs hc hH 1 (pc' := 70) (lv' := [(1, .int 2), (0, .ref 50)]) (st' := [.ref 50]) (μ' := W2) (by rfl) ?_
        refine zq_gfr hc hH (by rfl) (ci := 6) (f := 38) (q := 70) (by rfl) (by decide +kernel) (by rfl) (by decide +kernel) ?_
        refine z_rcs hc hH 2 (pc' := 75) (lv' := [(1, .int 2), (0, .ref 50)]) (st' := [.int 1, .int 2, .ref 70]) (μ' := W2) (by rfl) ?_
        refine zq_bast hc hH (by rfl) 4 (by decide +kernel) (show vp_in (nI 2) 4 from vp_in_nI (by decide) (by decide)) (by decide) ?_
        rw [show (2 : Int32).toNatClampNeg = 2 from rfl]
        show Z 0 76 [(1, .int 2), (0, .ref 50)] [] (z_ui W2 70 2 1)
        exact zJ hJ9 rfl rfl (by unfold lgM; rw [h12, cond_true])
    refine zq_if hc hH (by rfl) (tg := 76) (by rfl) (fun h13 => ?_) (fun h13 => ?_)
    · have h13 : (decide ((lg_cmp ((w1 >>> ((nI c).toInt64 &&& 63)) &&& 1) 1) = 0)) = false := decide_eq_false (cm_ne.mp h13)
      exact zJ hJ8 rfl rfl (by unfold lgM; rw [h13, cond_false])
    · have h13 : (decide ((lg_cmp ((w1 >>> ((nI c).toInt64 &&& 63)) &&& 1) 1) = 0)) = true := decide_eq_true (cn_ne.mp h13)
      refine z_rcs hc hH 1 (pc' := 70) (lv' := [(1, .int 1), (0, .ref 50)]) (st' := [.ref 50]) (μ' := W1) (by rfl) ?_
      refine zq_gfr hc hH (by rfl) (ci := 6) (f := 38) (q := 70) (by rfl) (by decide +kernel) (by rfl) (by decide +kernel) ?_
      refine z_rcs hc hH 2 (pc' := 75) (lv' := [(1, .int 1), (0, .ref 50)]) (st' := [.int 1, .int 1, .ref 70]) (μ' := W1) (by rfl) ?_
      refine zq_bast hc hH (by rfl) 4 (by decide +kernel) (show vp_in (nI 1) 4 from vp_in_nI (by decide) (by decide)) (by decide) ?_
      rw [show (1 : Int32).toNatClampNeg = 1 from rfl]
      show Z 0 76 [(1, .int 1), (0, .ref 50)] [] (z_ui W1 70 1 1)
      exact zJ hJ8 rfl rfl (by unfold lgM; rw [h13, cond_true])
noncomputable def ovM1 (μ : zM) (c : Nat) (w0 w2 w3 : Int64) : zM := bif decide ((μ.1 50 59) = 0) then lgM (lgM (lgM μ 0 (decide (lg_cmp ((w0 >>> ((nI c).toInt64 &&& 63)) &&& 1) 1 = 0))) 2 (decide (lg_cmp ((w2 >>> ((nI c).toInt64 &&& 63)) &&& 1) 1 = 0))) 3 (decide (lg_cmp ((w3 >>> ((nI c).toInt64 &&& 63)) &&& 1) 1 = 0)) else lgM (lgM (lgM (z_ui (z_ui (z_ui μ 61 1 ((μ.1 61 1) - 1000)) 50 43 ((μ.1 50 43) + 1)) 50 59 0) 0 (decide (lg_cmp ((w0 >>> ((nI c).toInt64 &&& 63)) &&& 1) 1 = 0))) 2 (decide (lg_cmp ((w2 >>> ((nI c).toInt64 &&& 63)) &&& 1) 1 = 0))) 3 (decide (lg_cmp ((w3 >>> ((nI c).toInt64 &&& 63)) &&& 1) 1 = 0))
theorem gm_over1 (d : Nat) (hd : 700 ≤ d) (μ : zM) (hH0 : a_H μ) (c : Nat) (hc49 : μ.1 50 49 = nI c) (ht : μ.1 50 45 = 1) (w0 : Int64) (hw0 : ∀ M, SE μ M → a_H M → ∀ d, 699 ≤ d → z_C d mi_X7_waitsAt [.ref 50, .int 0] M (fun r W => r = some (.long w0) ∧ SMj M W ∧ a_H W)) (w2 : Int64) (hw2 : ∀ M, SE μ M → a_H M → ∀ d, 699 ≤ d → z_C d mi_X7_waitsAt [.ref 50, .int 2] M (fun r W => r = some (.long w2) ∧ SMj M W ∧ a_H W)) (w3 : Int64) (hw3 : ∀ M, SE μ M → a_H M → ∀ d, 699 ≤ d → z_C d mi_X7_waitsAt [.ref 50, .int 3] M (fun r W => r = some (.long w3) ∧ SMj M W ∧ a_H W)) : z_C d mi_X7_over [.ref 50] μ (fun r μ' => r = none ∧ SMj (ovM1 μ c w0 w2 w3) μ') := by
  refine z_C_in (by decide) (by omega) (fun d' Z ed hc hr => ?_)
  have hH : zH mi_X7_over zt_X7_over 79 7 2 := hh_X7_over
  refine z_rcs hc hH 1 (pc' := 1) (lv' := [(0, .ref 50)]) (st' := [.ref 50]) (μ' := μ) (by rfl) ?_
  refine zq_gfi hc hH (by rfl) (ci := 6) (f := 59) (by rfl) (by decide +kernel) (by rfl) ?_
  refine zq_if hc hH (by rfl) (tg := 37) (by rfl) (fun h1 => ?_) (fun h1 => ?_)
  · have h1 : (decide ((μ.1 50 59) = 0)) = true := decide_eq_true (cm_eq9.mp h1)
    refine z_rcs hc hH 7 (pc' := 46) (lv' := [(1, .int 0), (0, .ref 50)]) (st' := [.ref 50, .int 0]) (μ' := μ) (by rfl) ?_
    refine zq_gfi hc hH (by rfl) (ci := 6) (f := 45) (by rfl) (by decide +kernel) (by rfl) ?_
    rw [ht]
    refine z_rcs hc hH 3 (pc' := 54) (lv' := [(1, .int 0), (0, .ref 50)]) (st' := [.int 0, .ref 50]) (μ' := μ) (by rfl) ?_
    refine zq_call hc (z_cx_ok hH (by rfl)) (hw0 _ (SE_rf _) (hH0) d' (by omega)) (by decide +kernel) (fun r9 W0 hq => ?_)
    obtain ⟨rfl, hO0, hA0⟩ := hq
    show Z 0 57 [(1, .int 0), (0, .ref 50)] [.long w0] W0
    refine z_rcs hc hH 1 (pc' := 58) (lv' := [(1, .int 0), (0, .ref 50)]) (st' := [.ref 50, .long w0]) (μ' := W0) (by rfl) ?_
    refine zq_gfi hc hH (by rfl) (ci := 6) (f := 49) (by rfl) (by decide +kernel) (by rfl) ?_
    rw [(hO0 _ _ (by omega)).1]
    rw [hc49]
    refine z_rcs hc hH 5 (pc' := 66) (lv' := [(1, .int 0), (0, .ref 50)]) (st' := [.int (lg_cmp ((w0 >>> ((nI c).toInt64 &&& 63)) &&& 1) 1)]) (μ' := W0) (by rfl) ?_
    have hJ2 : Z 0 76 [(1, .int 0), (0, .ref 50)] [] (lgM W0 0 (decide (lg_cmp ((w0 >>> ((nI c).toInt64 &&& 63)) &&& 1) 1 = 0))) := by
      refine z_rcs0 hc hH 7 (pc' := 46) (lv' := [(1, .int 1), (0, .ref 50)]) (st' := [.ref 50, .int 1]) (by rfl) ?_
      refine zq_gfi hc hH (by rfl) (ci := 6) (f := 45) (by rfl) (by decide +kernel) (by rfl) ?_
      rw [lgM_o (by first | decide | omega), (hO0 _ _ (by omega)).1]
      rw [ht]
      refine z_rcs0 hc hH 8 (pc' := 46) (lv' := [(1, .int 2), (0, .ref 50)]) (st' := [.ref 50, .int 2]) (by rfl) ?_
      refine zq_gfi hc hH (by rfl) (ci := 6) (f := 45) (by rfl) (by decide +kernel) (by rfl) ?_
      rw [lgM_o (by first | decide | omega), (hO0 _ _ (by omega)).1]
      rw [ht]
      refine z_rcs0 hc hH 3 (pc' := 54) (lv' := [(1, .int 2), (0, .ref 50)]) (st' := [.int 2, .ref 50]) (by rfl) ?_
      refine zq_call hc (z_cx_ok hH (by rfl)) (hw2 _ (SE_lg (SE_sm (SE_rf _) hO0)) (a_H_lg (hA0)) d' (by omega)) (by decide +kernel) (fun r9 W2 hq => ?_)
      obtain ⟨rfl, hO2, hA2⟩ := hq
      show Z 0 57 [(1, .int 2), (0, .ref 50)] [.long w2] W2
      refine z_rcs hc hH 1 (pc' := 58) (lv' := [(1, .int 2), (0, .ref 50)]) (st' := [.ref 50, .long w2]) (μ' := W2) (by rfl) ?_
      refine zq_gfi hc hH (by rfl) (ci := 6) (f := 49) (by rfl) (by decide +kernel) (by rfl) ?_
      rw [(hO2 _ _ (by omega)).1, lgM_o (by first | decide | omega), (hO0 _ _ (by omega)).1]
      rw [hc49]
      refine z_rcs hc hH 5 (pc' := 66) (lv' := [(1, .int 2), (0, .ref 50)]) (st' := [.int (lg_cmp ((w2 >>> ((nI c).toInt64 &&& 63)) &&& 1) 1)]) (μ' := W2) (by rfl) ?_
      have hJ3 : Z 0 76 [(1, .int 2), (0, .ref 50)] [] (lgM W2 2 (decide (lg_cmp ((w2 >>> ((nI c).toInt64 &&& 63)) &&& 1) 1 = 0))) := by
        refine z_rcs0 hc hH 7 (pc' := 46) (lv' := [(1, .int 3), (0, .ref 50)]) (st' := [.ref 50, .int 3]) (by rfl) ?_
        refine zq_gfi hc hH (by rfl) (ci := 6) (f := 45) (by rfl) (by decide +kernel) (by rfl) ?_
        rw [lgM_o (by first | decide | omega), (hO2 _ _ (by omega)).1, lgM_o (by first | decide | omega), (hO0 _ _ (by omega)).1]
        rw [ht]
        refine z_rcs0 hc hH 3 (pc' := 54) (lv' := [(1, .int 3), (0, .ref 50)]) (st' := [.int 3, .ref 50]) (by rfl) ?_
        refine zq_call hc (z_cx_ok hH (by rfl)) (hw3 _ (SE_lg (SE_sm (SE_lg (SE_sm (SE_rf _) hO0)) hO2)) (a_H_lg (hA2)) d' (by omega)) (by decide +kernel) (fun r9 W3 hq => ?_)
        obtain ⟨rfl, hO3, hA3⟩ := hq
        show Z 0 57 [(1, .int 3), (0, .ref 50)] [.long w3] W3
        refine z_rcs hc hH 1 (pc' := 58) (lv' := [(1, .int 3), (0, .ref 50)]) (st' := [.ref 50, .long w3]) (μ' := W3) (by rfl) ?_
        refine zq_gfi hc hH (by rfl) (ci := 6) (f := 49) (by rfl) (by decide +kernel) (by rfl) ?_
        rw [(hO3 _ _ (by omega)).1, lgM_o (by first | decide | omega), (hO2 _ _ (by omega)).1, lgM_o (by first | decide | omega), (hO0 _ _ (by omega)).1]
        rw [hc49]
        refine z_rcs hc hH 5 (pc' := 66) (lv' := [(1, .int 3), (0, .ref 50)]) (st' := [.int (lg_cmp ((w3 >>> ((nI c).toInt64 &&& 63)) &&& 1) 1)]) (μ' := W3) (by rfl) ?_
        have hJ4 : Z 0 76 [(1, .int 3), (0, .ref 50)] [] (lgM W3 3 (decide (lg_cmp ((w3 >>> ((nI c).toInt64 &&& 63)) &&& 1) 1 = 0))) := by
          refine z_rcs0 hc hH 5 (pc' := 82) (lv' := [(1, .int 4), (0, .ref 50)]) (st' := []) (by rfl) ?_
          exact hr 0 82 _ _ _ none (by decide +kernel) (by rfl) (⟨rfl, by unfold ovM1; rw [h1, cond_true]; exact SM_lg (SM_tr (SM_lg (SM_tr (SM_lg (SM_tr (SM_rf _) hO0)) hO2)) hO3)⟩)
        refine zq_if hc hH (by rfl) (tg := 76) (by rfl) (fun h5 => ?_) (fun h5 => ?_)
        · have h5 : (decide ((lg_cmp ((w3 >>> ((nI c).toInt64 &&& 63)) &&& 1) 1) = 0)) = false := decide_eq_false (cm_ne.mp h5)
          exact zJ hJ4 rfl rfl (by unfold lgM; rw [h5, cond_false])
        · have h5 : (decide ((lg_cmp ((w3 >>> ((nI c).toInt64 &&& 63)) &&& 1) 1) = 0)) = true := decide_eq_true (cn_ne.mp h5)
          refine z_rcs hc hH 1 (pc' := 70) (lv' := [(1, .int 3), (0, .ref 50)]) (st' := [.ref 50]) (μ' := W3) (by rfl) ?_
          refine zq_gfr hc hH (by rfl) (ci := 6) (f := 38) (q := 70) (by rfl) (by decide +kernel) (by rfl) (by decide +kernel) ?_
          refine z_rcs hc hH 2 (pc' := 75) (lv' := [(1, .int 3), (0, .ref 50)]) (st' := [.int 1, .int 3, .ref 70]) (μ' := W3) (by rfl) ?_
          refine zq_bast hc hH (by rfl) 4 (by decide +kernel) (show vp_in (nI 3) 4 from vp_in_nI (by decide) (by decide)) (by decide) ?_
          rw [show (3 : Int32).toNatClampNeg = 3 from rfl]
          show Z 0 76 [(1, .int 3), (0, .ref 50)] [] (z_ui W3 70 3 1)
          exact zJ hJ4 rfl rfl (by unfold lgM; rw [h5, cond_true])
      refine zq_if hc hH (by rfl) (tg := 76) (by rfl) (fun h6 => ?_) (fun h6 => ?_)
      · have h6 : (decide ((lg_cmp ((w2 >>> ((nI c).toInt64 &&& 63)) &&& 1) 1) = 0)) = false := decide_eq_false (cm_ne.mp h6)
        exact zJ hJ3 rfl rfl (by unfold lgM; rw [h6, cond_false])
      · have h6 : (decide ((lg_cmp ((w2 >>> ((nI c).toInt64 &&& 63)) &&& 1) 1) = 0)) = true := decide_eq_true (cn_ne.mp h6)
        refine z_rcs hc hH 1 (pc' := 70) (lv' := [(1, .int 2), (0, .ref 50)]) (st' := [.ref 50]) (μ' := W2) (by rfl) ?_
        refine zq_gfr hc hH (by rfl) (ci := 6) (f := 38) (q := 70) (by rfl) (by decide +kernel) (by rfl) (by decide +kernel) ?_
        refine z_rcs hc hH 2 (pc' := 75) (lv' := [(1, .int 2), (0, .ref 50)]) (st' := [.int 1, .int 2, .ref 70]) (μ' := W2) (by rfl) ?_
        refine zq_bast hc hH (by rfl) 4 (by decide +kernel) (show vp_in (nI 2) 4 from vp_in_nI (by decide) (by decide)) (by decide) ?_
        rw [show (2 : Int32).toNatClampNeg = 2 from rfl]
        show Z 0 76 [(1, .int 2), (0, .ref 50)] [] (z_ui W2 70 2 1)
        exact zJ hJ3 rfl rfl (by unfold lgM; rw [h6, cond_true])
    refine zq_if hc hH (by rfl) (tg := 76) (by rfl) (fun h7 => ?_) (fun h7 => ?_)
    · have h7 : (decide ((lg_cmp ((w0 >>> ((nI c).toInt64 &&& 63)) &&& 1) 1) = 0)) = false := decide_eq_false (cm_ne.mp h7)
      exact zJ hJ2 rfl rfl (by unfold lgM; rw [h7, cond_false])
    · have h7 : (decide ((lg_cmp ((w0 >>> ((nI c).toInt64 &&& 63)) &&& 1) 1) = 0)) = true := decide_eq_true (cn_ne.mp h7)
      refine z_rcs hc hH 1 (pc' := 70) (lv' := [(1, .int 0), (0, .ref 50)]) (st' := [.ref 50]) (μ' := W0) (by rfl) ?_
      refine zq_gfr hc hH (by rfl) (ci := 6) (f := 38) (q := 70) (by rfl) (by decide +kernel) (by rfl) (by decide +kernel) ?_
      refine z_rcs hc hH 2 (pc' := 75) (lv' := [(1, .int 0), (0, .ref 50)]) (st' := [.int 1, .int 0, .ref 70]) (μ' := W0) (by rfl) ?_
      refine zq_bast hc hH (by rfl) 4 (by decide +kernel) (show vp_in (nI 0) 4 from vp_in_nI (by decide) (by decide)) (by decide) ?_
      rw [show (0 : Int32).toNatClampNeg = 0 from rfl]
      show Z 0 76 [(1, .int 0), (0, .ref 50)] [] (z_ui W0 70 0 1)
      exact zJ hJ2 rfl rfl (by unfold lgM; rw [h7, cond_true])
  · have h1 : (decide ((μ.1 50 59) = 0)) = false := decide_eq_false (cn_eq.mp h1)
    refine z_rcs hc hH 1 (pc' := 8) (lv' := [(0, .ref 50)]) (st' := [.ref 50]) (μ' := μ) (by rfl) ?_
    refine zq_gfr hc hH (by rfl) (ci := 6) (f := 29) (q := 61) (by rfl) (by decide +kernel) (by rfl) (by decide +kernel) ?_
    refine z_rcs hc hH 1 (pc' := 12) (lv' := [(0, .ref 50)]) (st' := [.ref 50, .ref 61]) (μ' := μ) (by rfl) ?_
    refine zq_gfi hc hH (by rfl) (ci := 6) (f := 45) (by rfl) (by decide +kernel) (by rfl) ?_
    rw [ht]
    refine z_rcs hc hH 1 (pc' := 16) (lv' := [(0, .ref 50)]) (st' := [.int 1, .ref 61, .int 1, .ref 61]) (μ' := μ) (by rfl) ?_
    refine zq_iald hc hH (by rfl) 4 (oka_i (by decide +kernel)) (show vp_in (nI 1) 4 from vp_in_nI (by decide) (by decide)) ?_
    rw [show (1 : Int32).toNatClampNeg = 1 from rfl]
    refine z_rcs hc hH 2 (pc' := 21) (lv' := [(0, .ref 50)]) (st' := [.int ((μ.1 61 1) - 1000), .int 1, .ref 61]) (μ' := μ) (by rfl) ?_
    refine zq_iast hc hH (by rfl) 4 (oka_i (by decide +kernel)).2 (show vp_in (nI 1) 4 from vp_in_nI (by decide) (by decide)) ?_
    rw [show (1 : Int32).toNatClampNeg = 1 from rfl]
    show Z 0 22 [(0, .ref 50)] [] (z_ui μ 61 1 ((μ.1 61 1) - 1000))
    refine z_rcs0 hc hH 2 (pc' := 24) (lv' := [(0, .ref 50)]) (st' := [.ref 50, .ref 50]) (by rfl) ?_
    refine zq_gfi hc hH (by rfl) (ci := 6) (f := 43) (by rfl) (by decide +kernel) (by rfl) ?_
    refine zV1 (Z := Z) (ui_o (by first | decide | omega)) ?_
    refine z_rcs0 hc hH 2 (pc' := 29) (lv' := [(0, .ref 50)]) (st' := [.int ((μ.1 50 43) + 1), .ref 50]) (by rfl) ?_
    refine zq_pfi hc hH (by rfl) (ci := 6) (f := 43) (by rfl) (by decide +kernel) (by rfl) ?_
    show Z 0 32 [(0, .ref 50)] [] (z_ui (z_ui μ 61 1 ((μ.1 61 1) - 1000)) 50 43 ((μ.1 50 43) + 1))
    refine z_rcs0 hc hH 2 (pc' := 34) (lv' := [(0, .ref 50)]) (st' := [.int 0, .ref 50]) (by rfl) ?_
    refine zq_pfb hc hH (by rfl) (ci := 6) (f := 59) (by rfl) (by decide +kernel) (by rfl) (by decide) ?_
    show Z 0 37 [(0, .ref 50)] [] (z_ui (z_ui (z_ui μ 61 1 ((μ.1 61 1) - 1000)) 50 43 ((μ.1 50 43) + 1)) 50 59 0)
    refine z_rcs0 hc hH 7 (pc' := 46) (lv' := [(1, .int 0), (0, .ref 50)]) (st' := [.ref 50, .int 0]) (by rfl) ?_
    refine zq_gfi hc hH (by rfl) (ci := 6) (f := 45) (by rfl) (by decide +kernel) (by rfl) ?_
    refine zV1 (Z := Z) (Eq.trans (ui_k (by first | decide | omega)) (Eq.trans (ui_k (by first | decide | omega)) (ui_o (by first | decide | omega)))) ?_
    rw [ht]
    refine z_rcs0 hc hH 3 (pc' := 54) (lv' := [(1, .int 0), (0, .ref 50)]) (st' := [.int 0, .ref 50]) (by rfl) ?_
    refine zq_call hc (z_cx_ok hH (by rfl)) (hw0 _ (SE_ui (SE_ui (SE_ui (SE_rf _) (by omega)) (by omega)) (by omega)) (a_H_ui (r := 50) (k := 59) (a_H_ui (r := 50) (k := 43) (a_H_ui (r := 61) (k := 1) (hH0) (bI_top _)) (bI_top _)) ⟨by decide, by decide⟩) d' (by omega)) (by decide +kernel) (fun r9 W0 hq => ?_)
    obtain ⟨rfl, hO0, hA0⟩ := hq
    show Z 0 57 [(1, .int 0), (0, .ref 50)] [.long w0] W0
    refine z_rcs hc hH 1 (pc' := 58) (lv' := [(1, .int 0), (0, .ref 50)]) (st' := [.ref 50, .long w0]) (μ' := W0) (by rfl) ?_
    refine zq_gfi hc hH (by rfl) (ci := 6) (f := 49) (by rfl) (by decide +kernel) (by rfl) ?_
    refine zV1 (Z := Z) (Eq.trans (hO0 _ _ (by omega)).1 (Eq.trans (ui_k (by first | decide | omega)) (Eq.trans (ui_k (by first | decide | omega)) (ui_o (by first | decide | omega))))) ?_
    rw [hc49]
    refine z_rcs hc hH 5 (pc' := 66) (lv' := [(1, .int 0), (0, .ref 50)]) (st' := [.int (lg_cmp ((w0 >>> ((nI c).toInt64 &&& 63)) &&& 1) 1)]) (μ' := W0) (by rfl) ?_
    have hJ8 : Z 0 76 [(1, .int 0), (0, .ref 50)] [] (lgM W0 0 (decide (lg_cmp ((w0 >>> ((nI c).toInt64 &&& 63)) &&& 1) 1 = 0))) := by
      refine z_rcs0 hc hH 7 (pc' := 46) (lv' := [(1, .int 1), (0, .ref 50)]) (st' := [.ref 50, .int 1]) (by rfl) ?_
      refine zq_gfi hc hH (by rfl) (ci := 6) (f := 45) (by rfl) (by decide +kernel) (by rfl) ?_
      refine zV1 (Z := Z) (Eq.trans (lgM_o (by first | decide | omega)) (Eq.trans (hO0 _ _ (by omega)).1 (Eq.trans (ui_k (by first | decide | omega)) (Eq.trans (ui_k (by first | decide | omega)) (ui_o (by first | decide | omega)))))) ?_
      rw [ht]
      refine z_rcs0 hc hH 8 (pc' := 46) (lv' := [(1, .int 2), (0, .ref 50)]) (st' := [.ref 50, .int 2]) (by rfl) ?_
      refine zq_gfi hc hH (by rfl) (ci := 6) (f := 45) (by rfl) (by decide +kernel) (by rfl) ?_
      refine zV1 (Z := Z) (Eq.trans (lgM_o (by first | decide | omega)) (Eq.trans (hO0 _ _ (by omega)).1 (Eq.trans (ui_k (by first | decide | omega)) (Eq.trans (ui_k (by first | decide | omega)) (ui_o (by first | decide | omega)))))) ?_
      rw [ht]
      refine z_rcs0 hc hH 3 (pc' := 54) (lv' := [(1, .int 2), (0, .ref 50)]) (st' := [.int 2, .ref 50]) (by rfl) ?_
      refine zq_call hc (z_cx_ok hH (by rfl)) (hw2 _ (SE_lg (SE_sm (SE_ui (SE_ui (SE_ui (SE_rf _) (by omega)) (by omega)) (by omega)) hO0)) (a_H_lg (hA0)) d' (by omega)) (by decide +kernel) (fun r9 W2 hq => ?_)
      obtain ⟨rfl, hO2, hA2⟩ := hq
      show Z 0 57 [(1, .int 2), (0, .ref 50)] [.long w2] W2
      refine z_rcs hc hH 1 (pc' := 58) (lv' := [(1, .int 2), (0, .ref 50)]) (st' := [.ref 50, .long w2]) (μ' := W2) (by rfl) ?_
      refine zq_gfi hc hH (by rfl) (ci := 6) (f := 49) (by rfl) (by decide +kernel) (by rfl) ?_
      refine zV1 (Z := Z) (Eq.trans (hO2 _ _ (by omega)).1 (Eq.trans (lgM_o (by first | decide | omega)) (Eq.trans (hO0 _ _ (by omega)).1 (Eq.trans (ui_k (by first | decide | omega)) (Eq.trans (ui_k (by first | decide | omega)) (ui_o (by first | decide | omega))))))) ?_
      rw [hc49]
      refine z_rcs hc hH 5 (pc' := 66) (lv' := [(1, .int 2), (0, .ref 50)]) (st' := [.int (lg_cmp ((w2 >>> ((nI c).toInt64 &&& 63)) &&& 1) 1)]) (μ' := W2) (by rfl) ?_
      have hJ9 : Z 0 76 [(1, .int 2), (0, .ref 50)] [] (lgM W2 2 (decide (lg_cmp ((w2 >>> ((nI c).toInt64 &&& 63)) &&& 1) 1 = 0))) := by
        refine z_rcs0 hc hH 7 (pc' := 46) (lv' := [(1, .int 3), (0, .ref 50)]) (st' := [.ref 50, .int 3]) (by rfl) ?_
        refine zq_gfi hc hH (by rfl) (ci := 6) (f := 45) (by rfl) (by decide +kernel) (by rfl) ?_
        refine zV1 (Z := Z) (Eq.trans (lgM_o (by first | decide | omega)) (Eq.trans (hO2 _ _ (by omega)).1 (Eq.trans (lgM_o (by first | decide | omega)) (Eq.trans (hO0 _ _ (by omega)).1 (Eq.trans (ui_k (by first | decide | omega)) (Eq.trans (ui_k (by first | decide | omega)) (ui_o (by first | decide | omega)))))))) ?_
        rw [ht]
        refine z_rcs0 hc hH 3 (pc' := 54) (lv' := [(1, .int 3), (0, .ref 50)]) (st' := [.int 3, .ref 50]) (by rfl) ?_
        refine zq_call hc (z_cx_ok hH (by rfl)) (hw3 _ (SE_lg (SE_sm (SE_lg (SE_sm (SE_ui (SE_ui (SE_ui (SE_rf _) (by omega)) (by omega)) (by omega)) hO0)) hO2)) (a_H_lg (hA2)) d' (by omega)) (by decide +kernel) (fun r9 W3 hq => ?_)
        obtain ⟨rfl, hO3, hA3⟩ := hq
        show Z 0 57 [(1, .int 3), (0, .ref 50)] [.long w3] W3
        refine z_rcs hc hH 1 (pc' := 58) (lv' := [(1, .int 3), (0, .ref 50)]) (st' := [.ref 50, .long w3]) (μ' := W3) (by rfl) ?_
        refine zq_gfi hc hH (by rfl) (ci := 6) (f := 49) (by rfl) (by decide +kernel) (by rfl) ?_
        refine zV1 (Z := Z) (Eq.trans (hO3 _ _ (by omega)).1 (Eq.trans (lgM_o (by first | decide | omega)) (Eq.trans (hO2 _ _ (by omega)).1 (Eq.trans (lgM_o (by first | decide | omega)) (Eq.trans (hO0 _ _ (by omega)).1 (Eq.trans (ui_k (by first | decide | omega)) (Eq.trans (ui_k (by first | decide | omega)) (ui_o (by first | decide | omega))))))))) ?_
        rw [hc49]
        refine z_rcs hc hH 5 (pc' := 66) (lv' := [(1, .int 3), (0, .ref 50)]) (st' := [.int (lg_cmp ((w3 >>> ((nI c).toInt64 &&& 63)) &&& 1) 1)]) (μ' := W3) (by rfl) ?_
        have hJ10 : Z 0 76 [(1, .int 3), (0, .ref 50)] [] (lgM W3 3 (decide (lg_cmp ((w3 >>> ((nI c).toInt64 &&& 63)) &&& 1) 1 = 0))) := by
          refine z_rcs0 hc hH 5 (pc' := 82) (lv' := [(1, .int 4), (0, .ref 50)]) (st' := []) (by rfl) ?_
          exact hr 0 82 _ _ _ none (by decide +kernel) (by rfl) (⟨rfl, by unfold ovM1; rw [h1, cond_false]; exact SM_lg (SM_tr (SM_lg (SM_tr (SM_lg (SM_tr (SM_ui (SM_ui (SM_ui (SM_rf _)))) hO0)) hO2)) hO3)⟩)
        refine zq_if hc hH (by rfl) (tg := 76) (by rfl) (fun h11 => ?_) (fun h11 => ?_)
        · have h11 : (decide ((lg_cmp ((w3 >>> ((nI c).toInt64 &&& 63)) &&& 1) 1) = 0)) = false := decide_eq_false (cm_ne.mp h11)
          exact zJ hJ10 rfl rfl (by unfold lgM; rw [h11, cond_false])
        · have h11 : (decide ((lg_cmp ((w3 >>> ((nI c).toInt64 &&& 63)) &&& 1) 1) = 0)) = true := decide_eq_true (cn_ne.mp h11)
          refine z_rcs hc hH 1 (pc' := 70) (lv' := [(1, .int 3), (0, .ref 50)]) (st' := [.ref 50]) (μ' := W3) (by rfl) ?_
          refine zq_gfr hc hH (by rfl) (ci := 6) (f := 38) (q := 70) (by rfl) (by decide +kernel) (by rfl) (by decide +kernel) ?_
          refine z_rcs hc hH 2 (pc' := 75) (lv' := [(1, .int 3), (0, .ref 50)]) (st' := [.int 1, .int 3, .ref 70]) (μ' := W3) (by rfl) ?_
          refine zq_bast hc hH (by rfl) 4 (by decide +kernel) (show vp_in (nI 3) 4 from vp_in_nI (by decide) (by decide)) (by decide) ?_
          rw [show (3 : Int32).toNatClampNeg = 3 from rfl]
          show Z 0 76 [(1, .int 3), (0, .ref 50)] [] (z_ui W3 70 3 1)
          exact zJ hJ10 rfl rfl (by unfold lgM; rw [h11, cond_true])
      refine zq_if hc hH (by rfl) (tg := 76) (by rfl) (fun h12 => ?_) (fun h12 => ?_)
      · have h12 : (decide ((lg_cmp ((w2 >>> ((nI c).toInt64 &&& 63)) &&& 1) 1) = 0)) = false := decide_eq_false (cm_ne.mp h12)
        exact zJ hJ9 rfl rfl (by unfold lgM; rw [h12, cond_false])
      · have h12 : (decide ((lg_cmp ((w2 >>> ((nI c).toInt64 &&& 63)) &&& 1) 1) = 0)) = true := decide_eq_true (cn_ne.mp h12)
        refine z_rcs hc hH 1 (pc' := 70) (lv' := [(1, .int 2), (0, .ref 50)]) (st' := [.ref 50]) (μ' := W2) (by rfl) ?_
        refine zq_gfr hc hH (by rfl) (ci := 6) (f := 38) (q := 70) (by rfl) (by decide +kernel) (by rfl) (by decide +kernel) ?_
        refine z_rcs hc hH 2 (pc' := 75) (lv' := [(1, .int 2), (0, .ref 50)]) (st' := [.int 1, .int 2, .ref 70]) (μ' := W2) (by rfl) ?_
        refine zq_bast hc hH (by rfl) 4 (by decide +kernel) (show vp_in (nI 2) 4 from vp_in_nI (by decide) (by decide)) (by decide) ?_
        rw [show (2 : Int32).toNatClampNeg = 2 from rfl]
        show Z 0 76 [(1, .int 2), (0, .ref 50)] [] (z_ui W2 70 2 1)
        exact zJ hJ9 rfl rfl (by unfold lgM; rw [h12, cond_true])
    refine zq_if hc hH (by rfl) (tg := 76) (by rfl) (fun h13 => ?_) (fun h13 => ?_)
    · have h13 : (decide ((lg_cmp ((w0 >>> ((nI c).toInt64 &&& 63)) &&& 1) 1) = 0)) = false := decide_eq_false (cm_ne.mp h13)
      exact zJ hJ8 rfl rfl (by unfold lgM; rw [h13, cond_false])
    · have h13 : (decide ((lg_cmp ((w0 >>> ((nI c).toInt64 &&& 63)) &&& 1) 1) = 0)) = true := decide_eq_true (cn_ne.mp h13)
      refine z_rcs hc hH 1 (pc' := 70) (lv' := [(1, .int 0), (0, .ref 50)]) (st' := [.ref 50]) (μ' := W0) (by rfl) ?_
      refine zq_gfr hc hH (by rfl) (ci := 6) (f := 38) (q := 70) (by rfl) (by decide +kernel) (by rfl) (by decide +kernel) ?_
      refine z_rcs hc hH 2 (pc' := 75) (lv' := [(1, .int 0), (0, .ref 50)]) (st' := [.int 1, .int 0, .ref 70]) (μ' := W0) (by rfl) ?_
      refine zq_bast hc hH (by rfl) 4 (by decide +kernel) (show vp_in (nI 0) 4 from vp_in_nI (by decide) (by decide)) (by decide) ?_
      rw [show (0 : Int32).toNatClampNeg = 0 from rfl]
      show Z 0 76 [(1, .int 0), (0, .ref 50)] [] (z_ui W0 70 0 1)
      exact zJ hJ8 rfl rfl (by unfold lgM; rw [h13, cond_true])
noncomputable def ovM2 (μ : zM) (c : Nat) (w0 w1 w3 : Int64) : zM := bif decide ((μ.1 50 59) = 0) then lgM (lgM (lgM μ 0 (decide (lg_cmp ((w0 >>> ((nI c).toInt64 &&& 63)) &&& 1) 1 = 0))) 1 (decide (lg_cmp ((w1 >>> ((nI c).toInt64 &&& 63)) &&& 1) 1 = 0))) 3 (decide (lg_cmp ((w3 >>> ((nI c).toInt64 &&& 63)) &&& 1) 1 = 0)) else lgM (lgM (lgM (z_ui (z_ui (z_ui μ 61 2 ((μ.1 61 2) - 1000)) 50 43 ((μ.1 50 43) + 1)) 50 59 0) 0 (decide (lg_cmp ((w0 >>> ((nI c).toInt64 &&& 63)) &&& 1) 1 = 0))) 1 (decide (lg_cmp ((w1 >>> ((nI c).toInt64 &&& 63)) &&& 1) 1 = 0))) 3 (decide (lg_cmp ((w3 >>> ((nI c).toInt64 &&& 63)) &&& 1) 1 = 0))
theorem gm_over2 (d : Nat) (hd : 700 ≤ d) (μ : zM) (hH0 : a_H μ) (c : Nat) (hc49 : μ.1 50 49 = nI c) (ht : μ.1 50 45 = 2) (w0 : Int64) (hw0 : ∀ M, SE μ M → a_H M → ∀ d, 699 ≤ d → z_C d mi_X7_waitsAt [.ref 50, .int 0] M (fun r W => r = some (.long w0) ∧ SMj M W ∧ a_H W)) (w1 : Int64) (hw1 : ∀ M, SE μ M → a_H M → ∀ d, 699 ≤ d → z_C d mi_X7_waitsAt [.ref 50, .int 1] M (fun r W => r = some (.long w1) ∧ SMj M W ∧ a_H W)) (w3 : Int64) (hw3 : ∀ M, SE μ M → a_H M → ∀ d, 699 ≤ d → z_C d mi_X7_waitsAt [.ref 50, .int 3] M (fun r W => r = some (.long w3) ∧ SMj M W ∧ a_H W)) : z_C d mi_X7_over [.ref 50] μ (fun r μ' => r = none ∧ SMj (ovM2 μ c w0 w1 w3) μ') := by
  refine z_C_in (by decide) (by omega) (fun d' Z ed hc hr => ?_)
  have hH : zH mi_X7_over zt_X7_over 79 7 2 := hh_X7_over
  refine z_rcs hc hH 1 (pc' := 1) (lv' := [(0, .ref 50)]) (st' := [.ref 50]) (μ' := μ) (by rfl) ?_
  refine zq_gfi hc hH (by rfl) (ci := 6) (f := 59) (by rfl) (by decide +kernel) (by rfl) ?_
  refine zq_if hc hH (by rfl) (tg := 37) (by rfl) (fun h1 => ?_) (fun h1 => ?_)
  · have h1 : (decide ((μ.1 50 59) = 0)) = true := decide_eq_true (cm_eq9.mp h1)
    refine z_rcs hc hH 7 (pc' := 46) (lv' := [(1, .int 0), (0, .ref 50)]) (st' := [.ref 50, .int 0]) (μ' := μ) (by rfl) ?_
    refine zq_gfi hc hH (by rfl) (ci := 6) (f := 45) (by rfl) (by decide +kernel) (by rfl) ?_
    rw [ht]
    refine z_rcs hc hH 3 (pc' := 54) (lv' := [(1, .int 0), (0, .ref 50)]) (st' := [.int 0, .ref 50]) (μ' := μ) (by rfl) ?_
    refine zq_call hc (z_cx_ok hH (by rfl)) (hw0 _ (SE_rf _) (hH0) d' (by omega)) (by decide +kernel) (fun r9 W0 hq => ?_)
    obtain ⟨rfl, hO0, hA0⟩ := hq
    show Z 0 57 [(1, .int 0), (0, .ref 50)] [.long w0] W0
    refine z_rcs hc hH 1 (pc' := 58) (lv' := [(1, .int 0), (0, .ref 50)]) (st' := [.ref 50, .long w0]) (μ' := W0) (by rfl) ?_
    refine zq_gfi hc hH (by rfl) (ci := 6) (f := 49) (by rfl) (by decide +kernel) (by rfl) ?_
    rw [(hO0 _ _ (by omega)).1]
    rw [hc49]
    refine z_rcs hc hH 5 (pc' := 66) (lv' := [(1, .int 0), (0, .ref 50)]) (st' := [.int (lg_cmp ((w0 >>> ((nI c).toInt64 &&& 63)) &&& 1) 1)]) (μ' := W0) (by rfl) ?_
    have hJ2 : Z 0 76 [(1, .int 0), (0, .ref 50)] [] (lgM W0 0 (decide (lg_cmp ((w0 >>> ((nI c).toInt64 &&& 63)) &&& 1) 1 = 0))) := by
      refine z_rcs0 hc hH 7 (pc' := 46) (lv' := [(1, .int 1), (0, .ref 50)]) (st' := [.ref 50, .int 1]) (by rfl) ?_
      refine zq_gfi hc hH (by rfl) (ci := 6) (f := 45) (by rfl) (by decide +kernel) (by rfl) ?_
      rw [lgM_o (by first | decide | omega), (hO0 _ _ (by omega)).1]
      rw [ht]
      refine z_rcs0 hc hH 3 (pc' := 54) (lv' := [(1, .int 1), (0, .ref 50)]) (st' := [.int 1, .ref 50]) (by rfl) ?_
      refine zq_call hc (z_cx_ok hH (by rfl)) (hw1 _ (SE_lg (SE_sm (SE_rf _) hO0)) (a_H_lg (hA0)) d' (by omega)) (by decide +kernel) (fun r9 W1 hq => ?_)
      obtain ⟨rfl, hO1, hA1⟩ := hq
      show Z 0 57 [(1, .int 1), (0, .ref 50)] [.long w1] W1
      refine z_rcs hc hH 1 (pc' := 58) (lv' := [(1, .int 1), (0, .ref 50)]) (st' := [.ref 50, .long w1]) (μ' := W1) (by rfl) ?_
      refine zq_gfi hc hH (by rfl) (ci := 6) (f := 49) (by rfl) (by decide +kernel) (by rfl) ?_
      rw [(hO1 _ _ (by omega)).1, lgM_o (by first | decide | omega), (hO0 _ _ (by omega)).1]
      rw [hc49]
      refine z_rcs hc hH 5 (pc' := 66) (lv' := [(1, .int 1), (0, .ref 50)]) (st' := [.int (lg_cmp ((w1 >>> ((nI c).toInt64 &&& 63)) &&& 1) 1)]) (μ' := W1) (by rfl) ?_
      have hJ3 : Z 0 76 [(1, .int 1), (0, .ref 50)] [] (lgM W1 1 (decide (lg_cmp ((w1 >>> ((nI c).toInt64 &&& 63)) &&& 1) 1 = 0))) := by
        refine z_rcs0 hc hH 7 (pc' := 46) (lv' := [(1, .int 2), (0, .ref 50)]) (st' := [.ref 50, .int 2]) (by rfl) ?_
        refine zq_gfi hc hH (by rfl) (ci := 6) (f := 45) (by rfl) (by decide +kernel) (by rfl) ?_
        rw [lgM_o (by first | decide | omega), (hO1 _ _ (by omega)).1, lgM_o (by first | decide | omega), (hO0 _ _ (by omega)).1]
        rw [ht]
        refine z_rcs0 hc hH 8 (pc' := 46) (lv' := [(1, .int 3), (0, .ref 50)]) (st' := [.ref 50, .int 3]) (by rfl) ?_
        refine zq_gfi hc hH (by rfl) (ci := 6) (f := 45) (by rfl) (by decide +kernel) (by rfl) ?_
        rw [lgM_o (by first | decide | omega), (hO1 _ _ (by omega)).1, lgM_o (by first | decide | omega), (hO0 _ _ (by omega)).1]
        rw [ht]
        refine z_rcs0 hc hH 3 (pc' := 54) (lv' := [(1, .int 3), (0, .ref 50)]) (st' := [.int 3, .ref 50]) (by rfl) ?_
        refine zq_call hc (z_cx_ok hH (by rfl)) (hw3 _ (SE_lg (SE_sm (SE_lg (SE_sm (SE_rf _) hO0)) hO1)) (a_H_lg (hA1)) d' (by omega)) (by decide +kernel) (fun r9 W3 hq => ?_)
        obtain ⟨rfl, hO3, hA3⟩ := hq
        show Z 0 57 [(1, .int 3), (0, .ref 50)] [.long w3] W3
        refine z_rcs hc hH 1 (pc' := 58) (lv' := [(1, .int 3), (0, .ref 50)]) (st' := [.ref 50, .long w3]) (μ' := W3) (by rfl) ?_
        refine zq_gfi hc hH (by rfl) (ci := 6) (f := 49) (by rfl) (by decide +kernel) (by rfl) ?_
        rw [(hO3 _ _ (by omega)).1, lgM_o (by first | decide | omega), (hO1 _ _ (by omega)).1, lgM_o (by first | decide | omega), (hO0 _ _ (by omega)).1]
        rw [hc49]
        refine z_rcs hc hH 5 (pc' := 66) (lv' := [(1, .int 3), (0, .ref 50)]) (st' := [.int (lg_cmp ((w3 >>> ((nI c).toInt64 &&& 63)) &&& 1) 1)]) (μ' := W3) (by rfl) ?_
        have hJ4 : Z 0 76 [(1, .int 3), (0, .ref 50)] [] (lgM W3 3 (decide (lg_cmp ((w3 >>> ((nI c).toInt64 &&& 63)) &&& 1) 1 = 0))) := by
          refine z_rcs0 hc hH 5 (pc' := 82) (lv' := [(1, .int 4), (0, .ref 50)]) (st' := []) (by rfl) ?_
          exact hr 0 82 _ _ _ none (by decide +kernel) (by rfl) (⟨rfl, by unfold ovM2; rw [h1, cond_true]; exact SM_lg (SM_tr (SM_lg (SM_tr (SM_lg (SM_tr (SM_rf _) hO0)) hO1)) hO3)⟩)
        refine zq_if hc hH (by rfl) (tg := 76) (by rfl) (fun h5 => ?_) (fun h5 => ?_)
        · have h5 : (decide ((lg_cmp ((w3 >>> ((nI c).toInt64 &&& 63)) &&& 1) 1) = 0)) = false := decide_eq_false (cm_ne.mp h5)
          exact zJ hJ4 rfl rfl (by unfold lgM; rw [h5, cond_false])
        · have h5 : (decide ((lg_cmp ((w3 >>> ((nI c).toInt64 &&& 63)) &&& 1) 1) = 0)) = true := decide_eq_true (cn_ne.mp h5)
          refine z_rcs hc hH 1 (pc' := 70) (lv' := [(1, .int 3), (0, .ref 50)]) (st' := [.ref 50]) (μ' := W3) (by rfl) ?_
          refine zq_gfr hc hH (by rfl) (ci := 6) (f := 38) (q := 70) (by rfl) (by decide +kernel) (by rfl) (by decide +kernel) ?_
          refine z_rcs hc hH 2 (pc' := 75) (lv' := [(1, .int 3), (0, .ref 50)]) (st' := [.int 1, .int 3, .ref 70]) (μ' := W3) (by rfl) ?_
          refine zq_bast hc hH (by rfl) 4 (by decide +kernel) (show vp_in (nI 3) 4 from vp_in_nI (by decide) (by decide)) (by decide) ?_
          rw [show (3 : Int32).toNatClampNeg = 3 from rfl]
          show Z 0 76 [(1, .int 3), (0, .ref 50)] [] (z_ui W3 70 3 1)
          exact zJ hJ4 rfl rfl (by unfold lgM; rw [h5, cond_true])
      refine zq_if hc hH (by rfl) (tg := 76) (by rfl) (fun h6 => ?_) (fun h6 => ?_)
      · have h6 : (decide ((lg_cmp ((w1 >>> ((nI c).toInt64 &&& 63)) &&& 1) 1) = 0)) = false := decide_eq_false (cm_ne.mp h6)
        exact zJ hJ3 rfl rfl (by unfold lgM; rw [h6, cond_false])
      · have h6 : (decide ((lg_cmp ((w1 >>> ((nI c).toInt64 &&& 63)) &&& 1) 1) = 0)) = true := decide_eq_true (cn_ne.mp h6)
        refine z_rcs hc hH 1 (pc' := 70) (lv' := [(1, .int 1), (0, .ref 50)]) (st' := [.ref 50]) (μ' := W1) (by rfl) ?_
        refine zq_gfr hc hH (by rfl) (ci := 6) (f := 38) (q := 70) (by rfl) (by decide +kernel) (by rfl) (by decide +kernel) ?_
        refine z_rcs hc hH 2 (pc' := 75) (lv' := [(1, .int 1), (0, .ref 50)]) (st' := [.int 1, .int 1, .ref 70]) (μ' := W1) (by rfl) ?_
        refine zq_bast hc hH (by rfl) 4 (by decide +kernel) (show vp_in (nI 1) 4 from vp_in_nI (by decide) (by decide)) (by decide) ?_
        rw [show (1 : Int32).toNatClampNeg = 1 from rfl]
        show Z 0 76 [(1, .int 1), (0, .ref 50)] [] (z_ui W1 70 1 1)
        exact zJ hJ3 rfl rfl (by unfold lgM; rw [h6, cond_true])
    refine zq_if hc hH (by rfl) (tg := 76) (by rfl) (fun h7 => ?_) (fun h7 => ?_)
    · have h7 : (decide ((lg_cmp ((w0 >>> ((nI c).toInt64 &&& 63)) &&& 1) 1) = 0)) = false := decide_eq_false (cm_ne.mp h7)
      exact zJ hJ2 rfl rfl (by unfold lgM; rw [h7, cond_false])
    · have h7 : (decide ((lg_cmp ((w0 >>> ((nI c).toInt64 &&& 63)) &&& 1) 1) = 0)) = true := decide_eq_true (cn_ne.mp h7)
      refine z_rcs hc hH 1 (pc' := 70) (lv' := [(1, .int 0), (0, .ref 50)]) (st' := [.ref 50]) (μ' := W0) (by rfl) ?_
      refine zq_gfr hc hH (by rfl) (ci := 6) (f := 38) (q := 70) (by rfl) (by decide +kernel) (by rfl) (by decide +kernel) ?_
      refine z_rcs hc hH 2 (pc' := 75) (lv' := [(1, .int 0), (0, .ref 50)]) (st' := [.int 1, .int 0, .ref 70]) (μ' := W0) (by rfl) ?_
      refine zq_bast hc hH (by rfl) 4 (by decide +kernel) (show vp_in (nI 0) 4 from vp_in_nI (by decide) (by decide)) (by decide) ?_
      rw [show (0 : Int32).toNatClampNeg = 0 from rfl]
      show Z 0 76 [(1, .int 0), (0, .ref 50)] [] (z_ui W0 70 0 1)
      exact zJ hJ2 rfl rfl (by unfold lgM; rw [h7, cond_true])
  · have h1 : (decide ((μ.1 50 59) = 0)) = false := decide_eq_false (cn_eq.mp h1)
    refine z_rcs hc hH 1 (pc' := 8) (lv' := [(0, .ref 50)]) (st' := [.ref 50]) (μ' := μ) (by rfl) ?_
    refine zq_gfr hc hH (by rfl) (ci := 6) (f := 29) (q := 61) (by rfl) (by decide +kernel) (by rfl) (by decide +kernel) ?_
    refine z_rcs hc hH 1 (pc' := 12) (lv' := [(0, .ref 50)]) (st' := [.ref 50, .ref 61]) (μ' := μ) (by rfl) ?_
    refine zq_gfi hc hH (by rfl) (ci := 6) (f := 45) (by rfl) (by decide +kernel) (by rfl) ?_
    rw [ht]
    refine z_rcs hc hH 1 (pc' := 16) (lv' := [(0, .ref 50)]) (st' := [.int 2, .ref 61, .int 2, .ref 61]) (μ' := μ) (by rfl) ?_
    refine zq_iald hc hH (by rfl) 4 (oka_i (by decide +kernel)) (show vp_in (nI 2) 4 from vp_in_nI (by decide) (by decide)) ?_
    rw [show (2 : Int32).toNatClampNeg = 2 from rfl]
    refine z_rcs hc hH 2 (pc' := 21) (lv' := [(0, .ref 50)]) (st' := [.int ((μ.1 61 2) - 1000), .int 2, .ref 61]) (μ' := μ) (by rfl) ?_
    refine zq_iast hc hH (by rfl) 4 (oka_i (by decide +kernel)).2 (show vp_in (nI 2) 4 from vp_in_nI (by decide) (by decide)) ?_
    rw [show (2 : Int32).toNatClampNeg = 2 from rfl]
    show Z 0 22 [(0, .ref 50)] [] (z_ui μ 61 2 ((μ.1 61 2) - 1000))
    refine z_rcs0 hc hH 2 (pc' := 24) (lv' := [(0, .ref 50)]) (st' := [.ref 50, .ref 50]) (by rfl) ?_
    refine zq_gfi hc hH (by rfl) (ci := 6) (f := 43) (by rfl) (by decide +kernel) (by rfl) ?_
    refine zV1 (Z := Z) (ui_o (by first | decide | omega)) ?_
    refine z_rcs0 hc hH 2 (pc' := 29) (lv' := [(0, .ref 50)]) (st' := [.int ((μ.1 50 43) + 1), .ref 50]) (by rfl) ?_
    refine zq_pfi hc hH (by rfl) (ci := 6) (f := 43) (by rfl) (by decide +kernel) (by rfl) ?_
    show Z 0 32 [(0, .ref 50)] [] (z_ui (z_ui μ 61 2 ((μ.1 61 2) - 1000)) 50 43 ((μ.1 50 43) + 1))
    refine z_rcs0 hc hH 2 (pc' := 34) (lv' := [(0, .ref 50)]) (st' := [.int 0, .ref 50]) (by rfl) ?_
    refine zq_pfb hc hH (by rfl) (ci := 6) (f := 59) (by rfl) (by decide +kernel) (by rfl) (by decide) ?_
    show Z 0 37 [(0, .ref 50)] [] (z_ui (z_ui (z_ui μ 61 2 ((μ.1 61 2) - 1000)) 50 43 ((μ.1 50 43) + 1)) 50 59 0)
    refine z_rcs0 hc hH 7 (pc' := 46) (lv' := [(1, .int 0), (0, .ref 50)]) (st' := [.ref 50, .int 0]) (by rfl) ?_
    refine zq_gfi hc hH (by rfl) (ci := 6) (f := 45) (by rfl) (by decide +kernel) (by rfl) ?_
    refine zV1 (Z := Z) (Eq.trans (ui_k (by first | decide | omega)) (Eq.trans (ui_k (by first | decide | omega)) (ui_o (by first | decide | omega)))) ?_
    rw [ht]
    refine z_rcs0 hc hH 3 (pc' := 54) (lv' := [(1, .int 0), (0, .ref 50)]) (st' := [.int 0, .ref 50]) (by rfl) ?_
    refine zq_call hc (z_cx_ok hH (by rfl)) (hw0 _ (SE_ui (SE_ui (SE_ui (SE_rf _) (by omega)) (by omega)) (by omega)) (a_H_ui (r := 50) (k := 59) (a_H_ui (r := 50) (k := 43) (a_H_ui (r := 61) (k := 2) (hH0) (bI_top _)) (bI_top _)) ⟨by decide, by decide⟩) d' (by omega)) (by decide +kernel) (fun r9 W0 hq => ?_)
    obtain ⟨rfl, hO0, hA0⟩ := hq
    show Z 0 57 [(1, .int 0), (0, .ref 50)] [.long w0] W0
    refine z_rcs hc hH 1 (pc' := 58) (lv' := [(1, .int 0), (0, .ref 50)]) (st' := [.ref 50, .long w0]) (μ' := W0) (by rfl) ?_
    refine zq_gfi hc hH (by rfl) (ci := 6) (f := 49) (by rfl) (by decide +kernel) (by rfl) ?_
    refine zV1 (Z := Z) (Eq.trans (hO0 _ _ (by omega)).1 (Eq.trans (ui_k (by first | decide | omega)) (Eq.trans (ui_k (by first | decide | omega)) (ui_o (by first | decide | omega))))) ?_
    rw [hc49]
    refine z_rcs hc hH 5 (pc' := 66) (lv' := [(1, .int 0), (0, .ref 50)]) (st' := [.int (lg_cmp ((w0 >>> ((nI c).toInt64 &&& 63)) &&& 1) 1)]) (μ' := W0) (by rfl) ?_
    have hJ8 : Z 0 76 [(1, .int 0), (0, .ref 50)] [] (lgM W0 0 (decide (lg_cmp ((w0 >>> ((nI c).toInt64 &&& 63)) &&& 1) 1 = 0))) := by
      refine z_rcs0 hc hH 7 (pc' := 46) (lv' := [(1, .int 1), (0, .ref 50)]) (st' := [.ref 50, .int 1]) (by rfl) ?_
      refine zq_gfi hc hH (by rfl) (ci := 6) (f := 45) (by rfl) (by decide +kernel) (by rfl) ?_
      refine zV1 (Z := Z) (Eq.trans (lgM_o (by first | decide | omega)) (Eq.trans (hO0 _ _ (by omega)).1 (Eq.trans (ui_k (by first | decide | omega)) (Eq.trans (ui_k (by first | decide | omega)) (ui_o (by first | decide | omega)))))) ?_
      rw [ht]
      refine z_rcs0 hc hH 3 (pc' := 54) (lv' := [(1, .int 1), (0, .ref 50)]) (st' := [.int 1, .ref 50]) (by rfl) ?_
      refine zq_call hc (z_cx_ok hH (by rfl)) (hw1 _ (SE_lg (SE_sm (SE_ui (SE_ui (SE_ui (SE_rf _) (by omega)) (by omega)) (by omega)) hO0)) (a_H_lg (hA0)) d' (by omega)) (by decide +kernel) (fun r9 W1 hq => ?_)
      obtain ⟨rfl, hO1, hA1⟩ := hq
      show Z 0 57 [(1, .int 1), (0, .ref 50)] [.long w1] W1
      refine z_rcs hc hH 1 (pc' := 58) (lv' := [(1, .int 1), (0, .ref 50)]) (st' := [.ref 50, .long w1]) (μ' := W1) (by rfl) ?_
      refine zq_gfi hc hH (by rfl) (ci := 6) (f := 49) (by rfl) (by decide +kernel) (by rfl) ?_
      refine zV1 (Z := Z) (Eq.trans (hO1 _ _ (by omega)).1 (Eq.trans (lgM_o (by first | decide | omega)) (Eq.trans (hO0 _ _ (by omega)).1 (Eq.trans (ui_k (by first | decide | omega)) (Eq.trans (ui_k (by first | decide | omega)) (ui_o (by first | decide | omega))))))) ?_
      rw [hc49]
      refine z_rcs hc hH 5 (pc' := 66) (lv' := [(1, .int 1), (0, .ref 50)]) (st' := [.int (lg_cmp ((w1 >>> ((nI c).toInt64 &&& 63)) &&& 1) 1)]) (μ' := W1) (by rfl) ?_
      have hJ9 : Z 0 76 [(1, .int 1), (0, .ref 50)] [] (lgM W1 1 (decide (lg_cmp ((w1 >>> ((nI c).toInt64 &&& 63)) &&& 1) 1 = 0))) := by
        refine z_rcs0 hc hH 7 (pc' := 46) (lv' := [(1, .int 2), (0, .ref 50)]) (st' := [.ref 50, .int 2]) (by rfl) ?_
        refine zq_gfi hc hH (by rfl) (ci := 6) (f := 45) (by rfl) (by decide +kernel) (by rfl) ?_
        refine zV1 (Z := Z) (Eq.trans (lgM_o (by first | decide | omega)) (Eq.trans (hO1 _ _ (by omega)).1 (Eq.trans (lgM_o (by first | decide | omega)) (Eq.trans (hO0 _ _ (by omega)).1 (Eq.trans (ui_k (by first | decide | omega)) (Eq.trans (ui_k (by first | decide | omega)) (ui_o (by first | decide | omega)))))))) ?_
        rw [ht]
        refine z_rcs0 hc hH 8 (pc' := 46) (lv' := [(1, .int 3), (0, .ref 50)]) (st' := [.ref 50, .int 3]) (by rfl) ?_
        refine zq_gfi hc hH (by rfl) (ci := 6) (f := 45) (by rfl) (by decide +kernel) (by rfl) ?_
        refine zV1 (Z := Z) (Eq.trans (lgM_o (by first | decide | omega)) (Eq.trans (hO1 _ _ (by omega)).1 (Eq.trans (lgM_o (by first | decide | omega)) (Eq.trans (hO0 _ _ (by omega)).1 (Eq.trans (ui_k (by first | decide | omega)) (Eq.trans (ui_k (by first | decide | omega)) (ui_o (by first | decide | omega)))))))) ?_
        rw [ht]
        refine z_rcs0 hc hH 3 (pc' := 54) (lv' := [(1, .int 3), (0, .ref 50)]) (st' := [.int 3, .ref 50]) (by rfl) ?_
        refine zq_call hc (z_cx_ok hH (by rfl)) (hw3 _ (SE_lg (SE_sm (SE_lg (SE_sm (SE_ui (SE_ui (SE_ui (SE_rf _) (by omega)) (by omega)) (by omega)) hO0)) hO1)) (a_H_lg (hA1)) d' (by omega)) (by decide +kernel) (fun r9 W3 hq => ?_)
        obtain ⟨rfl, hO3, hA3⟩ := hq
        show Z 0 57 [(1, .int 3), (0, .ref 50)] [.long w3] W3
        refine z_rcs hc hH 1 (pc' := 58) (lv' := [(1, .int 3), (0, .ref 50)]) (st' := [.ref 50, .long w3]) (μ' := W3) (by rfl) ?_
        refine zq_gfi hc hH (by rfl) (ci := 6) (f := 49) (by rfl) (by decide +kernel) (by rfl) ?_
        refine zV1 (Z := Z) (Eq.trans (hO3 _ _ (by omega)).1 (Eq.trans (lgM_o (by first | decide | omega)) (Eq.trans (hO1 _ _ (by omega)).1 (Eq.trans (lgM_o (by first | decide | omega)) (Eq.trans (hO0 _ _ (by omega)).1 (Eq.trans (ui_k (by first | decide | omega)) (Eq.trans (ui_k (by first | decide | omega)) (ui_o (by first | decide | omega))))))))) ?_
        rw [hc49]
        refine z_rcs hc hH 5 (pc' := 66) (lv' := [(1, .int 3), (0, .ref 50)]) (st' := [.int (lg_cmp ((w3 >>> ((nI c).toInt64 &&& 63)) &&& 1) 1)]) (μ' := W3) (by rfl) ?_
        have hJ10 : Z 0 76 [(1, .int 3), (0, .ref 50)] [] (lgM W3 3 (decide (lg_cmp ((w3 >>> ((nI c).toInt64 &&& 63)) &&& 1) 1 = 0))) := by
          refine z_rcs0 hc hH 5 (pc' := 82) (lv' := [(1, .int 4), (0, .ref 50)]) (st' := []) (by rfl) ?_
          exact hr 0 82 _ _ _ none (by decide +kernel) (by rfl) (⟨rfl, by unfold ovM2; rw [h1, cond_false]; exact SM_lg (SM_tr (SM_lg (SM_tr (SM_lg (SM_tr (SM_ui (SM_ui (SM_ui (SM_rf _)))) hO0)) hO1)) hO3)⟩)
        refine zq_if hc hH (by rfl) (tg := 76) (by rfl) (fun h11 => ?_) (fun h11 => ?_)
        · have h11 : (decide ((lg_cmp ((w3 >>> ((nI c).toInt64 &&& 63)) &&& 1) 1) = 0)) = false := decide_eq_false (cm_ne.mp h11)
          exact zJ hJ10 rfl rfl (by unfold lgM; rw [h11, cond_false])
        · have h11 : (decide ((lg_cmp ((w3 >>> ((nI c).toInt64 &&& 63)) &&& 1) 1) = 0)) = true := decide_eq_true (cn_ne.mp h11)
          refine z_rcs hc hH 1 (pc' := 70) (lv' := [(1, .int 3), (0, .ref 50)]) (st' := [.ref 50]) (μ' := W3) (by rfl) ?_
          refine zq_gfr hc hH (by rfl) (ci := 6) (f := 38) (q := 70) (by rfl) (by decide +kernel) (by rfl) (by decide +kernel) ?_
          refine z_rcs hc hH 2 (pc' := 75) (lv' := [(1, .int 3), (0, .ref 50)]) (st' := [.int 1, .int 3, .ref 70]) (μ' := W3) (by rfl) ?_
          refine zq_bast hc hH (by rfl) 4 (by decide +kernel) (show vp_in (nI 3) 4 from vp_in_nI (by decide) (by decide)) (by decide) ?_
          rw [show (3 : Int32).toNatClampNeg = 3 from rfl]
          show Z 0 76 [(1, .int 3), (0, .ref 50)] [] (z_ui W3 70 3 1)
          exact zJ hJ10 rfl rfl (by unfold lgM; rw [h11, cond_true])
      refine zq_if hc hH (by rfl) (tg := 76) (by rfl) (fun h12 => ?_) (fun h12 => ?_)
      · have h12 : (decide ((lg_cmp ((w1 >>> ((nI c).toInt64 &&& 63)) &&& 1) 1) = 0)) = false := decide_eq_false (cm_ne.mp h12)
        exact zJ hJ9 rfl rfl (by unfold lgM; rw [h12, cond_false])
      · have h12 : (decide ((lg_cmp ((w1 >>> ((nI c).toInt64 &&& 63)) &&& 1) 1) = 0)) = true := decide_eq_true (cn_ne.mp h12)
        refine z_rcs hc hH 1 (pc' := 70) (lv' := [(1, .int 1), (0, .ref 50)]) (st' := [.ref 50]) (μ' := W1) (by rfl) ?_
        refine zq_gfr hc hH (by rfl) (ci := 6) (f := 38) (q := 70) (by rfl) (by decide +kernel) (by rfl) (by decide +kernel) ?_
        refine z_rcs hc hH 2 (pc' := 75) (lv' := [(1, .int 1), (0, .ref 50)]) (st' := [.int 1, .int 1, .ref 70]) (μ' := W1) (by rfl) ?_
        refine zq_bast hc hH (by rfl) 4 (by decide +kernel) (show vp_in (nI 1) 4 from vp_in_nI (by decide) (by decide)) (by decide) ?_
        rw [show (1 : Int32).toNatClampNeg = 1 from rfl]
        show Z 0 76 [(1, .int 1), (0, .ref 50)] [] (z_ui W1 70 1 1)
        exact zJ hJ9 rfl rfl (by unfold lgM; rw [h12, cond_true])
    refine zq_if hc hH (by rfl) (tg := 76) (by rfl) (fun h13 => ?_) (fun h13 => ?_)
    · have h13 : (decide ((lg_cmp ((w0 >>> ((nI c).toInt64 &&& 63)) &&& 1) 1) = 0)) = false := decide_eq_false (cm_ne.mp h13)
      exact zJ hJ8 rfl rfl (by unfold lgM; rw [h13, cond_false])
    · have h13 : (decide ((lg_cmp ((w0 >>> ((nI c).toInt64 &&& 63)) &&& 1) 1) = 0)) = true := decide_eq_true (cn_ne.mp h13)
      refine z_rcs hc hH 1 (pc' := 70) (lv' := [(1, .int 0), (0, .ref 50)]) (st' := [.ref 50]) (μ' := W0) (by rfl) ?_
      refine zq_gfr hc hH (by rfl) (ci := 6) (f := 38) (q := 70) (by rfl) (by decide +kernel) (by rfl) (by decide +kernel) ?_
      refine z_rcs hc hH 2 (pc' := 75) (lv' := [(1, .int 0), (0, .ref 50)]) (st' := [.int 1, .int 0, .ref 70]) (μ' := W0) (by rfl) ?_
      refine zq_bast hc hH (by rfl) 4 (by decide +kernel) (show vp_in (nI 0) 4 from vp_in_nI (by decide) (by decide)) (by decide) ?_
      rw [show (0 : Int32).toNatClampNeg = 0 from rfl]
      show Z 0 76 [(1, .int 0), (0, .ref 50)] [] (z_ui W0 70 0 1)
      exact zJ hJ8 rfl rfl (by unfold lgM; rw [h13, cond_true])
noncomputable def ovM3 (μ : zM) (c : Nat) (w0 w1 w2 : Int64) : zM := bif decide ((μ.1 50 59) = 0) then lgM (lgM (lgM μ 0 (decide (lg_cmp ((w0 >>> ((nI c).toInt64 &&& 63)) &&& 1) 1 = 0))) 1 (decide (lg_cmp ((w1 >>> ((nI c).toInt64 &&& 63)) &&& 1) 1 = 0))) 2 (decide (lg_cmp ((w2 >>> ((nI c).toInt64 &&& 63)) &&& 1) 1 = 0)) else lgM (lgM (lgM (z_ui (z_ui (z_ui μ 61 3 ((μ.1 61 3) - 1000)) 50 43 ((μ.1 50 43) + 1)) 50 59 0) 0 (decide (lg_cmp ((w0 >>> ((nI c).toInt64 &&& 63)) &&& 1) 1 = 0))) 1 (decide (lg_cmp ((w1 >>> ((nI c).toInt64 &&& 63)) &&& 1) 1 = 0))) 2 (decide (lg_cmp ((w2 >>> ((nI c).toInt64 &&& 63)) &&& 1) 1 = 0))
theorem gm_over3 (d : Nat) (hd : 700 ≤ d) (μ : zM) (hH0 : a_H μ) (c : Nat) (hc49 : μ.1 50 49 = nI c) (ht : μ.1 50 45 = 3) (w0 : Int64) (hw0 : ∀ M, SE μ M → a_H M → ∀ d, 699 ≤ d → z_C d mi_X7_waitsAt [.ref 50, .int 0] M (fun r W => r = some (.long w0) ∧ SMj M W ∧ a_H W)) (w1 : Int64) (hw1 : ∀ M, SE μ M → a_H M → ∀ d, 699 ≤ d → z_C d mi_X7_waitsAt [.ref 50, .int 1] M (fun r W => r = some (.long w1) ∧ SMj M W ∧ a_H W)) (w2 : Int64) (hw2 : ∀ M, SE μ M → a_H M → ∀ d, 699 ≤ d → z_C d mi_X7_waitsAt [.ref 50, .int 2] M (fun r W => r = some (.long w2) ∧ SMj M W ∧ a_H W)) : z_C d mi_X7_over [.ref 50] μ (fun r μ' => r = none ∧ SMj (ovM3 μ c w0 w1 w2) μ') := by
  refine z_C_in (by decide) (by omega) (fun d' Z ed hc hr => ?_)
  have hH : zH mi_X7_over zt_X7_over 79 7 2 := hh_X7_over
  refine z_rcs hc hH 1 (pc' := 1) (lv' := [(0, .ref 50)]) (st' := [.ref 50]) (μ' := μ) (by rfl) ?_
  refine zq_gfi hc hH (by rfl) (ci := 6) (f := 59) (by rfl) (by decide +kernel) (by rfl) ?_
  refine zq_if hc hH (by rfl) (tg := 37) (by rfl) (fun h1 => ?_) (fun h1 => ?_)
  · have h1 : (decide ((μ.1 50 59) = 0)) = true := decide_eq_true (cm_eq9.mp h1)
    refine z_rcs hc hH 7 (pc' := 46) (lv' := [(1, .int 0), (0, .ref 50)]) (st' := [.ref 50, .int 0]) (μ' := μ) (by rfl) ?_
    refine zq_gfi hc hH (by rfl) (ci := 6) (f := 45) (by rfl) (by decide +kernel) (by rfl) ?_
    rw [ht]
    refine z_rcs hc hH 3 (pc' := 54) (lv' := [(1, .int 0), (0, .ref 50)]) (st' := [.int 0, .ref 50]) (μ' := μ) (by rfl) ?_
    refine zq_call hc (z_cx_ok hH (by rfl)) (hw0 _ (SE_rf _) (hH0) d' (by omega)) (by decide +kernel) (fun r9 W0 hq => ?_)
    obtain ⟨rfl, hO0, hA0⟩ := hq
    show Z 0 57 [(1, .int 0), (0, .ref 50)] [.long w0] W0
    refine z_rcs hc hH 1 (pc' := 58) (lv' := [(1, .int 0), (0, .ref 50)]) (st' := [.ref 50, .long w0]) (μ' := W0) (by rfl) ?_
    refine zq_gfi hc hH (by rfl) (ci := 6) (f := 49) (by rfl) (by decide +kernel) (by rfl) ?_
    rw [(hO0 _ _ (by omega)).1]
    rw [hc49]
    refine z_rcs hc hH 5 (pc' := 66) (lv' := [(1, .int 0), (0, .ref 50)]) (st' := [.int (lg_cmp ((w0 >>> ((nI c).toInt64 &&& 63)) &&& 1) 1)]) (μ' := W0) (by rfl) ?_
    have hJ2 : Z 0 76 [(1, .int 0), (0, .ref 50)] [] (lgM W0 0 (decide (lg_cmp ((w0 >>> ((nI c).toInt64 &&& 63)) &&& 1) 1 = 0))) := by
      refine z_rcs0 hc hH 7 (pc' := 46) (lv' := [(1, .int 1), (0, .ref 50)]) (st' := [.ref 50, .int 1]) (by rfl) ?_
      refine zq_gfi hc hH (by rfl) (ci := 6) (f := 45) (by rfl) (by decide +kernel) (by rfl) ?_
      rw [lgM_o (by first | decide | omega), (hO0 _ _ (by omega)).1]
      rw [ht]
      refine z_rcs0 hc hH 3 (pc' := 54) (lv' := [(1, .int 1), (0, .ref 50)]) (st' := [.int 1, .ref 50]) (by rfl) ?_
      refine zq_call hc (z_cx_ok hH (by rfl)) (hw1 _ (SE_lg (SE_sm (SE_rf _) hO0)) (a_H_lg (hA0)) d' (by omega)) (by decide +kernel) (fun r9 W1 hq => ?_)
      obtain ⟨rfl, hO1, hA1⟩ := hq
      show Z 0 57 [(1, .int 1), (0, .ref 50)] [.long w1] W1
      refine z_rcs hc hH 1 (pc' := 58) (lv' := [(1, .int 1), (0, .ref 50)]) (st' := [.ref 50, .long w1]) (μ' := W1) (by rfl) ?_
      refine zq_gfi hc hH (by rfl) (ci := 6) (f := 49) (by rfl) (by decide +kernel) (by rfl) ?_
      rw [(hO1 _ _ (by omega)).1, lgM_o (by first | decide | omega), (hO0 _ _ (by omega)).1]
      rw [hc49]
      refine z_rcs hc hH 5 (pc' := 66) (lv' := [(1, .int 1), (0, .ref 50)]) (st' := [.int (lg_cmp ((w1 >>> ((nI c).toInt64 &&& 63)) &&& 1) 1)]) (μ' := W1) (by rfl) ?_
      have hJ3 : Z 0 76 [(1, .int 1), (0, .ref 50)] [] (lgM W1 1 (decide (lg_cmp ((w1 >>> ((nI c).toInt64 &&& 63)) &&& 1) 1 = 0))) := by
        refine z_rcs0 hc hH 7 (pc' := 46) (lv' := [(1, .int 2), (0, .ref 50)]) (st' := [.ref 50, .int 2]) (by rfl) ?_
        refine zq_gfi hc hH (by rfl) (ci := 6) (f := 45) (by rfl) (by decide +kernel) (by rfl) ?_
        rw [lgM_o (by first | decide | omega), (hO1 _ _ (by omega)).1, lgM_o (by first | decide | omega), (hO0 _ _ (by omega)).1]
        rw [ht]
        refine z_rcs0 hc hH 3 (pc' := 54) (lv' := [(1, .int 2), (0, .ref 50)]) (st' := [.int 2, .ref 50]) (by rfl) ?_
        refine zq_call hc (z_cx_ok hH (by rfl)) (hw2 _ (SE_lg (SE_sm (SE_lg (SE_sm (SE_rf _) hO0)) hO1)) (a_H_lg (hA1)) d' (by omega)) (by decide +kernel) (fun r9 W2 hq => ?_)
        obtain ⟨rfl, hO2, hA2⟩ := hq
        show Z 0 57 [(1, .int 2), (0, .ref 50)] [.long w2] W2
        refine z_rcs hc hH 1 (pc' := 58) (lv' := [(1, .int 2), (0, .ref 50)]) (st' := [.ref 50, .long w2]) (μ' := W2) (by rfl) ?_
        refine zq_gfi hc hH (by rfl) (ci := 6) (f := 49) (by rfl) (by decide +kernel) (by rfl) ?_
        rw [(hO2 _ _ (by omega)).1, lgM_o (by first | decide | omega), (hO1 _ _ (by omega)).1, lgM_o (by first | decide | omega), (hO0 _ _ (by omega)).1]
        rw [hc49]
        refine z_rcs hc hH 5 (pc' := 66) (lv' := [(1, .int 2), (0, .ref 50)]) (st' := [.int (lg_cmp ((w2 >>> ((nI c).toInt64 &&& 63)) &&& 1) 1)]) (μ' := W2) (by rfl) ?_
        have hJ4 : Z 0 76 [(1, .int 2), (0, .ref 50)] [] (lgM W2 2 (decide (lg_cmp ((w2 >>> ((nI c).toInt64 &&& 63)) &&& 1) 1 = 0))) := by
          refine z_rcs0 hc hH 7 (pc' := 46) (lv' := [(1, .int 3), (0, .ref 50)]) (st' := [.ref 50, .int 3]) (by rfl) ?_
          refine zq_gfi hc hH (by rfl) (ci := 6) (f := 45) (by rfl) (by decide +kernel) (by rfl) ?_
          rw [lgM_o (by first | decide | omega), (hO2 _ _ (by omega)).1, lgM_o (by first | decide | omega), (hO1 _ _ (by omega)).1, lgM_o (by first | decide | omega), (hO0 _ _ (by omega)).1]
          rw [ht]
          refine z_rcs0 hc hH 6 (pc' := 82) (lv' := [(1, .int 4), (0, .ref 50)]) (st' := []) (by rfl) ?_
          exact hr 0 82 _ _ _ none (by decide +kernel) (by rfl) (⟨rfl, by unfold ovM3; rw [h1, cond_true]; exact SM_lg (SM_tr (SM_lg (SM_tr (SM_lg (SM_tr (SM_rf _) hO0)) hO1)) hO2)⟩)
        refine zq_if hc hH (by rfl) (tg := 76) (by rfl) (fun h5 => ?_) (fun h5 => ?_)
        · have h5 : (decide ((lg_cmp ((w2 >>> ((nI c).toInt64 &&& 63)) &&& 1) 1) = 0)) = false := decide_eq_false (cm_ne.mp h5)
          exact zJ hJ4 rfl rfl (by unfold lgM; rw [h5, cond_false])
        · have h5 : (decide ((lg_cmp ((w2 >>> ((nI c).toInt64 &&& 63)) &&& 1) 1) = 0)) = true := decide_eq_true (cn_ne.mp h5)
          refine z_rcs hc hH 1 (pc' := 70) (lv' := [(1, .int 2), (0, .ref 50)]) (st' := [.ref 50]) (μ' := W2) (by rfl) ?_
          refine zq_gfr hc hH (by rfl) (ci := 6) (f := 38) (q := 70) (by rfl) (by decide +kernel) (by rfl) (by decide +kernel) ?_
          refine z_rcs hc hH 2 (pc' := 75) (lv' := [(1, .int 2), (0, .ref 50)]) (st' := [.int 1, .int 2, .ref 70]) (μ' := W2) (by rfl) ?_
          refine zq_bast hc hH (by rfl) 4 (by decide +kernel) (show vp_in (nI 2) 4 from vp_in_nI (by decide) (by decide)) (by decide) ?_
          rw [show (2 : Int32).toNatClampNeg = 2 from rfl]
          show Z 0 76 [(1, .int 2), (0, .ref 50)] [] (z_ui W2 70 2 1)
          exact zJ hJ4 rfl rfl (by unfold lgM; rw [h5, cond_true])
      refine zq_if hc hH (by rfl) (tg := 76) (by rfl) (fun h6 => ?_) (fun h6 => ?_)
      · have h6 : (decide ((lg_cmp ((w1 >>> ((nI c).toInt64 &&& 63)) &&& 1) 1) = 0)) = false := decide_eq_false (cm_ne.mp h6)
        exact zJ hJ3 rfl rfl (by unfold lgM; rw [h6, cond_false])
      · have h6 : (decide ((lg_cmp ((w1 >>> ((nI c).toInt64 &&& 63)) &&& 1) 1) = 0)) = true := decide_eq_true (cn_ne.mp h6)
        refine z_rcs hc hH 1 (pc' := 70) (lv' := [(1, .int 1), (0, .ref 50)]) (st' := [.ref 50]) (μ' := W1) (by rfl) ?_
        refine zq_gfr hc hH (by rfl) (ci := 6) (f := 38) (q := 70) (by rfl) (by decide +kernel) (by rfl) (by decide +kernel) ?_
        refine z_rcs hc hH 2 (pc' := 75) (lv' := [(1, .int 1), (0, .ref 50)]) (st' := [.int 1, .int 1, .ref 70]) (μ' := W1) (by rfl) ?_
        refine zq_bast hc hH (by rfl) 4 (by decide +kernel) (show vp_in (nI 1) 4 from vp_in_nI (by decide) (by decide)) (by decide) ?_
        rw [show (1 : Int32).toNatClampNeg = 1 from rfl]
        show Z 0 76 [(1, .int 1), (0, .ref 50)] [] (z_ui W1 70 1 1)
        exact zJ hJ3 rfl rfl (by unfold lgM; rw [h6, cond_true])
    refine zq_if hc hH (by rfl) (tg := 76) (by rfl) (fun h7 => ?_) (fun h7 => ?_)
    · have h7 : (decide ((lg_cmp ((w0 >>> ((nI c).toInt64 &&& 63)) &&& 1) 1) = 0)) = false := decide_eq_false (cm_ne.mp h7)
      exact zJ hJ2 rfl rfl (by unfold lgM; rw [h7, cond_false])
    · have h7 : (decide ((lg_cmp ((w0 >>> ((nI c).toInt64 &&& 63)) &&& 1) 1) = 0)) = true := decide_eq_true (cn_ne.mp h7)
      refine z_rcs hc hH 1 (pc' := 70) (lv' := [(1, .int 0), (0, .ref 50)]) (st' := [.ref 50]) (μ' := W0) (by rfl) ?_
      refine zq_gfr hc hH (by rfl) (ci := 6) (f := 38) (q := 70) (by rfl) (by decide +kernel) (by rfl) (by decide +kernel) ?_
      refine z_rcs hc hH 2 (pc' := 75) (lv' := [(1, .int 0), (0, .ref 50)]) (st' := [.int 1, .int 0, .ref 70]) (μ' := W0) (by rfl) ?_
      refine zq_bast hc hH (by rfl) 4 (by decide +kernel) (show vp_in (nI 0) 4 from vp_in_nI (by decide) (by decide)) (by decide) ?_
      rw [show (0 : Int32).toNatClampNeg = 0 from rfl]
      show Z 0 76 [(1, .int 0), (0, .ref 50)] [] (z_ui W0 70 0 1)
      exact zJ hJ2 rfl rfl (by unfold lgM; rw [h7, cond_true])
  · have h1 : (decide ((μ.1 50 59) = 0)) = false := decide_eq_false (cn_eq.mp h1)
    refine z_rcs hc hH 1 (pc' := 8) (lv' := [(0, .ref 50)]) (st' := [.ref 50]) (μ' := μ) (by rfl) ?_
    refine zq_gfr hc hH (by rfl) (ci := 6) (f := 29) (q := 61) (by rfl) (by decide +kernel) (by rfl) (by decide +kernel) ?_
    refine z_rcs hc hH 1 (pc' := 12) (lv' := [(0, .ref 50)]) (st' := [.ref 50, .ref 61]) (μ' := μ) (by rfl) ?_
    refine zq_gfi hc hH (by rfl) (ci := 6) (f := 45) (by rfl) (by decide +kernel) (by rfl) ?_
    rw [ht]
    refine z_rcs hc hH 1 (pc' := 16) (lv' := [(0, .ref 50)]) (st' := [.int 3, .ref 61, .int 3, .ref 61]) (μ' := μ) (by rfl) ?_
    refine zq_iald hc hH (by rfl) 4 (oka_i (by decide +kernel)) (show vp_in (nI 3) 4 from vp_in_nI (by decide) (by decide)) ?_
    rw [show (3 : Int32).toNatClampNeg = 3 from rfl]
    refine z_rcs hc hH 2 (pc' := 21) (lv' := [(0, .ref 50)]) (st' := [.int ((μ.1 61 3) - 1000), .int 3, .ref 61]) (μ' := μ) (by rfl) ?_
    refine zq_iast hc hH (by rfl) 4 (oka_i (by decide +kernel)).2 (show vp_in (nI 3) 4 from vp_in_nI (by decide) (by decide)) ?_
    rw [show (3 : Int32).toNatClampNeg = 3 from rfl]
    show Z 0 22 [(0, .ref 50)] [] (z_ui μ 61 3 ((μ.1 61 3) - 1000))
    refine z_rcs0 hc hH 2 (pc' := 24) (lv' := [(0, .ref 50)]) (st' := [.ref 50, .ref 50]) (by rfl) ?_
    refine zq_gfi hc hH (by rfl) (ci := 6) (f := 43) (by rfl) (by decide +kernel) (by rfl) ?_
    refine zV1 (Z := Z) (ui_o (by first | decide | omega)) ?_
    refine z_rcs0 hc hH 2 (pc' := 29) (lv' := [(0, .ref 50)]) (st' := [.int ((μ.1 50 43) + 1), .ref 50]) (by rfl) ?_
    refine zq_pfi hc hH (by rfl) (ci := 6) (f := 43) (by rfl) (by decide +kernel) (by rfl) ?_
    show Z 0 32 [(0, .ref 50)] [] (z_ui (z_ui μ 61 3 ((μ.1 61 3) - 1000)) 50 43 ((μ.1 50 43) + 1))
    refine z_rcs0 hc hH 2 (pc' := 34) (lv' := [(0, .ref 50)]) (st' := [.int 0, .ref 50]) (by rfl) ?_
    refine zq_pfb hc hH (by rfl) (ci := 6) (f := 59) (by rfl) (by decide +kernel) (by rfl) (by decide) ?_
    show Z 0 37 [(0, .ref 50)] [] (z_ui (z_ui (z_ui μ 61 3 ((μ.1 61 3) - 1000)) 50 43 ((μ.1 50 43) + 1)) 50 59 0)
    refine z_rcs0 hc hH 7 (pc' := 46) (lv' := [(1, .int 0), (0, .ref 50)]) (st' := [.ref 50, .int 0]) (by rfl) ?_
    refine zq_gfi hc hH (by rfl) (ci := 6) (f := 45) (by rfl) (by decide +kernel) (by rfl) ?_
    refine zV1 (Z := Z) (Eq.trans (ui_k (by first | decide | omega)) (Eq.trans (ui_k (by first | decide | omega)) (ui_o (by first | decide | omega)))) ?_
    rw [ht]
    refine z_rcs0 hc hH 3 (pc' := 54) (lv' := [(1, .int 0), (0, .ref 50)]) (st' := [.int 0, .ref 50]) (by rfl) ?_
    refine zq_call hc (z_cx_ok hH (by rfl)) (hw0 _ (SE_ui (SE_ui (SE_ui (SE_rf _) (by omega)) (by omega)) (by omega)) (a_H_ui (r := 50) (k := 59) (a_H_ui (r := 50) (k := 43) (a_H_ui (r := 61) (k := 3) (hH0) (bI_top _)) (bI_top _)) ⟨by decide, by decide⟩) d' (by omega)) (by decide +kernel) (fun r9 W0 hq => ?_)
    obtain ⟨rfl, hO0, hA0⟩ := hq
    show Z 0 57 [(1, .int 0), (0, .ref 50)] [.long w0] W0
    refine z_rcs hc hH 1 (pc' := 58) (lv' := [(1, .int 0), (0, .ref 50)]) (st' := [.ref 50, .long w0]) (μ' := W0) (by rfl) ?_
    refine zq_gfi hc hH (by rfl) (ci := 6) (f := 49) (by rfl) (by decide +kernel) (by rfl) ?_
    refine zV1 (Z := Z) (Eq.trans (hO0 _ _ (by omega)).1 (Eq.trans (ui_k (by first | decide | omega)) (Eq.trans (ui_k (by first | decide | omega)) (ui_o (by first | decide | omega))))) ?_
    rw [hc49]
    refine z_rcs hc hH 5 (pc' := 66) (lv' := [(1, .int 0), (0, .ref 50)]) (st' := [.int (lg_cmp ((w0 >>> ((nI c).toInt64 &&& 63)) &&& 1) 1)]) (μ' := W0) (by rfl) ?_
    have hJ8 : Z 0 76 [(1, .int 0), (0, .ref 50)] [] (lgM W0 0 (decide (lg_cmp ((w0 >>> ((nI c).toInt64 &&& 63)) &&& 1) 1 = 0))) := by
      refine z_rcs0 hc hH 7 (pc' := 46) (lv' := [(1, .int 1), (0, .ref 50)]) (st' := [.ref 50, .int 1]) (by rfl) ?_
      refine zq_gfi hc hH (by rfl) (ci := 6) (f := 45) (by rfl) (by decide +kernel) (by rfl) ?_
      refine zV1 (Z := Z) (Eq.trans (lgM_o (by first | decide | omega)) (Eq.trans (hO0 _ _ (by omega)).1 (Eq.trans (ui_k (by first | decide | omega)) (Eq.trans (ui_k (by first | decide | omega)) (ui_o (by first | decide | omega)))))) ?_
      rw [ht]
      refine z_rcs0 hc hH 3 (pc' := 54) (lv' := [(1, .int 1), (0, .ref 50)]) (st' := [.int 1, .ref 50]) (by rfl) ?_
      refine zq_call hc (z_cx_ok hH (by rfl)) (hw1 _ (SE_lg (SE_sm (SE_ui (SE_ui (SE_ui (SE_rf _) (by omega)) (by omega)) (by omega)) hO0)) (a_H_lg (hA0)) d' (by omega)) (by decide +kernel) (fun r9 W1 hq => ?_)
      obtain ⟨rfl, hO1, hA1⟩ := hq
      show Z 0 57 [(1, .int 1), (0, .ref 50)] [.long w1] W1
      refine z_rcs hc hH 1 (pc' := 58) (lv' := [(1, .int 1), (0, .ref 50)]) (st' := [.ref 50, .long w1]) (μ' := W1) (by rfl) ?_
      refine zq_gfi hc hH (by rfl) (ci := 6) (f := 49) (by rfl) (by decide +kernel) (by rfl) ?_
      refine zV1 (Z := Z) (Eq.trans (hO1 _ _ (by omega)).1 (Eq.trans (lgM_o (by first | decide | omega)) (Eq.trans (hO0 _ _ (by omega)).1 (Eq.trans (ui_k (by first | decide | omega)) (Eq.trans (ui_k (by first | decide | omega)) (ui_o (by first | decide | omega))))))) ?_
      rw [hc49]
      refine z_rcs hc hH 5 (pc' := 66) (lv' := [(1, .int 1), (0, .ref 50)]) (st' := [.int (lg_cmp ((w1 >>> ((nI c).toInt64 &&& 63)) &&& 1) 1)]) (μ' := W1) (by rfl) ?_
      have hJ9 : Z 0 76 [(1, .int 1), (0, .ref 50)] [] (lgM W1 1 (decide (lg_cmp ((w1 >>> ((nI c).toInt64 &&& 63)) &&& 1) 1 = 0))) := by
        refine z_rcs0 hc hH 7 (pc' := 46) (lv' := [(1, .int 2), (0, .ref 50)]) (st' := [.ref 50, .int 2]) (by rfl) ?_
        refine zq_gfi hc hH (by rfl) (ci := 6) (f := 45) (by rfl) (by decide +kernel) (by rfl) ?_
        refine zV1 (Z := Z) (Eq.trans (lgM_o (by first | decide | omega)) (Eq.trans (hO1 _ _ (by omega)).1 (Eq.trans (lgM_o (by first | decide | omega)) (Eq.trans (hO0 _ _ (by omega)).1 (Eq.trans (ui_k (by first | decide | omega)) (Eq.trans (ui_k (by first | decide | omega)) (ui_o (by first | decide | omega)))))))) ?_
        rw [ht]
        refine z_rcs0 hc hH 3 (pc' := 54) (lv' := [(1, .int 2), (0, .ref 50)]) (st' := [.int 2, .ref 50]) (by rfl) ?_
        refine zq_call hc (z_cx_ok hH (by rfl)) (hw2 _ (SE_lg (SE_sm (SE_lg (SE_sm (SE_ui (SE_ui (SE_ui (SE_rf _) (by omega)) (by omega)) (by omega)) hO0)) hO1)) (a_H_lg (hA1)) d' (by omega)) (by decide +kernel) (fun r9 W2 hq => ?_)
        obtain ⟨rfl, hO2, hA2⟩ := hq
        show Z 0 57 [(1, .int 2), (0, .ref 50)] [.long w2] W2
        refine z_rcs hc hH 1 (pc' := 58) (lv' := [(1, .int 2), (0, .ref 50)]) (st' := [.ref 50, .long w2]) (μ' := W2) (by rfl) ?_
        refine zq_gfi hc hH (by rfl) (ci := 6) (f := 49) (by rfl) (by decide +kernel) (by rfl) ?_
        refine zV1 (Z := Z) (Eq.trans (hO2 _ _ (by omega)).1 (Eq.trans (lgM_o (by first | decide | omega)) (Eq.trans (hO1 _ _ (by omega)).1 (Eq.trans (lgM_o (by first | decide | omega)) (Eq.trans (hO0 _ _ (by omega)).1 (Eq.trans (ui_k (by first | decide | omega)) (Eq.trans (ui_k (by first | decide | omega)) (ui_o (by first | decide | omega))))))))) ?_
        rw [hc49]
        refine z_rcs hc hH 5 (pc' := 66) (lv' := [(1, .int 2), (0, .ref 50)]) (st' := [.int (lg_cmp ((w2 >>> ((nI c).toInt64 &&& 63)) &&& 1) 1)]) (μ' := W2) (by rfl) ?_
        have hJ10 : Z 0 76 [(1, .int 2), (0, .ref 50)] [] (lgM W2 2 (decide (lg_cmp ((w2 >>> ((nI c).toInt64 &&& 63)) &&& 1) 1 = 0))) := by
          refine z_rcs0 hc hH 7 (pc' := 46) (lv' := [(1, .int 3), (0, .ref 50)]) (st' := [.ref 50, .int 3]) (by rfl) ?_
          refine zq_gfi hc hH (by rfl) (ci := 6) (f := 45) (by rfl) (by decide +kernel) (by rfl) ?_
          refine zV1 (Z := Z) (Eq.trans (lgM_o (by first | decide | omega)) (Eq.trans (hO2 _ _ (by omega)).1 (Eq.trans (lgM_o (by first | decide | omega)) (Eq.trans (hO1 _ _ (by omega)).1 (Eq.trans (lgM_o (by first | decide | omega)) (Eq.trans (hO0 _ _ (by omega)).1 (Eq.trans (ui_k (by first | decide | omega)) (Eq.trans (ui_k (by first | decide | omega)) (ui_o (by first | decide | omega)))))))))) ?_
          rw [ht]
          refine z_rcs0 hc hH 6 (pc' := 82) (lv' := [(1, .int 4), (0, .ref 50)]) (st' := []) (by rfl) ?_
          exact hr 0 82 _ _ _ none (by decide +kernel) (by rfl) (⟨rfl, by unfold ovM3; rw [h1, cond_false]; exact SM_lg (SM_tr (SM_lg (SM_tr (SM_lg (SM_tr (SM_ui (SM_ui (SM_ui (SM_rf _)))) hO0)) hO1)) hO2)⟩)
        refine zq_if hc hH (by rfl) (tg := 76) (by rfl) (fun h11 => ?_) (fun h11 => ?_)
        · have h11 : (decide ((lg_cmp ((w2 >>> ((nI c).toInt64 &&& 63)) &&& 1) 1) = 0)) = false := decide_eq_false (cm_ne.mp h11)
          exact zJ hJ10 rfl rfl (by unfold lgM; rw [h11, cond_false])
        · have h11 : (decide ((lg_cmp ((w2 >>> ((nI c).toInt64 &&& 63)) &&& 1) 1) = 0)) = true := decide_eq_true (cn_ne.mp h11)
          refine z_rcs hc hH 1 (pc' := 70) (lv' := [(1, .int 2), (0, .ref 50)]) (st' := [.ref 50]) (μ' := W2) (by rfl) ?_
          refine zq_gfr hc hH (by rfl) (ci := 6) (f := 38) (q := 70) (by rfl) (by decide +kernel) (by rfl) (by decide +kernel) ?_
          refine z_rcs hc hH 2 (pc' := 75) (lv' := [(1, .int 2), (0, .ref 50)]) (st' := [.int 1, .int 2, .ref 70]) (μ' := W2) (by rfl) ?_
          refine zq_bast hc hH (by rfl) 4 (by decide +kernel) (show vp_in (nI 2) 4 from vp_in_nI (by decide) (by decide)) (by decide) ?_
          rw [show (2 : Int32).toNatClampNeg = 2 from rfl]
          show Z 0 76 [(1, .int 2), (0, .ref 50)] [] (z_ui W2 70 2 1)
          exact zJ hJ10 rfl rfl (by unfold lgM; rw [h11, cond_true])
      refine zq_if hc hH (by rfl) (tg := 76) (by rfl) (fun h12 => ?_) (fun h12 => ?_)
      · have h12 : (decide ((lg_cmp ((w1 >>> ((nI c).toInt64 &&& 63)) &&& 1) 1) = 0)) = false := decide_eq_false (cm_ne.mp h12)
        exact zJ hJ9 rfl rfl (by unfold lgM; rw [h12, cond_false])
      · have h12 : (decide ((lg_cmp ((w1 >>> ((nI c).toInt64 &&& 63)) &&& 1) 1) = 0)) = true := decide_eq_true (cn_ne.mp h12)
        refine z_rcs hc hH 1 (pc' := 70) (lv' := [(1, .int 1), (0, .ref 50)]) (st' := [.ref 50]) (μ' := W1) (by rfl) ?_
        refine zq_gfr hc hH (by rfl) (ci := 6) (f := 38) (q := 70) (by rfl) (by decide +kernel) (by rfl) (by decide +kernel) ?_
        refine z_rcs hc hH 2 (pc' := 75) (lv' := [(1, .int 1), (0, .ref 50)]) (st' := [.int 1, .int 1, .ref 70]) (μ' := W1) (by rfl) ?_
        refine zq_bast hc hH (by rfl) 4 (by decide +kernel) (show vp_in (nI 1) 4 from vp_in_nI (by decide) (by decide)) (by decide) ?_
        rw [show (1 : Int32).toNatClampNeg = 1 from rfl]
        show Z 0 76 [(1, .int 1), (0, .ref 50)] [] (z_ui W1 70 1 1)
        exact zJ hJ9 rfl rfl (by unfold lgM; rw [h12, cond_true])
    refine zq_if hc hH (by rfl) (tg := 76) (by rfl) (fun h13 => ?_) (fun h13 => ?_)
    · have h13 : (decide ((lg_cmp ((w0 >>> ((nI c).toInt64 &&& 63)) &&& 1) 1) = 0)) = false := decide_eq_false (cm_ne.mp h13)
      exact zJ hJ8 rfl rfl (by unfold lgM; rw [h13, cond_false])
    · have h13 : (decide ((lg_cmp ((w0 >>> ((nI c).toInt64 &&& 63)) &&& 1) 1) = 0)) = true := decide_eq_true (cn_ne.mp h13)
      refine z_rcs hc hH 1 (pc' := 70) (lv' := [(1, .int 0), (0, .ref 50)]) (st' := [.ref 50]) (μ' := W0) (by rfl) ?_
      refine zq_gfr hc hH (by rfl) (ci := 6) (f := 38) (q := 70) (by rfl) (by decide +kernel) (by rfl) (by decide +kernel) ?_
      refine z_rcs hc hH 2 (pc' := 75) (lv' := [(1, .int 0), (0, .ref 50)]) (st' := [.int 1, .int 0, .ref 70]) (μ' := W0) (by rfl) ?_
      refine zq_bast hc hH (by rfl) 4 (by decide +kernel) (show vp_in (nI 0) 4 from vp_in_nI (by decide) (by decide)) (by decide) ?_
      rw [show (0 : Int32).toNatClampNeg = 0 from rfl]
      show Z 0 76 [(1, .int 0), (0, .ref 50)] [] (z_ui W0 70 0 1)
      exact zJ hJ8 rfl rfl (by unfold lgM; rw [h13, cond_true])
/-! the game: draws of the reference -/
set_option maxRecDepth 8000
theorem giv_o {μ : zM} {a c r k : Nat} {n : Int32} (h : r ≠ 60) : (z_giv μ a c n).1 r k = μ.1 r k := by
  unfold z_giv; exact ui_o h
theorem giv_j {μ : zM} {a c r k : Nat} {n : Int32} : (z_giv μ a c n).2.1 r k = μ.2.1 r k := rfl
noncomputable def dM0 (μ : zM) (s n k : Nat) : zM := (bif decide ((μ.1 67 s) = 0) then z_ui (z_ui (z_ui (z_ui (z_ui (z_ui (z_ui (z_ui (z_giv (z_ui (z_ui μ 50 46 (nI (n + 1))) 50 49 (nI k)) s k 1) 68 s ((μ.1 68 s) + 1)) 70 s 0) 50 45 (nI s)) 50 44 1) 50 57 0) 50 58 0) 50 50 (-1)) 50 51 (-1) else z_ui (z_ui (z_ui (z_ui (z_ui (z_ui (z_ui (z_giv (z_ui (z_ui μ 50 46 (nI (n + 1))) 50 49 (nI k)) s k 1) 68 s ((μ.1 68 s) + 1)) 50 45 (nI s)) 50 44 1) 50 57 0) 50 58 0) 50 50 (-1)) 50 51 (-1))
theorem gm_draws0 (d : Nat) (hd : 3 ≤ d) (μ : zM) (s n k : Nat) (hs4 : s < 4) (hn2 : n < 136) (hn : μ.1 50 46 = nI n) (hk : k < 34) (hkk : μ.1 59 (n) = nI k) : z_C d mi_X7_draws [.ref 50, .int (nI s), .int 0] μ (fun r μ' => r = none ∧ μ' = dM0 μ s n k) := by
  refine z_C_in (by decide) (by omega) (fun d' Z ed hc hr => ?_)
  have hH : zH mi_X7_draws zt_X7_draws 79 7 4 := hh_X7_draws
  refine z_rcs hc hH 3 (pc' := 15) (lv' := [(0, .ref 50), (1, .int (nI s)), (2, .int 0)]) (st' := [.ref 50]) (μ' := μ) (by rfl) ?_
  refine zq_gfi hc hH (by rfl) (ci := 6) (f := 46) (by rfl) (by decide +kernel) (by rfl) ?_
  rw [hn]
  refine z_rcs hc hH 5 (pc' := 38) (lv' := [(3, .int (nI n)), (0, .ref 50), (1, .int (nI s)), (2, .int 0)]) (st' := [.ref 50, .ref 50]) (μ' := μ) (by rfl) ?_
  refine zq_gfi hc hH (by rfl) (ci := 6) (f := 46) (by rfl) (by decide +kernel) (by rfl) ?_
  rw [hn]
  refine z_rcs hc hH 2 (pc' := 43) (lv' := [(3, .int (nI n)), (0, .ref 50), (1, .int (nI s)), (2, .int 0)]) (st' := [.int ((nI n) + 1), .ref 50]) (μ' := μ) (by rfl) ?_
  rw [nI_s1]
  refine zq_pfi hc hH (by rfl) (ci := 6) (f := 46) (by rfl) (by decide +kernel) (by rfl) ?_
  show Z 0 46 [(3, .int (nI n)), (0, .ref 50), (1, .int (nI s)), (2, .int 0)] [] (z_ui μ 50 46 (nI (n + 1)))
  refine z_rcs0 hc hH 2 (pc' := 48) (lv' := [(3, .int (nI n)), (0, .ref 50), (1, .int (nI s)), (2, .int 0)]) (st' := [.ref 50, .ref 50]) (by rfl) ?_
  refine zq_gfr hc hH (by rfl) (ci := 6) (f := 27) (q := 59) (by rfl) (by decide +kernel) (by rfl) (by decide +kernel) ?_
  refine z_rcs0 hc hH 1 (pc' := 52) (lv' := [(3, .int (nI n)), (0, .ref 50), (1, .int (nI s)), (2, .int 0)]) (st' := [.int (nI n), .ref 59, .ref 50]) (by rfl) ?_
  refine zq_iald hc hH (by rfl) 136 (oka_i (by decide +kernel)) (vp_in_nI (by omega) (by decide)) ?_
  rw [nI_clamp (by omega)]
  refine zV1 (Z := Z) (ui_o (by first | decide | omega)) ?_
  rw [hkk]
  refine zq_pfi hc hH (by rfl) (ci := 6) (f := 49) (by rfl) (by decide +kernel) (by rfl) ?_
  show Z 0 56 [(3, .int (nI n)), (0, .ref 50), (1, .int (nI s)), (2, .int 0)] [] (z_ui (z_ui μ 50 46 (nI (n + 1))) 50 49 (nI k))
  refine z_rcs0 hc hH 3 (pc' := 59) (lv' := [(3, .int (nI n)), (0, .ref 50), (1, .int (nI s)), (2, .int 0)]) (st' := [.ref 50, .int (nI s), .ref 50]) (by rfl) ?_
  refine zq_gfi hc hH (by rfl) (ci := 6) (f := 49) (by rfl) (by decide +kernel) (by rfl) ?_
  rw [ui_s]
  refine z_rcs0 hc hH 1 (pc' := 63) (lv' := [(3, .int (nI n)), (0, .ref 50), (1, .int (nI s)), (2, .int 0)]) (st' := [.int 1, .int (nI k), .int (nI s), .ref 50]) (by rfl) ?_
  refine zq_call hc (z_cx_ok hH (by rfl)) (fc_X7_gives d' (by omega) (z_ui (z_ui μ 50 46 (nI (n + 1))) 50 49 (nI k)) s k 1 hs4 hk) (by decide +kernel) (fun r9 μ9 hq => ?_)
  obtain ⟨rfl, rfl⟩ := hq
  show Z 0 66 [(3, .int (nI n)), (0, .ref 50), (1, .int (nI s)), (2, .int 0)] [] (z_giv (z_ui (z_ui μ 50 46 (nI (n + 1))) 50 49 (nI k)) s k 1)
  refine z_rcs0 hc hH 1 (pc' := 67) (lv' := [(3, .int (nI n)), (0, .ref 50), (1, .int (nI s)), (2, .int 0)]) (st' := [.ref 50]) (by rfl) ?_
  refine zq_gfr hc hH (by rfl) (ci := 6) (f := 36) (q := 68) (by rfl) (by decide +kernel) (by rfl) (by decide +kernel) ?_
  refine z_rcs0 hc hH 2 (pc' := 72) (lv' := [(3, .int (nI n)), (0, .ref 50), (1, .int (nI s)), (2, .int 0)]) (st' := [.int (nI s), .ref 68, .int (nI s), .ref 68]) (by rfl) ?_
  refine zq_iald hc hH (by rfl) 4 (oka_i (by decide +kernel)) (vp_in_nI (by omega) (by decide)) ?_
  rw [nI_clamp (by omega)]
  refine zV1 (Z := Z) (Eq.trans (giv_o (by first | decide | omega)) (Eq.trans (ui_o (by first | decide | omega)) (ui_o (by first | decide | omega)))) ?_
  refine z_rcs0 hc hH 2 (pc' := 75) (lv' := [(3, .int (nI n)), (0, .ref 50), (1, .int (nI s)), (2, .int 0)]) (st' := [.int ((μ.1 68 s) + 1), .int (nI s), .ref 68]) (by rfl) ?_
  refine zq_iast hc hH (by rfl) 4 (oka_i (by decide +kernel)).2 (vp_in_nI (by omega) (by decide)) ?_
  rw [nI_clamp (by omega)]
  show Z 0 76 [(3, .int (nI n)), (0, .ref 50), (1, .int (nI s)), (2, .int 0)] [] (z_ui (z_giv (z_ui (z_ui μ 50 46 (nI (n + 1))) 50 49 (nI k)) s k 1) 68 s ((μ.1 68 s) + 1))
  refine z_rcs0 hc hH 1 (pc' := 77) (lv' := [(3, .int (nI n)), (0, .ref 50), (1, .int (nI s)), (2, .int 0)]) (st' := [.ref 50]) (by rfl) ?_
  refine zq_gfr hc hH (by rfl) (ci := 6) (f := 35) (q := 67) (by rfl) (by decide +kernel) (by rfl) (by decide +kernel) ?_
  refine z_rcs0 hc hH 1 (pc' := 81) (lv' := [(3, .int (nI n)), (0, .ref 50), (1, .int (nI s)), (2, .int 0)]) (st' := [.int (nI s), .ref 67]) (by rfl) ?_
  refine zq_iald hc hH (by rfl) 4 (oka_i (by decide +kernel)) (vp_in_nI (by omega) (by decide)) ?_
  rw [nI_clamp (by omega)]
  refine zV1 (Z := Z) (Eq.trans (ui_o (by first | decide | omega)) (Eq.trans (giv_o (by first | decide | omega)) (Eq.trans (ui_o (by first | decide | omega)) (ui_o (by first | decide | omega))))) ?_
  refine zq_if hc hH (by rfl) (tg := 92) (by rfl) (fun h1 => ?_) (fun h1 => ?_)
  · have h1 : (decide ((μ.1 67 s) = 0)) = false := decide_eq_false (cm_ne.mp h1)
    refine z_rcs0 hc hH 2 (pc' := 94) (lv' := [(3, .int (nI n)), (0, .ref 50), (1, .int (nI s)), (2, .int 0)]) (st' := [.int (nI s), .ref 50]) (by rfl) ?_
    refine zq_pfi hc hH (by rfl) (ci := 6) (f := 45) (by rfl) (by decide +kernel) (by rfl) ?_
    show Z 0 97 [(3, .int (nI n)), (0, .ref 50), (1, .int (nI s)), (2, .int 0)] [] (z_ui (z_ui (z_giv (z_ui (z_ui μ 50 46 (nI (n + 1))) 50 49 (nI k)) s k 1) 68 s ((μ.1 68 s) + 1)) 50 45 (nI s))
    refine z_rcs0 hc hH 2 (pc' := 99) (lv' := [(3, .int (nI n)), (0, .ref 50), (1, .int (nI s)), (2, .int 0)]) (st' := [.int 1, .ref 50]) (by rfl) ?_
    refine zq_pfi hc hH (by rfl) (ci := 6) (f := 44) (by rfl) (by decide +kernel) (by rfl) ?_
    show Z 0 102 [(3, .int (nI n)), (0, .ref 50), (1, .int (nI s)), (2, .int 0)] [] (z_ui (z_ui (z_ui (z_giv (z_ui (z_ui μ 50 46 (nI (n + 1))) 50 49 (nI k)) s k 1) 68 s ((μ.1 68 s) + 1)) 50 45 (nI s)) 50 44 1)
    refine z_rcs0 hc hH 2 (pc' := 104) (lv' := [(3, .int (nI n)), (0, .ref 50), (1, .int (nI s)), (2, .int 0)]) (st' := [.int 0, .ref 50]) (by rfl) ?_
    refine zq_pfb hc hH (by rfl) (ci := 6) (f := 57) (by rfl) (by decide +kernel) (by rfl) (by decide) ?_
    show Z 0 107 [(3, .int (nI n)), (0, .ref 50), (1, .int (nI s)), (2, .int 0)] [] (z_ui (z_ui (z_ui (z_ui (z_giv (z_ui (z_ui μ 50 46 (nI (n + 1))) 50 49 (nI k)) s k 1) 68 s ((μ.1 68 s) + 1)) 50 45 (nI s)) 50 44 1) 50 57 0)
    refine z_rcs0 hc hH 2 (pc' := 109) (lv' := [(3, .int (nI n)), (0, .ref 50), (1, .int (nI s)), (2, .int 0)]) (st' := [.int 0, .ref 50]) (by rfl) ?_
    refine zq_pfb hc hH (by rfl) (ci := 6) (f := 58) (by rfl) (by decide +kernel) (by rfl) (by decide) ?_
    show Z 0 112 [(3, .int (nI n)), (0, .ref 50), (1, .int (nI s)), (2, .int 0)] [] (z_ui (z_ui (z_ui (z_ui (z_ui (z_giv (z_ui (z_ui μ 50 46 (nI (n + 1))) 50 49 (nI k)) s k 1) 68 s ((μ.1 68 s) + 1)) 50 45 (nI s)) 50 44 1) 50 57 0) 50 58 0)
    refine z_rcs0 hc hH 2 (pc' := 114) (lv' := [(3, .int (nI n)), (0, .ref 50), (1, .int (nI s)), (2, .int 0)]) (st' := [.int (-1), .ref 50]) (by rfl) ?_
    refine zq_pfi hc hH (by rfl) (ci := 6) (f := 50) (by rfl) (by decide +kernel) (by rfl) ?_
    show Z 0 117 [(3, .int (nI n)), (0, .ref 50), (1, .int (nI s)), (2, .int 0)] [] (z_ui (z_ui (z_ui (z_ui (z_ui (z_ui (z_giv (z_ui (z_ui μ 50 46 (nI (n + 1))) 50 49 (nI k)) s k 1) 68 s ((μ.1 68 s) + 1)) 50 45 (nI s)) 50 44 1) 50 57 0) 50 58 0) 50 50 (-1))
    refine z_rcs0 hc hH 2 (pc' := 119) (lv' := [(3, .int (nI n)), (0, .ref 50), (1, .int (nI s)), (2, .int 0)]) (st' := [.int (-1), .ref 50]) (by rfl) ?_
    refine zq_pfi hc hH (by rfl) (ci := 6) (f := 51) (by rfl) (by decide +kernel) (by rfl) ?_
    show Z 0 122 [(3, .int (nI n)), (0, .ref 50), (1, .int (nI s)), (2, .int 0)] [] (z_ui (z_ui (z_ui (z_ui (z_ui (z_ui (z_ui (z_giv (z_ui (z_ui μ 50 46 (nI (n + 1))) 50 49 (nI k)) s k 1) 68 s ((μ.1 68 s) + 1)) 50 45 (nI s)) 50 44 1) 50 57 0) 50 58 0) 50 50 (-1)) 50 51 (-1))
    exact hr 0 122 _ _ _ none (by decide +kernel) (by rfl) (⟨rfl, (by unfold dM0; simp only [h1, cond_true, cond_false])⟩)
  · have h1 : (decide ((μ.1 67 s) = 0)) = true := decide_eq_true (cn_ne.mp h1)
    refine z_rcs hc hH 1 (pc' := 86) (lv' := [(3, .int (nI n)), (0, .ref 50), (1, .int (nI s)), (2, .int 0)]) (st' := [.ref 50]) (μ' := z_ui (z_giv (z_ui (z_ui μ 50 46 (nI (n + 1))) 50 49 (nI k)) s k 1) 68 s ((μ.1 68 s) + 1)) (by rfl) ?_
    refine zq_gfr hc hH (by rfl) (ci := 6) (f := 38) (q := 70) (by rfl) (by decide +kernel) (by rfl) (by decide +kernel) ?_
    refine z_rcs0 hc hH 2 (pc' := 91) (lv' := [(3, .int (nI n)), (0, .ref 50), (1, .int (nI s)), (2, .int 0)]) (st' := [.int 0, .int (nI s), .ref 70]) (by rfl) ?_
    refine zq_bast hc hH (by rfl) 4 (by decide +kernel) (vp_in_nI (by omega) (by decide)) (by decide) ?_
    rw [nI_clamp (by omega)]
    show Z 0 92 [(3, .int (nI n)), (0, .ref 50), (1, .int (nI s)), (2, .int 0)] [] (z_ui (z_ui (z_giv (z_ui (z_ui μ 50 46 (nI (n + 1))) 50 49 (nI k)) s k 1) 68 s ((μ.1 68 s) + 1)) 70 s 0)
    refine z_rcs0 hc hH 2 (pc' := 94) (lv' := [(3, .int (nI n)), (0, .ref 50), (1, .int (nI s)), (2, .int 0)]) (st' := [.int (nI s), .ref 50]) (by rfl) ?_
    refine zq_pfi hc hH (by rfl) (ci := 6) (f := 45) (by rfl) (by decide +kernel) (by rfl) ?_
    show Z 0 97 [(3, .int (nI n)), (0, .ref 50), (1, .int (nI s)), (2, .int 0)] [] (z_ui (z_ui (z_ui (z_giv (z_ui (z_ui μ 50 46 (nI (n + 1))) 50 49 (nI k)) s k 1) 68 s ((μ.1 68 s) + 1)) 70 s 0) 50 45 (nI s))
    refine z_rcs0 hc hH 2 (pc' := 99) (lv' := [(3, .int (nI n)), (0, .ref 50), (1, .int (nI s)), (2, .int 0)]) (st' := [.int 1, .ref 50]) (by rfl) ?_
    refine zq_pfi hc hH (by rfl) (ci := 6) (f := 44) (by rfl) (by decide +kernel) (by rfl) ?_
    show Z 0 102 [(3, .int (nI n)), (0, .ref 50), (1, .int (nI s)), (2, .int 0)] [] (z_ui (z_ui (z_ui (z_ui (z_giv (z_ui (z_ui μ 50 46 (nI (n + 1))) 50 49 (nI k)) s k 1) 68 s ((μ.1 68 s) + 1)) 70 s 0) 50 45 (nI s)) 50 44 1)
    refine z_rcs0 hc hH 2 (pc' := 104) (lv' := [(3, .int (nI n)), (0, .ref 50), (1, .int (nI s)), (2, .int 0)]) (st' := [.int 0, .ref 50]) (by rfl) ?_
    refine zq_pfb hc hH (by rfl) (ci := 6) (f := 57) (by rfl) (by decide +kernel) (by rfl) (by decide) ?_
    show Z 0 107 [(3, .int (nI n)), (0, .ref 50), (1, .int (nI s)), (2, .int 0)] [] (z_ui (z_ui (z_ui (z_ui (z_ui (z_giv (z_ui (z_ui μ 50 46 (nI (n + 1))) 50 49 (nI k)) s k 1) 68 s ((μ.1 68 s) + 1)) 70 s 0) 50 45 (nI s)) 50 44 1) 50 57 0)
    refine z_rcs0 hc hH 2 (pc' := 109) (lv' := [(3, .int (nI n)), (0, .ref 50), (1, .int (nI s)), (2, .int 0)]) (st' := [.int 0, .ref 50]) (by rfl) ?_
    refine zq_pfb hc hH (by rfl) (ci := 6) (f := 58) (by rfl) (by decide +kernel) (by rfl) (by decide) ?_
    show Z 0 112 [(3, .int (nI n)), (0, .ref 50), (1, .int (nI s)), (2, .int 0)] [] (z_ui (z_ui (z_ui (z_ui (z_ui (z_ui (z_giv (z_ui (z_ui μ 50 46 (nI (n + 1))) 50 49 (nI k)) s k 1) 68 s ((μ.1 68 s) + 1)) 70 s 0) 50 45 (nI s)) 50 44 1) 50 57 0) 50 58 0)
    refine z_rcs0 hc hH 2 (pc' := 114) (lv' := [(3, .int (nI n)), (0, .ref 50), (1, .int (nI s)), (2, .int 0)]) (st' := [.int (-1), .ref 50]) (by rfl) ?_
    refine zq_pfi hc hH (by rfl) (ci := 6) (f := 50) (by rfl) (by decide +kernel) (by rfl) ?_
    show Z 0 117 [(3, .int (nI n)), (0, .ref 50), (1, .int (nI s)), (2, .int 0)] [] (z_ui (z_ui (z_ui (z_ui (z_ui (z_ui (z_ui (z_giv (z_ui (z_ui μ 50 46 (nI (n + 1))) 50 49 (nI k)) s k 1) 68 s ((μ.1 68 s) + 1)) 70 s 0) 50 45 (nI s)) 50 44 1) 50 57 0) 50 58 0) 50 50 (-1))
    refine z_rcs0 hc hH 2 (pc' := 119) (lv' := [(3, .int (nI n)), (0, .ref 50), (1, .int (nI s)), (2, .int 0)]) (st' := [.int (-1), .ref 50]) (by rfl) ?_
    refine zq_pfi hc hH (by rfl) (ci := 6) (f := 51) (by rfl) (by decide +kernel) (by rfl) ?_
    show Z 0 122 [(3, .int (nI n)), (0, .ref 50), (1, .int (nI s)), (2, .int 0)] [] (z_ui (z_ui (z_ui (z_ui (z_ui (z_ui (z_ui (z_ui (z_giv (z_ui (z_ui μ 50 46 (nI (n + 1))) 50 49 (nI k)) s k 1) 68 s ((μ.1 68 s) + 1)) 70 s 0) 50 45 (nI s)) 50 44 1) 50 57 0) 50 58 0) 50 50 (-1)) 50 51 (-1))
    exact hr 0 122 _ _ _ none (by decide +kernel) (by rfl) (⟨rfl, (by unfold dM0; simp only [h1, cond_true, cond_false])⟩)
noncomputable def dM1 (μ : zM) (s n k : Nat) : zM := (bif decide ((μ.1 67 s) = 0) then z_ui (z_ui (z_ui (z_ui (z_ui (z_ui (z_ui (z_ui (z_giv (z_ui (z_ui μ 50 48 (nI (n + 1))) 50 49 (nI k)) s k 1) 68 s ((μ.1 68 s) + 1)) 70 s 0) 50 45 (nI s)) 50 44 1) 50 57 0) 50 58 1) 50 50 (-1)) 50 51 (-1) else z_ui (z_ui (z_ui (z_ui (z_ui (z_ui (z_ui (z_giv (z_ui (z_ui μ 50 48 (nI (n + 1))) 50 49 (nI k)) s k 1) 68 s ((μ.1 68 s) + 1)) 50 45 (nI s)) 50 44 1) 50 57 0) 50 58 1) 50 50 (-1)) 50 51 (-1))
theorem gm_draws1 (d : Nat) (hd : 3 ≤ d) (μ : zM) (s n k : Nat) (hs4 : s < 4) (hn2 : n < 14) (hn : μ.1 50 48 = nI n) (hk : k < 34) (hkk : μ.1 59 (122 + n) = nI k) : z_C d mi_X7_draws [.ref 50, .int (nI s), .int 1] μ (fun r μ' => r = none ∧ μ' = dM1 μ s n k) := by
  refine z_C_in (by decide) (by omega) (fun d' Z ed hc hr => ?_)
  have hH : zH mi_X7_draws zt_X7_draws 79 7 4 := hh_X7_draws
  refine z_rcs hc hH 4 (pc' := 7) (lv' := [(0, .ref 50), (1, .int (nI s)), (2, .int 1)]) (st' := [.ref 50, .int 122]) (μ' := μ) (by rfl) ?_
  refine zq_gfi hc hH (by rfl) (ci := 6) (f := 48) (by rfl) (by decide +kernel) (by rfl) ?_
  rw [hn]
  refine z_rcs hc hH 1 (pc' := 11) (lv' := [(0, .ref 50), (1, .int (nI s)), (2, .int 1)]) (st' := [.int (122 + (nI n))]) (μ' := μ) (by rfl) ?_
  rw [nI_122]
  refine z_rcs hc hH 6 (pc' := 25) (lv' := [(3, .int (nI (122 + n))), (0, .ref 50), (1, .int (nI s)), (2, .int 1)]) (st' := [.ref 50, .ref 50]) (μ' := μ) (by rfl) ?_
  refine zq_gfi hc hH (by rfl) (ci := 6) (f := 48) (by rfl) (by decide +kernel) (by rfl) ?_
  rw [hn]
  refine z_rcs hc hH 2 (pc' := 30) (lv' := [(3, .int (nI (122 + n))), (0, .ref 50), (1, .int (nI s)), (2, .int 1)]) (st' := [.int ((nI n) + 1), .ref 50]) (μ' := μ) (by rfl) ?_
  rw [nI_s1]
  refine zq_pfi hc hH (by rfl) (ci := 6) (f := 48) (by rfl) (by decide +kernel) (by rfl) ?_
  show Z 0 33 [(3, .int (nI (122 + n))), (0, .ref 50), (1, .int (nI s)), (2, .int 1)] [] (z_ui μ 50 48 (nI (n + 1)))
  refine z_rcs0 hc hH 3 (pc' := 48) (lv' := [(3, .int (nI (122 + n))), (0, .ref 50), (1, .int (nI s)), (2, .int 1)]) (st' := [.ref 50, .ref 50]) (by rfl) ?_
  refine zq_gfr hc hH (by rfl) (ci := 6) (f := 27) (q := 59) (by rfl) (by decide +kernel) (by rfl) (by decide +kernel) ?_
  refine z_rcs0 hc hH 1 (pc' := 52) (lv' := [(3, .int (nI (122 + n))), (0, .ref 50), (1, .int (nI s)), (2, .int 1)]) (st' := [.int (nI (122 + n)), .ref 59, .ref 50]) (by rfl) ?_
  refine zq_iald hc hH (by rfl) 136 (oka_i (by decide +kernel)) (vp_in_nI (by omega) (by decide)) ?_
  rw [nI_clamp (by omega)]
  refine zV1 (Z := Z) (ui_o (by first | decide | omega)) ?_
  rw [hkk]
  refine zq_pfi hc hH (by rfl) (ci := 6) (f := 49) (by rfl) (by decide +kernel) (by rfl) ?_
  show Z 0 56 [(3, .int (nI (122 + n))), (0, .ref 50), (1, .int (nI s)), (2, .int 1)] [] (z_ui (z_ui μ 50 48 (nI (n + 1))) 50 49 (nI k))
  refine z_rcs0 hc hH 3 (pc' := 59) (lv' := [(3, .int (nI (122 + n))), (0, .ref 50), (1, .int (nI s)), (2, .int 1)]) (st' := [.ref 50, .int (nI s), .ref 50]) (by rfl) ?_
  refine zq_gfi hc hH (by rfl) (ci := 6) (f := 49) (by rfl) (by decide +kernel) (by rfl) ?_
  rw [ui_s]
  refine z_rcs0 hc hH 1 (pc' := 63) (lv' := [(3, .int (nI (122 + n))), (0, .ref 50), (1, .int (nI s)), (2, .int 1)]) (st' := [.int 1, .int (nI k), .int (nI s), .ref 50]) (by rfl) ?_
  refine zq_call hc (z_cx_ok hH (by rfl)) (fc_X7_gives d' (by omega) (z_ui (z_ui μ 50 48 (nI (n + 1))) 50 49 (nI k)) s k 1 hs4 hk) (by decide +kernel) (fun r9 μ9 hq => ?_)
  obtain ⟨rfl, rfl⟩ := hq
  show Z 0 66 [(3, .int (nI (122 + n))), (0, .ref 50), (1, .int (nI s)), (2, .int 1)] [] (z_giv (z_ui (z_ui μ 50 48 (nI (n + 1))) 50 49 (nI k)) s k 1)
  refine z_rcs0 hc hH 1 (pc' := 67) (lv' := [(3, .int (nI (122 + n))), (0, .ref 50), (1, .int (nI s)), (2, .int 1)]) (st' := [.ref 50]) (by rfl) ?_
  refine zq_gfr hc hH (by rfl) (ci := 6) (f := 36) (q := 68) (by rfl) (by decide +kernel) (by rfl) (by decide +kernel) ?_
  refine z_rcs0 hc hH 2 (pc' := 72) (lv' := [(3, .int (nI (122 + n))), (0, .ref 50), (1, .int (nI s)), (2, .int 1)]) (st' := [.int (nI s), .ref 68, .int (nI s), .ref 68]) (by rfl) ?_
  refine zq_iald hc hH (by rfl) 4 (oka_i (by decide +kernel)) (vp_in_nI (by omega) (by decide)) ?_
  rw [nI_clamp (by omega)]
  refine zV1 (Z := Z) (Eq.trans (giv_o (by first | decide | omega)) (Eq.trans (ui_o (by first | decide | omega)) (ui_o (by first | decide | omega)))) ?_
  refine z_rcs0 hc hH 2 (pc' := 75) (lv' := [(3, .int (nI (122 + n))), (0, .ref 50), (1, .int (nI s)), (2, .int 1)]) (st' := [.int ((μ.1 68 s) + 1), .int (nI s), .ref 68]) (by rfl) ?_
  refine zq_iast hc hH (by rfl) 4 (oka_i (by decide +kernel)).2 (vp_in_nI (by omega) (by decide)) ?_
  rw [nI_clamp (by omega)]
  show Z 0 76 [(3, .int (nI (122 + n))), (0, .ref 50), (1, .int (nI s)), (2, .int 1)] [] (z_ui (z_giv (z_ui (z_ui μ 50 48 (nI (n + 1))) 50 49 (nI k)) s k 1) 68 s ((μ.1 68 s) + 1))
  refine z_rcs0 hc hH 1 (pc' := 77) (lv' := [(3, .int (nI (122 + n))), (0, .ref 50), (1, .int (nI s)), (2, .int 1)]) (st' := [.ref 50]) (by rfl) ?_
  refine zq_gfr hc hH (by rfl) (ci := 6) (f := 35) (q := 67) (by rfl) (by decide +kernel) (by rfl) (by decide +kernel) ?_
  refine z_rcs0 hc hH 1 (pc' := 81) (lv' := [(3, .int (nI (122 + n))), (0, .ref 50), (1, .int (nI s)), (2, .int 1)]) (st' := [.int (nI s), .ref 67]) (by rfl) ?_
  refine zq_iald hc hH (by rfl) 4 (oka_i (by decide +kernel)) (vp_in_nI (by omega) (by decide)) ?_
  rw [nI_clamp (by omega)]
  refine zV1 (Z := Z) (Eq.trans (ui_o (by first | decide | omega)) (Eq.trans (giv_o (by first | decide | omega)) (Eq.trans (ui_o (by first | decide | omega)) (ui_o (by first | decide | omega))))) ?_
  refine zq_if hc hH (by rfl) (tg := 92) (by rfl) (fun h1 => ?_) (fun h1 => ?_)
  · have h1 : (decide ((μ.1 67 s) = 0)) = false := decide_eq_false (cm_ne.mp h1)
    refine z_rcs0 hc hH 2 (pc' := 94) (lv' := [(3, .int (nI (122 + n))), (0, .ref 50), (1, .int (nI s)), (2, .int 1)]) (st' := [.int (nI s), .ref 50]) (by rfl) ?_
    refine zq_pfi hc hH (by rfl) (ci := 6) (f := 45) (by rfl) (by decide +kernel) (by rfl) ?_
    show Z 0 97 [(3, .int (nI (122 + n))), (0, .ref 50), (1, .int (nI s)), (2, .int 1)] [] (z_ui (z_ui (z_giv (z_ui (z_ui μ 50 48 (nI (n + 1))) 50 49 (nI k)) s k 1) 68 s ((μ.1 68 s) + 1)) 50 45 (nI s))
    refine z_rcs0 hc hH 2 (pc' := 99) (lv' := [(3, .int (nI (122 + n))), (0, .ref 50), (1, .int (nI s)), (2, .int 1)]) (st' := [.int 1, .ref 50]) (by rfl) ?_
    refine zq_pfi hc hH (by rfl) (ci := 6) (f := 44) (by rfl) (by decide +kernel) (by rfl) ?_
    show Z 0 102 [(3, .int (nI (122 + n))), (0, .ref 50), (1, .int (nI s)), (2, .int 1)] [] (z_ui (z_ui (z_ui (z_giv (z_ui (z_ui μ 50 48 (nI (n + 1))) 50 49 (nI k)) s k 1) 68 s ((μ.1 68 s) + 1)) 50 45 (nI s)) 50 44 1)
    refine z_rcs0 hc hH 2 (pc' := 104) (lv' := [(3, .int (nI (122 + n))), (0, .ref 50), (1, .int (nI s)), (2, .int 1)]) (st' := [.int 0, .ref 50]) (by rfl) ?_
    refine zq_pfb hc hH (by rfl) (ci := 6) (f := 57) (by rfl) (by decide +kernel) (by rfl) (by decide) ?_
    show Z 0 107 [(3, .int (nI (122 + n))), (0, .ref 50), (1, .int (nI s)), (2, .int 1)] [] (z_ui (z_ui (z_ui (z_ui (z_giv (z_ui (z_ui μ 50 48 (nI (n + 1))) 50 49 (nI k)) s k 1) 68 s ((μ.1 68 s) + 1)) 50 45 (nI s)) 50 44 1) 50 57 0)
    refine z_rcs0 hc hH 2 (pc' := 109) (lv' := [(3, .int (nI (122 + n))), (0, .ref 50), (1, .int (nI s)), (2, .int 1)]) (st' := [.int 1, .ref 50]) (by rfl) ?_
    refine zq_pfb hc hH (by rfl) (ci := 6) (f := 58) (by rfl) (by decide +kernel) (by rfl) (by decide) ?_
    show Z 0 112 [(3, .int (nI (122 + n))), (0, .ref 50), (1, .int (nI s)), (2, .int 1)] [] (z_ui (z_ui (z_ui (z_ui (z_ui (z_giv (z_ui (z_ui μ 50 48 (nI (n + 1))) 50 49 (nI k)) s k 1) 68 s ((μ.1 68 s) + 1)) 50 45 (nI s)) 50 44 1) 50 57 0) 50 58 1)
    refine z_rcs0 hc hH 2 (pc' := 114) (lv' := [(3, .int (nI (122 + n))), (0, .ref 50), (1, .int (nI s)), (2, .int 1)]) (st' := [.int (-1), .ref 50]) (by rfl) ?_
    refine zq_pfi hc hH (by rfl) (ci := 6) (f := 50) (by rfl) (by decide +kernel) (by rfl) ?_
    show Z 0 117 [(3, .int (nI (122 + n))), (0, .ref 50), (1, .int (nI s)), (2, .int 1)] [] (z_ui (z_ui (z_ui (z_ui (z_ui (z_ui (z_giv (z_ui (z_ui μ 50 48 (nI (n + 1))) 50 49 (nI k)) s k 1) 68 s ((μ.1 68 s) + 1)) 50 45 (nI s)) 50 44 1) 50 57 0) 50 58 1) 50 50 (-1))
    refine z_rcs0 hc hH 2 (pc' := 119) (lv' := [(3, .int (nI (122 + n))), (0, .ref 50), (1, .int (nI s)), (2, .int 1)]) (st' := [.int (-1), .ref 50]) (by rfl) ?_
    refine zq_pfi hc hH (by rfl) (ci := 6) (f := 51) (by rfl) (by decide +kernel) (by rfl) ?_
    show Z 0 122 [(3, .int (nI (122 + n))), (0, .ref 50), (1, .int (nI s)), (2, .int 1)] [] (z_ui (z_ui (z_ui (z_ui (z_ui (z_ui (z_ui (z_giv (z_ui (z_ui μ 50 48 (nI (n + 1))) 50 49 (nI k)) s k 1) 68 s ((μ.1 68 s) + 1)) 50 45 (nI s)) 50 44 1) 50 57 0) 50 58 1) 50 50 (-1)) 50 51 (-1))
    exact hr 0 122 _ _ _ none (by decide +kernel) (by rfl) (⟨rfl, (by unfold dM1; simp only [h1, cond_true, cond_false])⟩)
  · have h1 : (decide ((μ.1 67 s) = 0)) = true := decide_eq_true (cn_ne.mp h1)
    refine z_rcs hc hH 1 (pc' := 86) (lv' := [(3, .int (nI (122 + n))), (0, .ref 50), (1, .int (nI s)), (2, .int 1)]) (st' := [.ref 50]) (μ' := z_ui (z_giv (z_ui (z_ui μ 50 48 (nI (n + 1))) 50 49 (nI k)) s k 1) 68 s ((μ.1 68 s) + 1)) (by rfl) ?_
    refine zq_gfr hc hH (by rfl) (ci := 6) (f := 38) (q := 70) (by rfl) (by decide +kernel) (by rfl) (by decide +kernel) ?_
    refine z_rcs0 hc hH 2 (pc' := 91) (lv' := [(3, .int (nI (122 + n))), (0, .ref 50), (1, .int (nI s)), (2, .int 1)]) (st' := [.int 0, .int (nI s), .ref 70]) (by rfl) ?_
    refine zq_bast hc hH (by rfl) 4 (by decide +kernel) (vp_in_nI (by omega) (by decide)) (by decide) ?_
    rw [nI_clamp (by omega)]
    show Z 0 92 [(3, .int (nI (122 + n))), (0, .ref 50), (1, .int (nI s)), (2, .int 1)] [] (z_ui (z_ui (z_giv (z_ui (z_ui μ 50 48 (nI (n + 1))) 50 49 (nI k)) s k 1) 68 s ((μ.1 68 s) + 1)) 70 s 0)
    refine z_rcs0 hc hH 2 (pc' := 94) (lv' := [(3, .int (nI (122 + n))), (0, .ref 50), (1, .int (nI s)), (2, .int 1)]) (st' := [.int (nI s), .ref 50]) (by rfl) ?_
    refine zq_pfi hc hH (by rfl) (ci := 6) (f := 45) (by rfl) (by decide +kernel) (by rfl) ?_
    show Z 0 97 [(3, .int (nI (122 + n))), (0, .ref 50), (1, .int (nI s)), (2, .int 1)] [] (z_ui (z_ui (z_ui (z_giv (z_ui (z_ui μ 50 48 (nI (n + 1))) 50 49 (nI k)) s k 1) 68 s ((μ.1 68 s) + 1)) 70 s 0) 50 45 (nI s))
    refine z_rcs0 hc hH 2 (pc' := 99) (lv' := [(3, .int (nI (122 + n))), (0, .ref 50), (1, .int (nI s)), (2, .int 1)]) (st' := [.int 1, .ref 50]) (by rfl) ?_
    refine zq_pfi hc hH (by rfl) (ci := 6) (f := 44) (by rfl) (by decide +kernel) (by rfl) ?_
    show Z 0 102 [(3, .int (nI (122 + n))), (0, .ref 50), (1, .int (nI s)), (2, .int 1)] [] (z_ui (z_ui (z_ui (z_ui (z_giv (z_ui (z_ui μ 50 48 (nI (n + 1))) 50 49 (nI k)) s k 1) 68 s ((μ.1 68 s) + 1)) 70 s 0) 50 45 (nI s)) 50 44 1)
    refine z_rcs0 hc hH 2 (pc' := 104) (lv' := [(3, .int (nI (122 + n))), (0, .ref 50), (1, .int (nI s)), (2, .int 1)]) (st' := [.int 0, .ref 50]) (by rfl) ?_
    refine zq_pfb hc hH (by rfl) (ci := 6) (f := 57) (by rfl) (by decide +kernel) (by rfl) (by decide) ?_
    show Z 0 107 [(3, .int (nI (122 + n))), (0, .ref 50), (1, .int (nI s)), (2, .int 1)] [] (z_ui (z_ui (z_ui (z_ui (z_ui (z_giv (z_ui (z_ui μ 50 48 (nI (n + 1))) 50 49 (nI k)) s k 1) 68 s ((μ.1 68 s) + 1)) 70 s 0) 50 45 (nI s)) 50 44 1) 50 57 0)
    refine z_rcs0 hc hH 2 (pc' := 109) (lv' := [(3, .int (nI (122 + n))), (0, .ref 50), (1, .int (nI s)), (2, .int 1)]) (st' := [.int 1, .ref 50]) (by rfl) ?_
    refine zq_pfb hc hH (by rfl) (ci := 6) (f := 58) (by rfl) (by decide +kernel) (by rfl) (by decide) ?_
    show Z 0 112 [(3, .int (nI (122 + n))), (0, .ref 50), (1, .int (nI s)), (2, .int 1)] [] (z_ui (z_ui (z_ui (z_ui (z_ui (z_ui (z_giv (z_ui (z_ui μ 50 48 (nI (n + 1))) 50 49 (nI k)) s k 1) 68 s ((μ.1 68 s) + 1)) 70 s 0) 50 45 (nI s)) 50 44 1) 50 57 0) 50 58 1)
    refine z_rcs0 hc hH 2 (pc' := 114) (lv' := [(3, .int (nI (122 + n))), (0, .ref 50), (1, .int (nI s)), (2, .int 1)]) (st' := [.int (-1), .ref 50]) (by rfl) ?_
    refine zq_pfi hc hH (by rfl) (ci := 6) (f := 50) (by rfl) (by decide +kernel) (by rfl) ?_
    show Z 0 117 [(3, .int (nI (122 + n))), (0, .ref 50), (1, .int (nI s)), (2, .int 1)] [] (z_ui (z_ui (z_ui (z_ui (z_ui (z_ui (z_ui (z_giv (z_ui (z_ui μ 50 48 (nI (n + 1))) 50 49 (nI k)) s k 1) 68 s ((μ.1 68 s) + 1)) 70 s 0) 50 45 (nI s)) 50 44 1) 50 57 0) 50 58 1) 50 50 (-1))
    refine z_rcs0 hc hH 2 (pc' := 119) (lv' := [(3, .int (nI (122 + n))), (0, .ref 50), (1, .int (nI s)), (2, .int 1)]) (st' := [.int (-1), .ref 50]) (by rfl) ?_
    refine zq_pfi hc hH (by rfl) (ci := 6) (f := 51) (by rfl) (by decide +kernel) (by rfl) ?_
    show Z 0 122 [(3, .int (nI (122 + n))), (0, .ref 50), (1, .int (nI s)), (2, .int 1)] [] (z_ui (z_ui (z_ui (z_ui (z_ui (z_ui (z_ui (z_ui (z_giv (z_ui (z_ui μ 50 48 (nI (n + 1))) 50 49 (nI k)) s k 1) 68 s ((μ.1 68 s) + 1)) 70 s 0) 50 45 (nI s)) 50 44 1) 50 57 0) 50 58 1) 50 50 (-1)) 50 51 (-1))
    exact hr 0 122 _ _ _ none (by decide +kernel) (by rfl) (⟨rfl, (by unfold dM1; simp only [h1, cond_true, cond_false])⟩)
/-! the game: claims, hide of the reference -/
set_option maxRecDepth 8000
theorem lys_o {μ : zM} {a q r k : Nat} {so kk : Int32} (h : r ≠ 62 ∧ r ≠ 63 ∧ r ≠ 64) : (z_lys μ a q so kk).1 r k = μ.1 r k := by
  unfold z_lys; rw [ui_o h.2.2, ui_o h.2.1, ui_o h.1]
theorem lys_j {μ : zM} {a q r k : Nat} {so kk : Int32} : (z_lys μ a q so kk).2.1 r k = μ.2.1 r k := rfl
theorem toM_o {μ : zM} {r k : Nat} (h : r ≠ 69 ∧ (r ≠ 50 ∨ k ≠ 56)) : (toM μ).1 r k = μ.1 r k := by
  unfold toM
  rw [ui_o h.1, ui_o h.1, ui_o h.1, ui_o h.1]
  rcases h.2 with c | c
  · exact ui_o c
  · exact ui_k c
theorem toM_j {μ : zM} {r k : Nat} : (toM μ).2.1 r k = μ.2.1 r k := rfl
noncomputable def clM (μ : zM) (s q : Nat) (so kk : Int32) : zM := z_ui (z_ui (z_ui (z_ui (z_ui (toM (z_lys μ s q so kk) ) 50 45 (nI s)) 50 44 1) 50 49 (-1)) 50 57 1) 50 58 0
theorem gm_claims (d : Nat) (hd : 2 ≤ d) (μ : zM) (s q : Nat) (so kk : Int32) (hs4 : s < 4) (hq4 : q < 4) (e64 : μ.1 64 s = nI q) : z_C d mi_X7_claims [.ref 50, .int (nI s), .int so, .int kk] μ (fun r μ' => r = none ∧ μ' = clM μ s q so kk) := by
  refine z_C_in (by decide) (by omega) (fun d' Z ed hc hr => ?_)
  have hH : zH mi_X7_claims zt_X7_claims 79 7 4 := hh_X7_claims
  refine z_rcs hc hH 4 (pc' := 4) (lv' := [(0, .ref 50), (1, .int (nI s)), (2, .int so), (3, .int kk)]) (st' := [.int kk, .int so, .int (nI s), .ref 50]) (μ' := μ) (by rfl) ?_
  refine zq_call hc (z_cx_ok hH (by rfl)) (fc_X7_lays d' (by omega) μ s q so kk hs4 hq4 e64) (by decide +kernel) (fun r9 μ9 hq => ?_)
  obtain ⟨rfl, rfl⟩ := hq
  show Z 0 7 [(0, .ref 50), (1, .int (nI s)), (2, .int so), (3, .int kk)] [] (z_lys μ s q so kk)
  refine z_rcs hc hH 1 (pc' := 8) (lv' := [(0, .ref 50), (1, .int (nI s)), (2, .int so), (3, .int kk)]) (st' := [.ref 50]) (μ' := z_lys μ s q so kk) (by rfl) ?_
  refine zq_call hc (z_cx_ok hH (by rfl)) (gm_touched d' (by omega) (z_lys μ s q so kk)) (by decide +kernel) (fun r9 μ9 hq => ?_)
  obtain ⟨rfl, rfl⟩ := hq
  show Z 0 11 [(0, .ref 50), (1, .int (nI s)), (2, .int so), (3, .int kk)] [] (toM (z_lys μ s q so kk) )
  refine z_rcs0 hc hH 2 (pc' := 13) (lv' := [(0, .ref 50), (1, .int (nI s)), (2, .int so), (3, .int kk)]) (st' := [.int (nI s), .ref 50]) (by rfl) ?_
  refine zq_pfi hc hH (by rfl) (ci := 6) (f := 45) (by rfl) (by decide +kernel) (by rfl) ?_
  show Z 0 16 [(0, .ref 50), (1, .int (nI s)), (2, .int so), (3, .int kk)] [] (z_ui (toM (z_lys μ s q so kk) ) 50 45 (nI s))
  refine z_rcs0 hc hH 2 (pc' := 18) (lv' := [(0, .ref 50), (1, .int (nI s)), (2, .int so), (3, .int kk)]) (st' := [.int 1, .ref 50]) (by rfl) ?_
  refine zq_pfi hc hH (by rfl) (ci := 6) (f := 44) (by rfl) (by decide +kernel) (by rfl) ?_
  show Z 0 21 [(0, .ref 50), (1, .int (nI s)), (2, .int so), (3, .int kk)] [] (z_ui (z_ui (toM (z_lys μ s q so kk) ) 50 45 (nI s)) 50 44 1)
  refine z_rcs0 hc hH 2 (pc' := 23) (lv' := [(0, .ref 50), (1, .int (nI s)), (2, .int so), (3, .int kk)]) (st' := [.int (-1), .ref 50]) (by rfl) ?_
  refine zq_pfi hc hH (by rfl) (ci := 6) (f := 49) (by rfl) (by decide +kernel) (by rfl) ?_
  show Z 0 26 [(0, .ref 50), (1, .int (nI s)), (2, .int so), (3, .int kk)] [] (z_ui (z_ui (z_ui (toM (z_lys μ s q so kk) ) 50 45 (nI s)) 50 44 1) 50 49 (-1))
  refine z_rcs0 hc hH 2 (pc' := 28) (lv' := [(0, .ref 50), (1, .int (nI s)), (2, .int so), (3, .int kk)]) (st' := [.int 1, .ref 50]) (by rfl) ?_
  refine zq_pfb hc hH (by rfl) (ci := 6) (f := 57) (by rfl) (by decide +kernel) (by rfl) (by decide) ?_
  show Z 0 31 [(0, .ref 50), (1, .int (nI s)), (2, .int so), (3, .int kk)] [] (z_ui (z_ui (z_ui (z_ui (toM (z_lys μ s q so kk) ) 50 45 (nI s)) 50 44 1) 50 49 (-1)) 50 57 1)
  refine z_rcs0 hc hH 2 (pc' := 33) (lv' := [(0, .ref 50), (1, .int (nI s)), (2, .int so), (3, .int kk)]) (st' := [.int 0, .ref 50]) (by rfl) ?_
  refine zq_pfb hc hH (by rfl) (ci := 6) (f := 58) (by rfl) (by decide +kernel) (by rfl) (by decide) ?_
  show Z 0 36 [(0, .ref 50), (1, .int (nI s)), (2, .int so), (3, .int kk)] [] (z_ui (z_ui (z_ui (z_ui (z_ui (toM (z_lys μ s q so kk) ) 50 45 (nI s)) 50 44 1) 50 49 (-1)) 50 57 1) 50 58 0)
  exact hr 0 36 _ _ _ none (by decide +kernel) (by rfl) (⟨rfl, rfl⟩)
theorem gm_isKindN (d : Nat) (hd : 1 ≤ d) (μ : zM) (k : Nat) (hk : k < 34) : z_C d mi_X7_isKind [.int (nI k)] μ (zR μ (.int 1)) := by
  refine z_C_mono (fc_X7_isKind d hd μ (nI k)) (fun r μ' z => ⟨z.1, ?_⟩)
  rcases z.2 with ⟨h, _⟩ | ⟨_, h⟩
  · exact h
  · exact absurd (vp_in_nI hk (by decide)) h
theorem gm_hide (d : Nat) (hd : 5 ≤ d) (μ : zM) (t : Nat) (ht4 : t < 4) (ht : μ.1 50 45 = nI t) (k q n k2 : Nat) (hk : k < 34) (hq4 : q < 4) (e64 : μ.1 64 t = nI q) (hn2 : n < 14) (hn : μ.1 50 48 = nI n) (hk2 : k2 < 34) (hkk : μ.1 59 (122 + n) = nI k2) (mm : Bool) (hmm : ∀ d, 2 ≤ d → z_C d mi_X7_mayMake [.ref 50] (z_ui μ 50 0 0) (zR (z_ui μ 50 0 0) (.int (nB mm)))) : z_C d mi_X7_hide [.ref 50, .int (nI k)] μ (fun r μ' => r = some ((bif mm then (bif decide ((μ.1 60 (34 * t + k)) = 4) then .int 1 else .int 0) else .int 0)) ∧ μ' = (bif mm then (bif decide ((μ.1 60 (34 * t + k)) = 4) then dM1 (z_ui (toM (z_lys (z_giv (z_ui μ 50 0 0) t k (-4)) t q 3 (nI k)) ) 50 47 ((μ.1 50 47) + 1)) t n k2 else z_ui μ 50 0 0) else z_ui μ 50 0 0)) := by
  refine z_C_in (by decide) (by omega) (fun d' Z ed hc hr => ?_)
  have hH : zH mi_X7_hide zt_X7_hide 79 7 2 := hh_X7_hide
  refine z_rcs hc hH 2 (pc' := 2) (lv' := [(0, .ref 50), (1, .int (nI k))]) (st' := [.int 0, .ref 50]) (μ' := μ) (by rfl) ?_
  refine zq_pfi hc hH (by rfl) (ci := 6) (f := 0) (by rfl) (by decide +kernel) (by rfl) ?_
  show Z 0 5 [(0, .ref 50), (1, .int (nI k))] [] (z_ui μ 50 0 0)
  refine z_rcs hc hH 1 (pc' := 6) (lv' := [(0, .ref 50), (1, .int (nI k))]) (st' := [.ref 50]) (μ' := z_ui μ 50 0 0) (by rfl) ?_
  refine zq_call hc (z_cx_ok hH (by rfl)) (hmm d' (by omega)) (by decide +kernel) (fun r9 μ9 hq => ?_)
  obtain ⟨hμ9, rfl⟩ := hq
  rw [hμ9]
  clear hμ9 μ9
  show Z 0 9 [(0, .ref 50), (1, .int (nI k))] [.int (nB mm)] (z_ui μ 50 0 0)
  refine zq_if hc hH (by rfl) (tg := 32) (by rfl) (fun h1 => ?_) (fun h1 => ?_)
  · have h1 : (mm) = false := nB_z.mp (cm_eq9.mp h1)
    refine z_rcs hc hH 1 (pc' := 33) (lv' := [(0, .ref 50), (1, .int (nI k))]) (st' := [.int 0]) (μ' := z_ui μ 50 0 0) (by rfl) ?_
    exact hr 0 33 _ _ _ (some (.int 0)) (by decide +kernel) (z_rx_ok hH (by rfl)) (⟨(by first | with_reducible rfl | (simp only [h1, cond_true, cond_false]; done) | rfl), (by simp only [h1, cond_true, cond_false])⟩)
  · have h1 : (mm) = true := nB_n.mp (cn_eq.mp h1)
    refine z_rcs hc hH 1 (pc' := 13) (lv' := [(0, .ref 50), (1, .int (nI k))]) (st' := [.int (nI k)]) (μ' := z_ui μ 50 0 0) (by rfl) ?_
    refine zq_call hc (z_cx_ok hH (by rfl)) (gm_isKindN d' (by omega) (z_ui μ 50 0 0) k hk) (by decide +kernel) (fun r9 μ9 hq => ?_)
    obtain ⟨hμ9, rfl⟩ := hq
    rw [hμ9]
    clear hμ9 μ9
    show Z 0 16 [(0, .ref 50), (1, .int (nI k))] [.int 1] (z_ui μ 50 0 0)
    refine z_rcs hc hH 3 (pc' := 21) (lv' := [(0, .ref 50), (1, .int (nI k))]) (st' := [.ref 50, .ref 50]) (μ' := z_ui μ 50 0 0) (by rfl) ?_
    refine zq_gfi hc hH (by rfl) (ci := 6) (f := 45) (by rfl) (by decide +kernel) (by rfl) ?_
    refine zV1 (Z := Z) (ui_k (by first | decide | omega)) ?_
    rw [ht]
    refine z_rcs hc hH 1 (pc' := 25) (lv' := [(0, .ref 50), (1, .int (nI k))]) (st' := [.int (nI k), .int (nI t), .ref 50]) (μ' := z_ui μ 50 0 0) (by rfl) ?_
    refine zq_call hc (z_cx_ok hH (by rfl)) (fc_X7_has_ d' (by omega) (z_ui μ 50 0 0) t k ht4 hk) (by decide +kernel) (fun r9 μ9 hq => ?_)
    obtain ⟨hμ9, rfl⟩ := hq
    rw [hμ9]
    clear hμ9 μ9
    rw [ui_o (by first | decide | omega)]
    show Z 0 28 [(0, .ref 50), (1, .int (nI k))] [.int (μ.1 60 (34 * t + k))] (z_ui μ 50 0 0)
    refine z_rcs hc hH 1 (pc' := 29) (lv' := [(0, .ref 50), (1, .int (nI k))]) (st' := [.int 4, .int (μ.1 60 (34 * t + k))]) (μ' := z_ui μ 50 0 0) (by rfl) ?_
    refine zq_ic hc hH (by rfl) (tg := 34) (by rfl) (fun h2 => ?_) (fun h2 => ?_)
    · have h2 : (decide ((μ.1 60 (34 * t + k)) = 4)) = true := decide_eq_true (cm_eq9.mp h2)
      refine z_rcs hc hH 2 (pc' := 36) (lv' := [(0, .ref 50), (1, .int (nI k))]) (st' := [.ref 50, .ref 50]) (μ' := z_ui μ 50 0 0) (by rfl) ?_
      refine zq_gfi hc hH (by rfl) (ci := 6) (f := 45) (by rfl) (by decide +kernel) (by rfl) ?_
      refine zV1 (Z := Z) (ui_k (by first | decide | omega)) ?_
      rw [ht]
      refine z_rcs hc hH 2 (pc' := 42) (lv' := [(0, .ref 50), (1, .int (nI k))]) (st' := [.int (-4), .int (nI k), .int (nI t), .ref 50]) (μ' := z_ui μ 50 0 0) (by rfl) ?_
      refine zq_call hc (z_cx_ok hH (by rfl)) (fc_X7_gives d' (by omega) (z_ui μ 50 0 0) t k (-4) ht4 hk) (by decide +kernel) (fun r9 μ9 hq => ?_)
      obtain ⟨rfl, rfl⟩ := hq
      show Z 0 45 [(0, .ref 50), (1, .int (nI k))] [] (z_giv (z_ui μ 50 0 0) t k (-4))
      refine z_rcs0 hc hH 2 (pc' := 47) (lv' := [(0, .ref 50), (1, .int (nI k))]) (st' := [.ref 50, .ref 50]) (by rfl) ?_
      refine zq_gfi hc hH (by rfl) (ci := 6) (f := 45) (by rfl) (by decide +kernel) (by rfl) ?_
      refine zV1 (Z := Z) (Eq.trans (giv_o (by first | decide | omega)) (ui_k (by first | decide | omega))) ?_
      rw [ht]
      refine z_rcs0 hc hH 2 (pc' := 52) (lv' := [(0, .ref 50), (1, .int (nI k))]) (st' := [.int (nI k), .int 3, .int (nI t), .ref 50]) (by rfl) ?_
      refine zq_call hc (z_cx_ok hH (by rfl)) (fc_X7_lays d' (by omega) (z_giv (z_ui μ 50 0 0) t k (-4)) t q 3 (nI k) ht4 hq4 (by rw [giv_o (by first | decide | omega), ui_o (by first | decide | omega)]; exact e64)) (by decide +kernel) (fun r9 μ9 hq => ?_)
      obtain ⟨rfl, rfl⟩ := hq
      show Z 0 55 [(0, .ref 50), (1, .int (nI k))] [] (z_lys (z_giv (z_ui μ 50 0 0) t k (-4)) t q 3 (nI k))
      refine z_rcs0 hc hH 1 (pc' := 56) (lv' := [(0, .ref 50), (1, .int (nI k))]) (st' := [.ref 50]) (by rfl) ?_
      refine zq_call hc (z_cx_ok hH (by rfl)) (gm_touched d' (by omega) (z_lys (z_giv (z_ui μ 50 0 0) t k (-4)) t q 3 (nI k))) (by decide +kernel) (fun r9 μ9 hq => ?_)
      obtain ⟨rfl, rfl⟩ := hq
      show Z 0 59 [(0, .ref 50), (1, .int (nI k))] [] (toM (z_lys (z_giv (z_ui μ 50 0 0) t k (-4)) t q 3 (nI k)) )
      refine z_rcs0 hc hH 2 (pc' := 61) (lv' := [(0, .ref 50), (1, .int (nI k))]) (st' := [.ref 50, .ref 50]) (by rfl) ?_
      refine zq_gfi hc hH (by rfl) (ci := 6) (f := 47) (by rfl) (by decide +kernel) (by rfl) ?_
      rw [toM_o (by first | decide | omega), lys_o (by omega), giv_o (by first | decide | omega), ui_k (by first | decide | omega)]
      refine z_rcs0 hc hH 2 (pc' := 66) (lv' := [(0, .ref 50), (1, .int (nI k))]) (st' := [.int ((μ.1 50 47) + 1), .ref 50]) (by rfl) ?_
      refine zq_pfi hc hH (by rfl) (ci := 6) (f := 47) (by rfl) (by decide +kernel) (by rfl) ?_
      show Z 0 69 [(0, .ref 50), (1, .int (nI k))] [] (z_ui (toM (z_lys (z_giv (z_ui μ 50 0 0) t k (-4)) t q 3 (nI k)) ) 50 47 ((μ.1 50 47) + 1))
      refine z_rcs0 hc hH 2 (pc' := 71) (lv' := [(0, .ref 50), (1, .int (nI k))]) (st' := [.ref 50, .ref 50]) (by rfl) ?_
      refine zq_gfi hc hH (by rfl) (ci := 6) (f := 45) (by rfl) (by decide +kernel) (by rfl) ?_
      rw [ui_k (by first | decide | omega), toM_o (by first | decide | omega), lys_o (by omega), giv_o (by first | decide | omega), ui_k (by first | decide | omega)]
      rw [ht]
      refine z_rcs0 hc hH 1 (pc' := 75) (lv' := [(0, .ref 50), (1, .int (nI k))]) (st' := [.int 1, .int (nI t), .ref 50]) (by rfl) ?_
      refine zq_call hc (z_cx_ok hH (by rfl)) (gm_draws1 d' (by omega) (z_ui (toM (z_lys (z_giv (z_ui μ 50 0 0) t k (-4)) t q 3 (nI k)) ) 50 47 ((μ.1 50 47) + 1)) t n k2 ht4 hn2 (by rw [ui_k (by first | decide | omega), toM_o (by first | decide | omega), lys_o (by omega), giv_o (by first | decide | omega), ui_k (by first | decide | omega)]; exact hn) hk2 (by rw [ui_o (by first | decide | omega), toM_o (by first | decide | omega), lys_o (by omega), giv_o (by first | decide | omega), ui_o (by first | decide | omega)]; exact hkk)) (by decide +kernel) (fun r9 μ9 hq => ?_)
      obtain ⟨rfl, rfl⟩ := hq
      show Z 0 78 [(0, .ref 50), (1, .int (nI k))] [] (dM1 (z_ui (toM (z_lys (z_giv (z_ui μ 50 0 0) t k (-4)) t q 3 (nI k)) ) 50 47 ((μ.1 50 47) + 1)) t n k2)
      refine z_rcs0 hc hH 1 (pc' := 79) (lv' := [(0, .ref 50), (1, .int (nI k))]) (st' := [.int 1]) (by rfl) ?_
      exact hr 0 79 _ _ _ (some (.int 1)) (by decide +kernel) (z_rx_ok hH (by rfl)) (⟨(by first | with_reducible rfl | (simp only [h1, h2, cond_true, cond_false]; done) | rfl), (by simp only [h1, h2, cond_true, cond_false])⟩)
    · have h2 : (decide ((μ.1 60 (34 * t + k)) = 4)) = false := decide_eq_false (cn_eq.mp h2)
      refine z_rcs hc hH 1 (pc' := 33) (lv' := [(0, .ref 50), (1, .int (nI k))]) (st' := [.int 0]) (μ' := z_ui μ 50 0 0) (by rfl) ?_
      exact hr 0 33 _ _ _ (some (.int 0)) (by decide +kernel) (z_rx_ok hH (by rfl)) (⟨(by first | with_reducible rfl | (simp only [h1, h2, cond_true, cond_false]; done) | rfl), (by simp only [h1, h2, cond_true, cond_false])⟩)
/-! the game: four, three of the reference -/
set_option maxRecDepth 8000
theorem SM_giv {a b : zM} (h : SMj a b) {s c : Nat} {n : Int32} : SMj (z_giv a s c n) (z_giv b s c n) := by
  unfold z_giv
  rw [(h 60 (34 * s + c) (by omega)).1]
  exact SM_ui h
theorem SM_lys {a b : zM} (h : SMj a b) {s q : Nat} {so k : Int32} : SMj (z_lys a s q so k) (z_lys b s q so k) := SM_ui (SM_ui (SM_ui h))
theorem SM_to {a b : zM} (h : SMj a b) : SMj (toM a) (toM b) := SM_ui (SM_ui (SM_ui (SM_ui (SM_ui h))))
theorem SM_dM1 {a b : zM} (h : SMj a b) {s n k : Nat} : SMj (dM1 a s n k) (dM1 b s n k) := by
  unfold dM1
  rw [(h 67 s (by omega)).1, (h 68 s (by omega)).1]
  cases decide (a.1 67 s = 0)
  · rw [cond_false, cond_false]; exact SM_ui (SM_ui (SM_ui (SM_ui (SM_ui (SM_ui (SM_ui (SM_giv (SM_ui (SM_ui h)))))))))
  · rw [cond_true, cond_true]; exact SM_ui (SM_ui (SM_ui (SM_ui (SM_ui (SM_ui (SM_ui (SM_ui (SM_giv (SM_ui (SM_ui h))))))))))
theorem SM_cl {a b : zM} (h : SMj a b) {s q : Nat} {so k : Int32} : SMj (clM a s q so k) (clM b s q so k) := SM_ui (SM_ui (SM_ui (SM_ui (SM_ui (SM_to (SM_lys h))))))
noncomputable abbrev foC (μ : zM) (s c : Nat) (mc : Bool) : Bool := (mc) && (!(decide ((μ.1 60 (34 * s + c)) < 3))) && (!(decide ((μ.1 50 47) = 4)))
theorem gm_four (d : Nat) (hd : 702 ≤ d) (μ : zM) (s c q n k2 : Nat) (hs4 : s < 4) (hc34 : c < 34) (hc49 : μ.1 50 49 = nI c) (hq4 : q < 4) (mc : Bool) (hmc : ∀ d, 2 ≤ d → z_C d mi_X7_mayClaim [.ref 50, .int (nI s)] (z_ui μ 50 0 0) (zR (z_ui μ 50 0 0) (.int (nB mc)))) (O : zM) (hov : ∀ d, 701 ≤ d → z_C d mi_X7_over [.ref 50] (z_ui μ 50 0 0) (fun r W => r = none ∧ SMj O W)) (o49 : O.1 50 49 = nI c) (e64 : O.1 64 s = nI q) (hn2 : n < 14) (o48 : O.1 50 48 = nI n) (hk2 : k2 < 34) (o59 : O.1 59 (122 + n) = nI k2) : z_C d mi_X7_four [.ref 50, .int (nI s)] μ (fun r μ' => (foC μ s c mc = true ∧ r = some (.int 1) ∧ SMj (dM1 (z_ui (toM (z_lys (z_giv O s c (-3)) s q 2 (nI c)) ) 50 47 ((O.1 50 47) + 1)) s n k2) μ') ∨ (foC μ s c mc = false ∧ r = some (.int 0) ∧ μ' = z_ui μ 50 0 0)) := by
  refine z_C_in (by decide) (by omega) (fun d' Z ed hc hr => ?_)
  have hH : zH mi_X7_four zt_X7_four 79 7 2 := hh_X7_four
  refine z_rcs hc hH 2 (pc' := 2) (lv' := [(0, .ref 50), (1, .int (nI s))]) (st' := [.int 0, .ref 50]) (μ' := μ) (by rfl) ?_
  refine zq_pfi hc hH (by rfl) (ci := 6) (f := 0) (by rfl) (by decide +kernel) (by rfl) ?_
  show Z 0 5 [(0, .ref 50), (1, .int (nI s))] [] (z_ui μ 50 0 0)
  refine z_rcs hc hH 2 (pc' := 7) (lv' := [(0, .ref 50), (1, .int (nI s))]) (st' := [.int (nI s), .ref 50]) (μ' := z_ui μ 50 0 0) (by rfl) ?_
  refine zq_call hc (z_cx_ok hH (by rfl)) (hmc d' (by omega)) (by decide +kernel) (fun r9 μ9 hq => ?_)
  obtain ⟨hμ9, rfl⟩ := hq
  rw [hμ9]
  clear hμ9 μ9
  show Z 0 10 [(0, .ref 50), (1, .int (nI s))] [.int (nB mc)] (z_ui μ 50 0 0)
  refine zq_if hc hH (by rfl) (tg := 34) (by rfl) (fun h1 => ?_) (fun h1 => ?_)
  · have h1 : (mc) = false := nB_z.mp (cm_eq9.mp h1)
    refine z_rcs hc hH 1 (pc' := 35) (lv' := [(0, .ref 50), (1, .int (nI s))]) (st' := [.int 0]) (μ' := z_ui μ 50 0 0) (by rfl) ?_
    exact hr 0 35 _ _ _ (some (.int 0)) (by decide +kernel) (z_rx_ok hH (by rfl)) (Or.inr ⟨by simp only [foC, h1, Bool.true_or, Bool.true_and, Bool.and_true, Bool.false_and, Bool.and_false, Bool.not_true, Bool.not_false], rfl, rfl⟩)
  · have h1 : (mc) = true := nB_n.mp (cn_eq.mp h1)
    refine z_rcs hc hH 3 (pc' := 16) (lv' := [(0, .ref 50), (1, .int (nI s))]) (st' := [.ref 50, .int (nI s), .ref 50]) (μ' := z_ui μ 50 0 0) (by rfl) ?_
    refine zq_gfi hc hH (by rfl) (ci := 6) (f := 49) (by rfl) (by decide +kernel) (by rfl) ?_
    refine zV1 (Z := Z) (ui_k (by first | decide | omega)) ?_
    rw [hc49]
    refine zq_call hc (z_cx_ok hH (by rfl)) (fc_X7_has_ d' (by omega) (z_ui μ 50 0 0) s c hs4 hc34) (by decide +kernel) (fun r9 μ9 hq => ?_)
    obtain ⟨hμ9, rfl⟩ := hq
    rw [hμ9]
    clear hμ9 μ9
    rw [ui_o (by first | decide | omega)]
    show Z 0 22 [(0, .ref 50), (1, .int (nI s))] [.int (μ.1 60 (34 * s + c))] (z_ui μ 50 0 0)
    refine z_rcs hc hH 1 (pc' := 23) (lv' := [(0, .ref 50), (1, .int (nI s))]) (st' := [.int 3, .int (μ.1 60 (34 * s + c))]) (μ' := z_ui μ 50 0 0) (by rfl) ?_
    refine zq_ic hc hH (by rfl) (tg := 34) (by rfl) (fun h2 => ?_) (fun h2 => ?_)
    · have h2 : (decide ((μ.1 60 (34 * s + c)) < 3)) = true := decide_eq_true (cm_lt.mp h2)
      refine z_rcs hc hH 1 (pc' := 35) (lv' := [(0, .ref 50), (1, .int (nI s))]) (st' := [.int 0]) (μ' := z_ui μ 50 0 0) (by rfl) ?_
      exact hr 0 35 _ _ _ (some (.int 0)) (by decide +kernel) (z_rx_ok hH (by rfl)) (Or.inr ⟨by simp only [foC, h1, h2, Bool.true_or, Bool.true_and, Bool.and_true, Bool.false_and, Bool.and_false, Bool.not_true, Bool.not_false], rfl, rfl⟩)
    · have h2 : (decide ((μ.1 60 (34 * s + c)) < 3)) = false := decide_eq_false (cn_lt.mp h2)
      refine z_rcs hc hH 1 (pc' := 27) (lv' := [(0, .ref 50), (1, .int (nI s))]) (st' := [.ref 50]) (μ' := z_ui μ 50 0 0) (by rfl) ?_
      refine zq_gfi hc hH (by rfl) (ci := 6) (f := 47) (by rfl) (by decide +kernel) (by rfl) ?_
      refine zV1 (Z := Z) (ui_k (by first | decide | omega)) ?_
      refine z_rcs hc hH 1 (pc' := 31) (lv' := [(0, .ref 50), (1, .int (nI s))]) (st' := [.int 4, .int (μ.1 50 47)]) (μ' := z_ui μ 50 0 0) (by rfl) ?_
      refine zq_ic hc hH (by rfl) (tg := 36) (by rfl) (fun h3 => ?_) (fun h3 => ?_)
      · have h3 : (decide ((μ.1 50 47) = 4)) = false := decide_eq_false (cm_ne.mp h3)
        refine z_rcs hc hH 1 (pc' := 37) (lv' := [(0, .ref 50), (1, .int (nI s))]) (st' := [.ref 50]) (μ' := z_ui μ 50 0 0) (by rfl) ?_
        refine zq_call hc (z_cx_ok hH (by rfl)) (hov d' (by omega)) (by decide +kernel) (fun r9 W hq => ?_)
        obtain ⟨rfl, hO⟩ := hq
        show Z 0 40 [(0, .ref 50), (1, .int (nI s))] [] W
        refine z_rcs hc hH 3 (pc' := 43) (lv' := [(0, .ref 50), (1, .int (nI s))]) (st' := [.ref 50, .int (nI s), .ref 50]) (μ' := W) (by rfl) ?_
        refine zq_gfi hc hH (by rfl) (ci := 6) (f := 49) (by rfl) (by decide +kernel) (by rfl) ?_
        rw [(hO _ _ (by omega)).1]
        rw [o49]
        refine z_rcs hc hH 1 (pc' := 48) (lv' := [(0, .ref 50), (1, .int (nI s))]) (st' := [.int (-3), .int (nI c), .int (nI s), .ref 50]) (μ' := W) (by rfl) ?_
        refine zq_call hc (z_cx_ok hH (by rfl)) (fc_X7_gives d' (by omega) W s c (-3) hs4 hc34) (by decide +kernel) (fun r9 μ9 hq => ?_)
        obtain ⟨rfl, rfl⟩ := hq
        show Z 0 51 [(0, .ref 50), (1, .int (nI s))] [] (z_giv W s c (-3))
        refine z_rcs hc hH 4 (pc' := 55) (lv' := [(0, .ref 50), (1, .int (nI s))]) (st' := [.ref 50, .int 2, .int (nI s), .ref 50]) (μ' := z_giv W s c (-3)) (by rfl) ?_
        refine zq_gfi hc hH (by rfl) (ci := 6) (f := 49) (by rfl) (by decide +kernel) (by rfl) ?_
        rw [giv_o (by first | decide | omega), (hO _ _ (by omega)).1]
        rw [o49]
        refine zq_call hc (z_cx_ok hH (by rfl)) (fc_X7_lays d' (by omega) (z_giv W s c (-3)) s q 2 (nI c) hs4 hq4 (by rw [giv_o (by first | decide | omega), (hO _ _ (by omega)).1]; exact e64)) (by decide +kernel) (fun r9 μ9 hq => ?_)
        obtain ⟨rfl, rfl⟩ := hq
        show Z 0 61 [(0, .ref 50), (1, .int (nI s))] [] (z_lys (z_giv W s c (-3)) s q 2 (nI c))
        refine z_rcs0 hc hH 1 (pc' := 62) (lv' := [(0, .ref 50), (1, .int (nI s))]) (st' := [.ref 50]) (by rfl) ?_
        refine zq_call hc (z_cx_ok hH (by rfl)) (gm_touched d' (by omega) (z_lys (z_giv W s c (-3)) s q 2 (nI c))) (by decide +kernel) (fun r9 μ9 hq => ?_)
        obtain ⟨rfl, rfl⟩ := hq
        show Z 0 65 [(0, .ref 50), (1, .int (nI s))] [] (toM (z_lys (z_giv W s c (-3)) s q 2 (nI c)) )
        refine z_rcs0 hc hH 2 (pc' := 67) (lv' := [(0, .ref 50), (1, .int (nI s))]) (st' := [.ref 50, .ref 50]) (by rfl) ?_
        refine zq_gfi hc hH (by rfl) (ci := 6) (f := 47) (by rfl) (by decide +kernel) (by rfl) ?_
        rw [toM_o (by first | decide | omega), lys_o (by omega), giv_o (by first | decide | omega), (hO _ _ (by omega)).1]
        refine z_rcs0 hc hH 2 (pc' := 72) (lv' := [(0, .ref 50), (1, .int (nI s))]) (st' := [.int ((O.1 50 47) + 1), .ref 50]) (by rfl) ?_
        refine zq_pfi hc hH (by rfl) (ci := 6) (f := 47) (by rfl) (by decide +kernel) (by rfl) ?_
        show Z 0 75 [(0, .ref 50), (1, .int (nI s))] [] (z_ui (toM (z_lys (z_giv W s c (-3)) s q 2 (nI c)) ) 50 47 ((O.1 50 47) + 1))
        refine z_rcs0 hc hH 3 (pc' := 78) (lv' := [(0, .ref 50), (1, .int (nI s))]) (st' := [.int 1, .int (nI s), .ref 50]) (by rfl) ?_
        refine zq_call hc (z_cx_ok hH (by rfl)) (gm_draws1 d' (by omega) (z_ui (toM (z_lys (z_giv W s c (-3)) s q 2 (nI c)) ) 50 47 ((O.1 50 47) + 1)) s n k2 hs4 hn2 (by rw [ui_k (by first | decide | omega), toM_o (by first | decide | omega), lys_o (by omega), giv_o (by first | decide | omega), (hO _ _ (by omega)).1]; exact o48) hk2 (by rw [ui_o (by first | decide | omega), toM_o (by first | decide | omega), lys_o (by omega), giv_o (by first | decide | omega), (hO _ _ (by omega)).1]; exact o59)) (by decide +kernel) (fun r9 μ9 hq => ?_)
        obtain ⟨rfl, rfl⟩ := hq
        show Z 0 81 [(0, .ref 50), (1, .int (nI s))] [] (dM1 (z_ui (toM (z_lys (z_giv W s c (-3)) s q 2 (nI c)) ) 50 47 ((O.1 50 47) + 1)) s n k2)
        refine z_rcs0 hc hH 1 (pc' := 82) (lv' := [(0, .ref 50), (1, .int (nI s))]) (st' := [.int 1]) (by rfl) ?_
        exact hr 0 82 _ _ _ (some (.int 1)) (by decide +kernel) (z_rx_ok hH (by rfl)) (Or.inl ⟨by simp only [foC, h1, h2, h3, Bool.true_or, Bool.true_and, Bool.and_true, Bool.false_and, Bool.and_false, Bool.not_true, Bool.not_false], rfl, SM_dM1 (SM_ui (SM_to (SM_lys (SM_giv (hO)))))⟩)
      · have h3 : (decide ((μ.1 50 47) = 4)) = true := decide_eq_true (cn_ne.mp h3)
        refine z_rcs hc hH 1 (pc' := 35) (lv' := [(0, .ref 50), (1, .int (nI s))]) (st' := [.int 0]) (μ' := z_ui μ 50 0 0) (by rfl) ?_
        exact hr 0 35 _ _ _ (some (.int 0)) (by decide +kernel) (z_rx_ok hH (by rfl)) (Or.inr ⟨by simp only [foC, h1, h2, h3, Bool.true_or, Bool.true_and, Bool.and_true, Bool.false_and, Bool.and_false, Bool.not_true, Bool.not_false], rfl, rfl⟩)
/-! the game: three of the reference -/
set_option maxRecDepth 8000
noncomputable abbrev thC (μ : zM) (s c : Nat) (mc cd : Bool) : Bool := (mc) && ((decide (2 ≤ (μ.1 60 (34 * s + c))))) && (cd)
theorem gm_three (d : Nat) (hd : 702 ≤ d) (μ : zM) (s c q : Nat) (hs4 : s < 4) (hc34 : c < 34) (hc49 : μ.1 50 49 = nI c) (hq4 : q < 4) (mc : Bool) (hmc : ∀ d, 2 ≤ d → z_C d mi_X7_mayClaim [.ref 50, .int (nI s)] (z_ui μ 50 0 0) (zR (z_ui μ 50 0 0) (.int (nB mc)))) (cd : Bool) (hcd : ∀ d, 2 ≤ d → z_C d mi_X7_canDiscard [.ref 50, .int (nI s)] (z_giv (z_ui (z_ui (z_ui μ 50 0 0) 50 50 (nI c)) 50 51 (-1)) s c (-2)) (zR (z_giv (z_ui (z_ui (z_ui μ 50 0 0) 50 50 (nI c)) 50 51 (-1)) s c (-2)) (.int (nB cd)))) (O : zM) (hov : ∀ d, 701 ≤ d → z_C d mi_X7_over [.ref 50] (z_giv (z_giv (z_ui (z_ui (z_ui μ 50 0 0) 50 50 (nI c)) 50 51 (-1)) s c (-2)) s c 2) (fun r W => r = none ∧ SMj O W)) (o49 : O.1 50 49 = nI c) (e64 : O.1 64 s = nI q) : z_C d mi_X7_three [.ref 50, .int (nI s)] μ (fun r μ' => (thC μ s c mc cd = true ∧ r = some (.int 1) ∧ SMj (clM (z_giv O s c (-2)) s q 1 (nI c)) μ') ∨ (thC μ s c mc cd = false ∧ r = some (.int 0) ∧ (μ' = z_ui μ 50 0 0 ∨ μ' = z_giv (z_giv (z_ui (z_ui (z_ui μ 50 0 0) 50 50 (nI c)) 50 51 (-1)) s c (-2)) s c 2))) := by
  refine z_C_in (by decide) (by omega) (fun d' Z ed hc hr => ?_)
  have hH : zH mi_X7_three zt_X7_three 79 7 3 := hh_X7_three
  refine z_rcs hc hH 2 (pc' := 2) (lv' := [(0, .ref 50), (1, .int (nI s))]) (st' := [.int 0, .ref 50]) (μ' := μ) (by rfl) ?_
  refine zq_pfi hc hH (by rfl) (ci := 6) (f := 0) (by rfl) (by decide +kernel) (by rfl) ?_
  show Z 0 5 [(0, .ref 50), (1, .int (nI s))] [] (z_ui μ 50 0 0)
  refine z_rcs hc hH 2 (pc' := 7) (lv' := [(0, .ref 50), (1, .int (nI s))]) (st' := [.int (nI s), .ref 50]) (μ' := z_ui μ 50 0 0) (by rfl) ?_
  refine zq_call hc (z_cx_ok hH (by rfl)) (hmc d' (by omega)) (by decide +kernel) (fun r9 μ9 hq => ?_)
  obtain ⟨hμ9, rfl⟩ := hq
  rw [hμ9]
  clear hμ9 μ9
  show Z 0 10 [(0, .ref 50), (1, .int (nI s))] [.int (nB mc)] (z_ui μ 50 0 0)
  refine zq_if hc hH (by rfl) (tg := 26) (by rfl) (fun h1 => ?_) (fun h1 => ?_)
  · have h1 : (mc) = false := nB_z.mp (cm_eq9.mp h1)
    refine z_rcs hc hH 1 (pc' := 27) (lv' := [(0, .ref 50), (1, .int (nI s))]) (st' := [.int 0]) (μ' := z_ui μ 50 0 0) (by rfl) ?_
    exact hr 0 27 _ _ _ (some (.int 0)) (by decide +kernel) (z_rx_ok hH (by rfl)) (Or.inr ⟨by simp only [thC, h1, Bool.true_or, Bool.true_and, Bool.and_true, Bool.false_and, Bool.and_false, Bool.not_true, Bool.not_false], rfl, Or.inl rfl⟩)
  · have h1 : (mc) = true := nB_n.mp (cn_eq.mp h1)
    refine z_rcs hc hH 3 (pc' := 16) (lv' := [(0, .ref 50), (1, .int (nI s))]) (st' := [.ref 50, .int (nI s), .ref 50]) (μ' := z_ui μ 50 0 0) (by rfl) ?_
    refine zq_gfi hc hH (by rfl) (ci := 6) (f := 49) (by rfl) (by decide +kernel) (by rfl) ?_
    refine zV1 (Z := Z) (ui_k (by first | decide | omega)) ?_
    rw [hc49]
    refine zq_call hc (z_cx_ok hH (by rfl)) (fc_X7_has_ d' (by omega) (z_ui μ 50 0 0) s c hs4 hc34) (by decide +kernel) (fun r9 μ9 hq => ?_)
    obtain ⟨hμ9, rfl⟩ := hq
    rw [hμ9]
    clear hμ9 μ9
    rw [ui_o (by first | decide | omega)]
    show Z 0 22 [(0, .ref 50), (1, .int (nI s))] [.int (μ.1 60 (34 * s + c))] (z_ui μ 50 0 0)
    refine z_rcs hc hH 1 (pc' := 23) (lv' := [(0, .ref 50), (1, .int (nI s))]) (st' := [.int 2, .int (μ.1 60 (34 * s + c))]) (μ' := z_ui μ 50 0 0) (by rfl) ?_
    refine zq_ic hc hH (by rfl) (tg := 28) (by rfl) (fun h2 => ?_) (fun h2 => ?_)
    · have h2 : (decide (2 ≤ (μ.1 60 (34 * s + c)))) = true := decide_eq_true (cm_ge.mp h2)
      refine z_rcs hc hH 2 (pc' := 30) (lv' := [(0, .ref 50), (1, .int (nI s))]) (st' := [.ref 50, .ref 50]) (μ' := z_ui μ 50 0 0) (by rfl) ?_
      refine zq_gfi hc hH (by rfl) (ci := 6) (f := 49) (by rfl) (by decide +kernel) (by rfl) ?_
      refine zV1 (Z := Z) (ui_k (by first | decide | omega)) ?_
      rw [hc49]
      refine zq_pfi hc hH (by rfl) (ci := 6) (f := 50) (by rfl) (by decide +kernel) (by rfl) ?_
      show Z 0 36 [(0, .ref 50), (1, .int (nI s))] [] (z_ui (z_ui μ 50 0 0) 50 50 (nI c))
      refine z_rcs0 hc hH 2 (pc' := 38) (lv' := [(0, .ref 50), (1, .int (nI s))]) (st' := [.int (-1), .ref 50]) (by rfl) ?_
      refine zq_pfi hc hH (by rfl) (ci := 6) (f := 51) (by rfl) (by decide +kernel) (by rfl) ?_
      show Z 0 41 [(0, .ref 50), (1, .int (nI s))] [] (z_ui (z_ui (z_ui μ 50 0 0) 50 50 (nI c)) 50 51 (-1))
      refine z_rcs0 hc hH 3 (pc' := 44) (lv' := [(0, .ref 50), (1, .int (nI s))]) (st' := [.ref 50, .int (nI s), .ref 50]) (by rfl) ?_
      refine zq_gfi hc hH (by rfl) (ci := 6) (f := 49) (by rfl) (by decide +kernel) (by rfl) ?_
      refine zV1 (Z := Z) (Eq.trans (ui_k (by first | decide | omega)) (Eq.trans (ui_k (by first | decide | omega)) (ui_k (by first | decide | omega)))) ?_
      rw [hc49]
      refine z_rcs0 hc hH 1 (pc' := 49) (lv' := [(0, .ref 50), (1, .int (nI s))]) (st' := [.int (-2), .int (nI c), .int (nI s), .ref 50]) (by rfl) ?_
      refine zq_call hc (z_cx_ok hH (by rfl)) (fc_X7_gives d' (by omega) (z_ui (z_ui (z_ui μ 50 0 0) 50 50 (nI c)) 50 51 (-1)) s c (-2) hs4 hc34) (by decide +kernel) (fun r9 μ9 hq => ?_)
      obtain ⟨rfl, rfl⟩ := hq
      show Z 0 52 [(0, .ref 50), (1, .int (nI s))] [] (z_giv (z_ui (z_ui (z_ui μ 50 0 0) 50 50 (nI c)) 50 51 (-1)) s c (-2))
      refine z_rcs0 hc hH 2 (pc' := 54) (lv' := [(0, .ref 50), (1, .int (nI s))]) (st' := [.int (nI s), .ref 50]) (by rfl) ?_
      refine zq_call hc (z_cx_ok hH (by rfl)) (hcd d' (by omega)) (by decide +kernel) (fun r9 μ9 hq => ?_)
      obtain ⟨hμ9, rfl⟩ := hq
      rw [hμ9]
      clear hμ9 μ9
      show Z 0 57 [(0, .ref 50), (1, .int (nI s))] [.int (nB cd)] _
      refine z_rcs0 hc hH 4 (pc' := 61) (lv' := [(2, .int (nB cd)), (0, .ref 50), (1, .int (nI s))]) (st' := [.ref 50, .int (nI s), .ref 50]) (by rfl) ?_
      refine zq_gfi hc hH (by rfl) (ci := 6) (f := 49) (by rfl) (by decide +kernel) (by rfl) ?_
      refine zV1 (Z := Z) (Eq.trans (giv_o (by first | decide | omega)) (Eq.trans (ui_k (by first | decide | omega)) (Eq.trans (ui_k (by first | decide | omega)) (ui_k (by first | decide | omega))))) ?_
      rw [hc49]
      refine z_rcs0 hc hH 1 (pc' := 65) (lv' := [(2, .int (nB cd)), (0, .ref 50), (1, .int (nI s))]) (st' := [.int 2, .int (nI c), .int (nI s), .ref 50]) (by rfl) ?_
      refine zq_call hc (z_cx_ok hH (by rfl)) (fc_X7_gives d' (by omega) (z_giv (z_ui (z_ui (z_ui μ 50 0 0) 50 50 (nI c)) 50 51 (-1)) s c (-2)) s c 2 hs4 hc34) (by decide +kernel) (fun r9 μ9 hq => ?_)
      obtain ⟨rfl, rfl⟩ := hq
      show Z 0 68 [(2, .int (nB cd)), (0, .ref 50), (1, .int (nI s))] [] (z_giv (z_giv (z_ui (z_ui (z_ui μ 50 0 0) 50 50 (nI c)) 50 51 (-1)) s c (-2)) s c 2)
      refine z_rcs0 hc hH 1 (pc' := 69) (lv' := [(2, .int (nB cd)), (0, .ref 50), (1, .int (nI s))]) (st' := [.int (nB cd)]) (by rfl) ?_
      refine zq_if hc hH (by rfl) (tg := 74) (by rfl) (fun h3 => ?_) (fun h3 => ?_)
      · have h3 : (cd) = true := nB_n.mp (cm_ne.mp h3)
        refine z_rcs0 hc hH 1 (pc' := 75) (lv' := [(2, .int (nB cd)), (0, .ref 50), (1, .int (nI s))]) (st' := [.ref 50]) (by rfl) ?_
        refine zq_call hc (z_cx_ok hH (by rfl)) (hov d' (by omega)) (by decide +kernel) (fun r9 W hq => ?_)
        obtain ⟨rfl, hO⟩ := hq
        show Z 0 78 [(2, .int (nB cd)), (0, .ref 50), (1, .int (nI s))] [] W
        refine z_rcs hc hH 3 (pc' := 81) (lv' := [(2, .int (nB cd)), (0, .ref 50), (1, .int (nI s))]) (st' := [.ref 50, .int (nI s), .ref 50]) (μ' := W) (by rfl) ?_
        refine zq_gfi hc hH (by rfl) (ci := 6) (f := 49) (by rfl) (by decide +kernel) (by rfl) ?_
        rw [(hO _ _ (by omega)).1]
        rw [o49]
        refine z_rcs hc hH 1 (pc' := 86) (lv' := [(2, .int (nB cd)), (0, .ref 50), (1, .int (nI s))]) (st' := [.int (-2), .int (nI c), .int (nI s), .ref 50]) (μ' := W) (by rfl) ?_
        refine zq_call hc (z_cx_ok hH (by rfl)) (fc_X7_gives d' (by omega) W s c (-2) hs4 hc34) (by decide +kernel) (fun r9 μ9 hq => ?_)
        obtain ⟨rfl, rfl⟩ := hq
        show Z 0 89 [(2, .int (nB cd)), (0, .ref 50), (1, .int (nI s))] [] (z_giv W s c (-2))
        refine z_rcs hc hH 4 (pc' := 93) (lv' := [(2, .int (nB cd)), (0, .ref 50), (1, .int (nI s))]) (st' := [.ref 50, .int 1, .int (nI s), .ref 50]) (μ' := z_giv W s c (-2)) (by rfl) ?_
        refine zq_gfi hc hH (by rfl) (ci := 6) (f := 49) (by rfl) (by decide +kernel) (by rfl) ?_
        rw [giv_o (by first | decide | omega), (hO _ _ (by omega)).1]
        rw [o49]
        refine zq_call hc (z_cx_ok hH (by rfl)) (gm_claims d' (by omega) (z_giv W s c (-2)) s q 1 (nI c) hs4 hq4 (by rw [giv_o (by first | decide | omega), (hO _ _ (by omega)).1]; exact e64)) (by decide +kernel) (fun r9 μ9 hq => ?_)
        obtain ⟨rfl, rfl⟩ := hq
        show Z 0 99 [(2, .int (nB cd)), (0, .ref 50), (1, .int (nI s))] [] (clM (z_giv W s c (-2)) s q 1 (nI c))
        refine z_rcs0 hc hH 1 (pc' := 100) (lv' := [(2, .int (nB cd)), (0, .ref 50), (1, .int (nI s))]) (st' := [.int 1]) (by rfl) ?_
        exact hr 0 100 _ _ _ (some (.int 1)) (by decide +kernel) (z_rx_ok hH (by rfl)) (Or.inl ⟨by simp only [thC, h1, h2, h3, Bool.true_or, Bool.true_and, Bool.and_true, Bool.false_and, Bool.and_false, Bool.not_true, Bool.not_false], rfl, SM_cl (SM_giv (hO))⟩)
      · have h3 : (cd) = false := nB_z.mp (cn_ne.mp h3)
        refine z_rcs hc hH 1 (pc' := 73) (lv' := [(2, .int (nB cd)), (0, .ref 50), (1, .int (nI s))]) (st' := [.int 0]) (μ' := z_giv (z_giv (z_ui (z_ui (z_ui μ 50 0 0) 50 50 (nI c)) 50 51 (-1)) s c (-2)) s c 2) (by rfl) ?_
        exact hr 0 73 _ _ _ (some (.int 0)) (by decide +kernel) (z_rx_ok hH (by rfl)) (Or.inr ⟨by simp only [thC, h1, h2, h3, Bool.true_or, Bool.true_and, Bool.and_true, Bool.false_and, Bool.and_false, Bool.not_true, Bool.not_false], rfl, Or.inr rfl⟩)
    · have h2 : (decide (2 ≤ (μ.1 60 (34 * s + c)))) = false := decide_eq_false (cn_ge.mp h2)
      refine z_rcs hc hH 1 (pc' := 27) (lv' := [(0, .ref 50), (1, .int (nI s))]) (st' := [.int 0]) (μ' := z_ui μ 50 0 0) (by rfl) ?_
      exact hr 0 27 _ _ _ (some (.int 0)) (by decide +kernel) (z_rx_ok hH (by rfl)) (Or.inr ⟨by simp only [thC, h1, h2, Bool.true_or, Bool.true_and, Bool.and_true, Bool.false_and, Bool.and_false, Bool.not_true, Bool.not_false], rfl, Or.inl rfl⟩)
/-! the game: canDiscard of the reference -/
set_option maxRecDepth 8000
noncomputable def cdF (μ : zM) (s k : Nat) : Bool := !decide (μ.1 60 (34 * s + k) ≤ 0) && (!decide (nI k = μ.1 50 50) && !decide (nI k = μ.1 50 51))
theorem gm_canDiscard (d : Nat) (hd : 2 ≤ d) (μ : zM) (s : Nat) (hs4 : s < 4) : z_C d mi_X7_canDiscard [.ref 50, .int (nI s)] μ (zR μ (.int (nB (kA (cdF μ s) 34)))) := by
  refine z_C_in (by decide) (by omega) (fun d' Z ed hc hr => ?_)
  have hH : zH mi_X7_canDiscard zt_X7_canDiscard 79 7 4 := hh_X7_canDiscard
  have hL : ∀ n k, k + n = 34 → Z 0 4 [(3, .int (nI k)), (2, .int (nB (kA (cdF μ s) k))), (0, .ref 50), (1, .int (nI s))] [] μ := by
    intro n
    induction n with
    | zero =>
      intro k hk
      have hk : k = 34 := by omega
      obtain ⟨bb, hbb⟩ : ∃ b, kA (cdF μ s) k = b := ⟨_, rfl⟩
      rw [hbb]
      refine z_rcs hc hH 2 (pc' := 7) (lv' := [(3, .int (nI k)), (2, .int (nB bb)), (0, .ref 50), (1, .int (nI s))]) (st' := [.int 34, .int (nI k)]) (μ' := μ) (by rfl) ?_
      refine zq_ic hc hH (by rfl) (tg := 51) (by rfl) (fun h1 => ?_) (fun h1 => ?_)
      · have h1 : (decide (34 ≤ (nI k))) = true := decide_eq_true (cm_ge.mp h1)
        refine z_rcs hc hH 1 (pc' := 52) (lv' := [(3, .int (nI k)), (2, .int (nB bb)), (0, .ref 50), (1, .int (nI s))]) (st' := [.int (nB bb)]) (μ' := μ) (by rfl) ?_
        exact hr 0 52 _ _ _ (some (.int (nB bb))) (by decide +kernel) ((fun b : Bool => (by cases b <;> rfl : z_rn mi_X7_canDiscard 52 [.int (nB b)] = some (some (.int (nB b))))) bb) (⟨rfl, by rw [← hbb, hk]⟩)
      · have h1 : (decide (34 ≤ (nI k))) = false := decide_eq_false (cn_ge.mp h1)
        exact absurd (Eq.trans (Eq.symm (kn_le2 (m := 34) rfl (by omega) (by omega))) h1) (by decide)
    | succ n ih =>
      intro k hk
      obtain ⟨bb, hbb⟩ : ∃ b, kA (cdF μ s) k = b := ⟨_, rfl⟩
      rw [hbb]
      refine z_rcs hc hH 2 (pc' := 7) (lv' := [(3, .int (nI k)), (2, .int (nB bb)), (0, .ref 50), (1, .int (nI s))]) (st' := [.int 34, .int (nI k)]) (μ' := μ) (by rfl) ?_
      refine zq_ic hc hH (by rfl) (tg := 51) (by rfl) (fun h1 => ?_) (fun h1 => ?_)
      · have h1 : (decide (34 ≤ (nI k))) = true := decide_eq_true (cm_ge.mp h1)
        exact absurd (Eq.trans (Eq.symm (kn_le (m := 34) rfl (by omega) (by omega))) h1) (by decide)
      · have h1 : (decide (34 ≤ (nI k))) = false := decide_eq_false (cn_ge.mp h1)
        refine z_rcs hc hH 1 (pc' := 11) (lv' := [(3, .int (nI k)), (2, .int (nB bb)), (0, .ref 50), (1, .int (nI s))]) (st' := [.int (nB bb)]) (μ' := μ) (by rfl) ?_
        have hJ2 : Z 0 44 [(3, .int (nI k)), (2, .int (nB bb)), (0, .ref 50), (1, .int (nI s))] [.int (nB (bb || (!(decide ((μ.1 60 (34 * s + k)) ≤ 0)) && (!(decide ((nI k) = (μ.1 50 50))) && (!(decide ((nI k) = (μ.1 50 51))))))))] μ := by
          refine z_rcs hc hH 3 (pc' := 4) (lv' := [(3, .int ((nI k) + 1)), (2, .int (nB (bb || (!(decide ((μ.1 60 (34 * s + k)) ≤ 0)) && (!(decide ((nI k) = (μ.1 50 50))) && (!(decide ((nI k) = (μ.1 50 51))))))))), (0, .ref 50), (1, .int (nI s))]) (st' := []) (μ' := μ) (by rfl) ?_
          have e9 := ih (k + 1) (by omega)
          rw [nI_s1]
          refine zJ e9 ?_ rfl rfl
          have e8 : kA (cdF μ s) (k + 1) = (bb || (!(decide ((μ.1 60 (34 * s + k)) ≤ 0)) && (!(decide ((nI k) = (μ.1 50 50))) && (!(decide ((nI k) = (μ.1 50 51))))))) := by
            show (kA _ k || cdF μ s k) = _
            rw [hbb]; unfold cdF; cases bb <;> first | rfl | (simp only [Bool.false_or, Bool.true_or, Bool.and_assoc, Bool.or_assoc])
          rw [e8]
        refine zq_if hc hH (by rfl) (tg := 39) (by rfl) (fun h3 => ?_) (fun h3 => ?_)
        · have h3 : (bb) = true := nB_n.mp (cm_ne.mp h3)
          refine z_rcs hc hH 2 (pc' := 44) (lv' := [(3, .int (nI k)), (2, .int (nB bb)), (0, .ref 50), (1, .int (nI s))]) (st' := [.int 1]) (μ' := μ) (by rfl) ?_
          exact zJ hJ2 rfl (by first | with_reducible rfl | (simp only [h3, lb_f, Int64.or_zero, Int32.add_zero, nB_t, nB_f, Bool.not_true, Bool.not_false, Bool.and_true, Bool.true_and, Bool.false_and, Bool.and_false, Bool.or_true, Bool.true_or, Bool.false_or, Bool.or_false, cond_true, cond_false]; done) | rfl) rfl
        · have h3 : (bb) = false := nB_z.mp (cn_ne.mp h3)
          refine z_rcs hc hH 3 (pc' := 17) (lv' := [(3, .int (nI k)), (2, .int (nB bb)), (0, .ref 50), (1, .int (nI s))]) (st' := [.int (nI k), .int (nI s), .ref 50]) (μ' := μ) (by rfl) ?_
          refine zq_call hc (z_cx_ok hH (by rfl)) (fc_X7_has_ d' (by omega) μ s k hs4 (by omega)) (by decide +kernel) (fun r9 μ9 hq => ?_)
          obtain ⟨hμ9, rfl⟩ := hq
          rw [hμ9]
          clear hμ9 μ9
          show Z 0 20 [(3, .int (nI k)), (2, .int (nB bb)), (0, .ref 50), (1, .int (nI s))] [.int (μ.1 60 (34 * s + k))] μ
          refine zq_if hc hH (by rfl) (tg := 43) (by rfl) (fun h4 => ?_) (fun h4 => ?_)
          · have h4 : (decide ((μ.1 60 (34 * s + k)) ≤ 0)) = true := decide_eq_true (cm_le.mp h4)
            refine z_rcs hc hH 1 (pc' := 44) (lv' := [(3, .int (nI k)), (2, .int (nB bb)), (0, .ref 50), (1, .int (nI s))]) (st' := [.int 0]) (μ' := μ) (by rfl) ?_
            exact zJ hJ2 rfl (by first | with_reducible rfl | (simp only [h3, h4, lb_f, Int64.or_zero, Int32.add_zero, nB_t, nB_f, Bool.not_true, Bool.not_false, Bool.and_true, Bool.true_and, Bool.false_and, Bool.and_false, Bool.or_true, Bool.true_or, Bool.false_or, Bool.or_false, cond_true, cond_false]; done) | rfl) rfl
          · have h4 : (decide ((μ.1 60 (34 * s + k)) ≤ 0)) = false := decide_eq_false (cn_le.mp h4)
            refine z_rcs hc hH 2 (pc' := 25) (lv' := [(3, .int (nI k)), (2, .int (nB bb)), (0, .ref 50), (1, .int (nI s))]) (st' := [.ref 50, .int (nI k)]) (μ' := μ) (by rfl) ?_
            refine zq_gfi hc hH (by rfl) (ci := 6) (f := 50) (by rfl) (by decide +kernel) (by rfl) ?_
            refine zq_ic hc hH (by rfl) (tg := 43) (by rfl) (fun h5 => ?_) (fun h5 => ?_)
            · have h5 : (decide ((nI k) = (μ.1 50 50))) = true := decide_eq_true (cm_eq9.mp h5)
              refine z_rcs hc hH 1 (pc' := 44) (lv' := [(3, .int (nI k)), (2, .int (nB bb)), (0, .ref 50), (1, .int (nI s))]) (st' := [.int 0]) (μ' := μ) (by rfl) ?_
              exact zJ hJ2 rfl (by first | with_reducible rfl | (simp only [h3, h4, h5, lb_f, Int64.or_zero, Int32.add_zero, nB_t, nB_f, Bool.not_true, Bool.not_false, Bool.and_true, Bool.true_and, Bool.false_and, Bool.and_false, Bool.or_true, Bool.true_or, Bool.false_or, Bool.or_false, cond_true, cond_false]; done) | rfl) rfl
            · have h5 : (decide ((nI k) = (μ.1 50 50))) = false := decide_eq_false (cn_eq.mp h5)
              refine z_rcs hc hH 2 (pc' := 33) (lv' := [(3, .int (nI k)), (2, .int (nB bb)), (0, .ref 50), (1, .int (nI s))]) (st' := [.ref 50, .int (nI k)]) (μ' := μ) (by rfl) ?_
              refine zq_gfi hc hH (by rfl) (ci := 6) (f := 51) (by rfl) (by decide +kernel) (by rfl) ?_
              refine zq_ic hc hH (by rfl) (tg := 43) (by rfl) (fun h6 => ?_) (fun h6 => ?_)
              · have h6 : (decide ((nI k) = (μ.1 50 51))) = true := decide_eq_true (cm_eq9.mp h6)
                refine z_rcs hc hH 1 (pc' := 44) (lv' := [(3, .int (nI k)), (2, .int (nB bb)), (0, .ref 50), (1, .int (nI s))]) (st' := [.int 0]) (μ' := μ) (by rfl) ?_
                exact zJ hJ2 rfl (by first | with_reducible rfl | (simp only [h3, h4, h5, h6, lb_f, Int64.or_zero, Int32.add_zero, nB_t, nB_f, Bool.not_true, Bool.not_false, Bool.and_true, Bool.true_and, Bool.false_and, Bool.and_false, Bool.or_true, Bool.true_or, Bool.false_or, Bool.or_false, cond_true, cond_false]; done) | rfl) rfl
              · have h6 : (decide ((nI k) = (μ.1 50 51))) = false := decide_eq_false (cn_eq.mp h6)
                refine z_rcs hc hH 2 (pc' := 44) (lv' := [(3, .int (nI k)), (2, .int (nB bb)), (0, .ref 50), (1, .int (nI s))]) (st' := [.int 1]) (μ' := μ) (by rfl) ?_
                exact zJ hJ2 rfl (by first | with_reducible rfl | (simp only [h3, h4, h5, h6, lb_f, Int64.or_zero, Int32.add_zero, nB_t, nB_f, Bool.not_true, Bool.not_false, Bool.and_true, Bool.true_and, Bool.false_and, Bool.and_false, Bool.or_true, Bool.true_or, Bool.false_or, Bool.or_false, cond_true, cond_false]; done) | rfl) rfl
  exact z_rcs hc hH 4 (pc' := 4) (lv' := [(3, .int (nI 0)), (2, .int (nB (kA (cdF μ s) 0))), (0, .ref 50), (1, .int (nI s))]) (st' := []) (μ' := μ) (by rfl) (hL 34 0 (by omega))
/-! the game: discard without a bet, of the reference -/
set_option maxRecDepth 8000
theorem gm_discard0 (d : Nat) (hd : 3 ≤ d) (μ : zM) (t : Nat) (ht4 : t < 4) (ht : μ.1 50 45 = nI t) (k q : Nat) (hk : k < 34) (hq : q < 136) (e66 : μ.1 66 t = nI q) : z_C d mi_X7_discard [.ref 50, .int (nI k), .int 0] μ (fun r μ' => r = some ((bif decide ((μ.1 50 44) = 1) then (bif decide ((μ.1 60 (34 * t + k)) = 0) then .int 0 else (bif decide ((μ.1 50 57) = 0) then (bif decide ((μ.1 67 t) ≤ 0) then .int 1 else (bif decide ((nI k) = (μ.1 50 49)) then .int 1 else .int 0)) else (bif decide ((nI k) = (μ.1 50 50)) then .int 0 else (bif decide ((nI k) = (μ.1 50 51)) then .int 0 else (bif decide ((μ.1 67 t) ≤ 0) then .int 1 else (bif decide ((nI k) = (μ.1 50 49)) then .int 1 else .int 0)))))) else .int 0)) ∧ μ' = (bif decide ((μ.1 50 44) = 1) then (bif decide ((μ.1 60 (34 * t + k)) = 0) then z_ui μ 50 0 0 else (bif decide ((μ.1 50 57) = 0) then (bif decide ((μ.1 67 t) ≤ 0) then z_ui (z_ui (z_ui (z_ui (z_ui (z_ui (z_ui (z_giv (z_ui μ 50 0 0) t k (-1)) 65 (136 * t + q) (nI k)) 66 t (nI (q + 1))) 69 t 0) 50 59 0) 50 44 2) 50 49 (nI k)) 50 57 0 else (bif decide ((nI k) = (μ.1 50 49)) then z_ui (z_ui (z_ui (z_ui (z_ui (z_ui (z_ui (z_giv (z_ui μ 50 0 0) t k (-1)) 65 (136 * t + q) (nI k)) 66 t (nI (q + 1))) 69 t 0) 50 59 0) 50 44 2) 50 49 (nI k)) 50 57 0 else z_ui μ 50 0 0)) else (bif decide ((nI k) = (μ.1 50 50)) then z_ui μ 50 0 0 else (bif decide ((nI k) = (μ.1 50 51)) then z_ui μ 50 0 0 else (bif decide ((μ.1 67 t) ≤ 0) then z_ui (z_ui (z_ui (z_ui (z_ui (z_ui (z_ui (z_giv (z_ui μ 50 0 0) t k (-1)) 65 (136 * t + q) (nI k)) 66 t (nI (q + 1))) 69 t 0) 50 59 0) 50 44 2) 50 49 (nI k)) 50 57 0 else (bif decide ((nI k) = (μ.1 50 49)) then z_ui (z_ui (z_ui (z_ui (z_ui (z_ui (z_ui (z_giv (z_ui μ 50 0 0) t k (-1)) 65 (136 * t + q) (nI k)) 66 t (nI (q + 1))) 69 t 0) 50 59 0) 50 44 2) 50 49 (nI k)) 50 57 0 else z_ui μ 50 0 0)))))) else z_ui μ 50 0 0)) := by
  refine z_C_in (by decide) (by omega) (fun d' Z ed hc hr => ?_)
  have hH : zH mi_X7_discard zt_X7_discard 79 7 5 := hh_X7_discard
  refine z_rcs hc hH 2 (pc' := 2) (lv' := [(0, .ref 50), (1, .int (nI k)), (2, .int 0)]) (st' := [.int 0, .ref 50]) (μ' := μ) (by rfl) ?_
  refine zq_pfi hc hH (by rfl) (ci := 6) (f := 0) (by rfl) (by decide +kernel) (by rfl) ?_
  show Z 0 5 [(0, .ref 50), (1, .int (nI k)), (2, .int 0)] [] (z_ui μ 50 0 0)
  refine z_rcs hc hH 1 (pc' := 6) (lv' := [(0, .ref 50), (1, .int (nI k)), (2, .int 0)]) (st' := [.ref 50]) (μ' := z_ui μ 50 0 0) (by rfl) ?_
  refine zq_gfi hc hH (by rfl) (ci := 6) (f := 44) (by rfl) (by decide +kernel) (by rfl) ?_
  refine zV1 (Z := Z) (ui_k (by first | decide | omega)) ?_
  refine z_rcs hc hH 1 (pc' := 10) (lv' := [(0, .ref 50), (1, .int (nI k)), (2, .int 0)]) (st' := [.int 1, .int (μ.1 50 44)]) (μ' := z_ui μ 50 0 0) (by rfl) ?_
  refine zq_ic hc hH (by rfl) (tg := 32) (by rfl) (fun h1 => ?_) (fun h1 => ?_)
  · have h1 : (decide ((μ.1 50 44) = 1)) = false := decide_eq_false (cm_ne.mp h1)
    refine z_rcs hc hH 1 (pc' := 33) (lv' := [(0, .ref 50), (1, .int (nI k)), (2, .int 0)]) (st' := [.int 0]) (μ' := z_ui μ 50 0 0) (by rfl) ?_
    exact hr 0 33 _ _ _ (some (.int 0)) (by decide +kernel) (z_rx_ok hH (by rfl)) (⟨(by first | with_reducible rfl | (simp only [h1, cond_true, cond_false]; done) | rfl), (by simp only [h1, cond_true, cond_false])⟩)
  · have h1 : (decide ((μ.1 50 44) = 1)) = true := decide_eq_true (cn_ne.mp h1)
    refine z_rcs hc hH 1 (pc' := 14) (lv' := [(0, .ref 50), (1, .int (nI k)), (2, .int 0)]) (st' := [.int (nI k)]) (μ' := z_ui μ 50 0 0) (by rfl) ?_
    refine zq_call hc (z_cx_ok hH (by rfl)) (gm_isKindN d' (by omega) (z_ui μ 50 0 0) k hk) (by decide +kernel) (fun r9 μ9 hq => ?_)
    obtain ⟨hμ9, rfl⟩ := hq
    rw [hμ9]
    clear hμ9 μ9
    show Z 0 17 [(0, .ref 50), (1, .int (nI k)), (2, .int 0)] [.int 1] (z_ui μ 50 0 0)
    refine z_rcs hc hH 3 (pc' := 22) (lv' := [(0, .ref 50), (1, .int (nI k)), (2, .int 0)]) (st' := [.ref 50, .ref 50]) (μ' := z_ui μ 50 0 0) (by rfl) ?_
    refine zq_gfi hc hH (by rfl) (ci := 6) (f := 45) (by rfl) (by decide +kernel) (by rfl) ?_
    refine zV1 (Z := Z) (ui_k (by first | decide | omega)) ?_
    rw [ht]
    refine z_rcs hc hH 1 (pc' := 26) (lv' := [(0, .ref 50), (1, .int (nI k)), (2, .int 0)]) (st' := [.int (nI k), .int (nI t), .ref 50]) (μ' := z_ui μ 50 0 0) (by rfl) ?_
    refine zq_call hc (z_cx_ok hH (by rfl)) (fc_X7_has_ d' (by omega) (z_ui μ 50 0 0) t k ht4 hk) (by decide +kernel) (fun r9 μ9 hq => ?_)
    obtain ⟨hμ9, rfl⟩ := hq
    rw [hμ9]
    clear hμ9 μ9
    rw [ui_o (by first | decide | omega)]
    show Z 0 29 [(0, .ref 50), (1, .int (nI k)), (2, .int 0)] [.int (μ.1 60 (34 * t + k))] (z_ui μ 50 0 0)
    refine zq_if hc hH (by rfl) (tg := 34) (by rfl) (fun h2 => ?_) (fun h2 => ?_)
    · have h2 : (decide ((μ.1 60 (34 * t + k)) = 0)) = false := decide_eq_false (cm_ne.mp h2)
      refine z_rcs hc hH 1 (pc' := 35) (lv' := [(0, .ref 50), (1, .int (nI k)), (2, .int 0)]) (st' := [.ref 50]) (μ' := z_ui μ 50 0 0) (by rfl) ?_
      refine zq_gfi hc hH (by rfl) (ci := 6) (f := 57) (by rfl) (by decide +kernel) (by rfl) ?_
      refine zV1 (Z := Z) (ui_k (by first | decide | omega)) ?_
      refine zq_if hc hH (by rfl) (tg := 57) (by rfl) (fun h3 => ?_) (fun h3 => ?_)
      · have h3 : (decide ((μ.1 50 57) = 0)) = true := decide_eq_true (cm_eq9.mp h3)
        refine z_rcs hc hH 1 (pc' := 58) (lv' := [(0, .ref 50), (1, .int (nI k)), (2, .int 0)]) (st' := [.ref 50]) (μ' := z_ui μ 50 0 0) (by rfl) ?_
        refine zq_gfr hc hH (by rfl) (ci := 6) (f := 35) (q := 67) (by rfl) (by decide +kernel) (by rfl) (by decide +kernel) ?_
        refine z_rcs hc hH 1 (pc' := 62) (lv' := [(0, .ref 50), (1, .int (nI k)), (2, .int 0)]) (st' := [.ref 50, .ref 67]) (μ' := z_ui μ 50 0 0) (by rfl) ?_
        refine zq_gfi hc hH (by rfl) (ci := 6) (f := 45) (by rfl) (by decide +kernel) (by rfl) ?_
        refine zV1 (Z := Z) (ui_k (by first | decide | omega)) ?_
        rw [ht]
        refine zq_iald hc hH (by rfl) 4 (oka_i (by decide +kernel)) (vp_in_nI (by omega) (by decide)) ?_
        rw [nI_clamp (by omega)]
        refine zV1 (Z := Z) (ui_o (by first | decide | omega)) ?_
        refine zq_if hc hH (by rfl) (tg := 83) (by rfl) (fun h4 => ?_) (fun h4 => ?_)
        · have h4 : (decide ((μ.1 67 t) ≤ 0)) = true := decide_eq_true (cm_le.mp h4)
          refine z_rcs hc hH 4 (pc' := 195) (lv' := [(0, .ref 50), (1, .int (nI k)), (2, .int 0)]) (st' := [.ref 50, .ref 50]) (μ' := z_ui μ 50 0 0) (by rfl) ?_
          refine zq_gfi hc hH (by rfl) (ci := 6) (f := 45) (by rfl) (by decide +kernel) (by rfl) ?_
          refine zV1 (Z := Z) (ui_k (by first | decide | omega)) ?_
          rw [ht]
          refine z_rcs hc hH 2 (pc' := 200) (lv' := [(0, .ref 50), (1, .int (nI k)), (2, .int 0)]) (st' := [.int (-1), .int (nI k), .int (nI t), .ref 50]) (μ' := z_ui μ 50 0 0) (by rfl) ?_
          refine zq_call hc (z_cx_ok hH (by rfl)) (fc_X7_gives d' (by omega) (z_ui μ 50 0 0) t k (-1) ht4 hk) (by decide +kernel) (fun r9 μ9 hq => ?_)
          obtain ⟨rfl, rfl⟩ := hq
          show Z 0 203 [(0, .ref 50), (1, .int (nI k)), (2, .int 0)] [] (z_giv (z_ui μ 50 0 0) t k (-1))
          refine z_rcs0 hc hH 1 (pc' := 204) (lv' := [(0, .ref 50), (1, .int (nI k)), (2, .int 0)]) (st' := [.ref 50]) (by rfl) ?_
          refine zq_gfr hc hH (by rfl) (ci := 6) (f := 33) (q := 65) (by rfl) (by decide +kernel) (by rfl) (by decide +kernel) ?_
          refine z_rcs0 hc hH 2 (pc' := 211) (lv' := [(0, .ref 50), (1, .int (nI k)), (2, .int 0)]) (st' := [.ref 50, .int 136, .ref 65]) (by rfl) ?_
          refine zq_gfi hc hH (by rfl) (ci := 6) (f := 45) (by rfl) (by decide +kernel) (by rfl) ?_
          refine zV1 (Z := Z) (Eq.trans (giv_o (by first | decide | omega)) (ui_k (by first | decide | omega))) ?_
          rw [ht]
          refine z_rcs0 hc hH 2 (pc' := 216) (lv' := [(0, .ref 50), (1, .int (nI k)), (2, .int 0)]) (st' := [.ref 50, .int (136 * (nI t)), .ref 65]) (by rfl) ?_
          refine zq_gfr hc hH (by rfl) (ci := 6) (f := 34) (q := 66) (by rfl) (by decide +kernel) (by rfl) (by decide +kernel) ?_
          refine z_rcs0 hc hH 1 (pc' := 220) (lv' := [(0, .ref 50), (1, .int (nI k)), (2, .int 0)]) (st' := [.ref 50, .ref 66, .int (136 * (nI t)), .ref 65]) (by rfl) ?_
          refine zq_gfi hc hH (by rfl) (ci := 6) (f := 45) (by rfl) (by decide +kernel) (by rfl) ?_
          refine zV1 (Z := Z) (Eq.trans (giv_o (by first | decide | omega)) (ui_k (by first | decide | omega))) ?_
          rw [ht]
          refine zq_iald hc hH (by rfl) 4 (oka_i (by decide +kernel)) (vp_in_nI (by omega) (by decide)) ?_
          rw [nI_clamp (by omega)]
          refine zV1 (Z := Z) (Eq.trans (giv_o (by first | decide | omega)) (ui_o (by first | decide | omega))) ?_
          rw [e66]
          refine z_rcs0 hc hH 1 (pc' := 225) (lv' := [(0, .ref 50), (1, .int (nI k)), (2, .int 0)]) (st' := [.int ((136 * (nI t)) + (nI q)), .ref 65]) (by rfl) ?_
          rw [nI_136]
          refine z_rcs0 hc hH 1 (pc' := 226) (lv' := [(0, .ref 50), (1, .int (nI k)), (2, .int 0)]) (st' := [.int (nI k), .int (nI (136 * t + q)), .ref 65]) (by rfl) ?_
          refine zq_iast hc hH (by rfl) 544 (oka_i (by decide +kernel)).2 (vp_in_nI (by omega) (by decide)) ?_
          rw [nI_clamp (by omega)]
          show Z 0 227 [(0, .ref 50), (1, .int (nI k)), (2, .int 0)] [] (z_ui (z_giv (z_ui μ 50 0 0) t k (-1)) 65 (136 * t + q) (nI k))
          refine z_rcs0 hc hH 1 (pc' := 228) (lv' := [(0, .ref 50), (1, .int (nI k)), (2, .int 0)]) (st' := [.ref 50]) (by rfl) ?_
          refine zq_gfr hc hH (by rfl) (ci := 6) (f := 34) (q := 66) (by rfl) (by decide +kernel) (by rfl) (by decide +kernel) ?_
          refine z_rcs0 hc hH 1 (pc' := 232) (lv' := [(0, .ref 50), (1, .int (nI k)), (2, .int 0)]) (st' := [.ref 50, .ref 66]) (by rfl) ?_
          refine zq_gfi hc hH (by rfl) (ci := 6) (f := 45) (by rfl) (by decide +kernel) (by rfl) ?_
          refine zV1 (Z := Z) (Eq.trans (ui_o (by first | decide | omega)) (Eq.trans (giv_o (by first | decide | omega)) (ui_k (by first | decide | omega)))) ?_
          rw [ht]
          refine z_rcs0 hc hH 1 (pc' := 236) (lv' := [(0, .ref 50), (1, .int (nI k)), (2, .int 0)]) (st' := [.int (nI t), .ref 66, .int (nI t), .ref 66]) (by rfl) ?_
          refine zq_iald hc hH (by rfl) 4 (oka_i (by decide +kernel)) (vp_in_nI (by omega) (by decide)) ?_
          rw [nI_clamp (by omega)]
          refine zV1 (Z := Z) (Eq.trans (ui_o (by first | decide | omega)) (Eq.trans (giv_o (by first | decide | omega)) (ui_o (by first | decide | omega)))) ?_
          rw [e66]
          refine z_rcs0 hc hH 2 (pc' := 239) (lv' := [(0, .ref 50), (1, .int (nI k)), (2, .int 0)]) (st' := [.int ((nI q) + 1), .int (nI t), .ref 66]) (by rfl) ?_
          rw [nI_s1]
          refine zq_iast hc hH (by rfl) 4 (oka_i (by decide +kernel)).2 (vp_in_nI (by omega) (by decide)) ?_
          rw [nI_clamp (by omega)]
          show Z 0 240 [(0, .ref 50), (1, .int (nI k)), (2, .int 0)] [] (z_ui (z_ui (z_giv (z_ui μ 50 0 0) t k (-1)) 65 (136 * t + q) (nI k)) 66 t (nI (q + 1)))
          refine z_rcs0 hc hH 1 (pc' := 241) (lv' := [(0, .ref 50), (1, .int (nI k)), (2, .int 0)]) (st' := [.ref 50]) (by rfl) ?_
          refine zq_gfr hc hH (by rfl) (ci := 6) (f := 37) (q := 69) (by rfl) (by decide +kernel) (by rfl) (by decide +kernel) ?_
          refine z_rcs0 hc hH 1 (pc' := 245) (lv' := [(0, .ref 50), (1, .int (nI k)), (2, .int 0)]) (st' := [.ref 50, .ref 69]) (by rfl) ?_
          refine zq_gfi hc hH (by rfl) (ci := 6) (f := 45) (by rfl) (by decide +kernel) (by rfl) ?_
          refine zV1 (Z := Z) (Eq.trans (ui_o (by first | decide | omega)) (Eq.trans (ui_o (by first | decide | omega)) (Eq.trans (giv_o (by first | decide | omega)) (ui_k (by first | decide | omega))))) ?_
          rw [ht]
          refine z_rcs0 hc hH 1 (pc' := 249) (lv' := [(0, .ref 50), (1, .int (nI k)), (2, .int 0)]) (st' := [.int 0, .int (nI t), .ref 69]) (by rfl) ?_
          refine zq_bast hc hH (by rfl) 4 (by decide +kernel) (vp_in_nI (by omega) (by decide)) (by decide) ?_
          rw [nI_clamp (by omega)]
          show Z 0 250 [(0, .ref 50), (1, .int (nI k)), (2, .int 0)] [] (z_ui (z_ui (z_ui (z_giv (z_ui μ 50 0 0) t k (-1)) 65 (136 * t + q) (nI k)) 66 t (nI (q + 1))) 69 t 0)
          refine z_rcs0 hc hH 2 (pc' := 252) (lv' := [(0, .ref 50), (1, .int (nI k)), (2, .int 0)]) (st' := [.int 0, .ref 50]) (by rfl) ?_
          refine zq_pfb hc hH (by rfl) (ci := 6) (f := 59) (by rfl) (by decide +kernel) (by rfl) (by decide) ?_
          show Z 0 255 [(0, .ref 50), (1, .int (nI k)), (2, .int 0)] [] (z_ui (z_ui (z_ui (z_ui (z_giv (z_ui μ 50 0 0) t k (-1)) 65 (136 * t + q) (nI k)) 66 t (nI (q + 1))) 69 t 0) 50 59 0)
          refine z_rcs0 hc hH 2 (pc' := 257) (lv' := [(0, .ref 50), (1, .int (nI k)), (2, .int 0)]) (st' := [.int 2, .ref 50]) (by rfl) ?_
          refine zq_pfi hc hH (by rfl) (ci := 6) (f := 44) (by rfl) (by decide +kernel) (by rfl) ?_
          show Z 0 260 [(0, .ref 50), (1, .int (nI k)), (2, .int 0)] [] (z_ui (z_ui (z_ui (z_ui (z_ui (z_giv (z_ui μ 50 0 0) t k (-1)) 65 (136 * t + q) (nI k)) 66 t (nI (q + 1))) 69 t 0) 50 59 0) 50 44 2)
          refine z_rcs0 hc hH 2 (pc' := 262) (lv' := [(0, .ref 50), (1, .int (nI k)), (2, .int 0)]) (st' := [.int (nI k), .ref 50]) (by rfl) ?_
          refine zq_pfi hc hH (by rfl) (ci := 6) (f := 49) (by rfl) (by decide +kernel) (by rfl) ?_
          show Z 0 265 [(0, .ref 50), (1, .int (nI k)), (2, .int 0)] [] (z_ui (z_ui (z_ui (z_ui (z_ui (z_ui (z_giv (z_ui μ 50 0 0) t k (-1)) 65 (136 * t + q) (nI k)) 66 t (nI (q + 1))) 69 t 0) 50 59 0) 50 44 2) 50 49 (nI k))
          refine z_rcs0 hc hH 2 (pc' := 267) (lv' := [(0, .ref 50), (1, .int (nI k)), (2, .int 0)]) (st' := [.int 0, .ref 50]) (by rfl) ?_
          refine zq_pfb hc hH (by rfl) (ci := 6) (f := 57) (by rfl) (by decide +kernel) (by rfl) (by decide) ?_
          show Z 0 270 [(0, .ref 50), (1, .int (nI k)), (2, .int 0)] [] (z_ui (z_ui (z_ui (z_ui (z_ui (z_ui (z_ui (z_giv (z_ui μ 50 0 0) t k (-1)) 65 (136 * t + q) (nI k)) 66 t (nI (q + 1))) 69 t 0) 50 59 0) 50 44 2) 50 49 (nI k)) 50 57 0)
          refine z_rcs0 hc hH 1 (pc' := 271) (lv' := [(0, .ref 50), (1, .int (nI k)), (2, .int 0)]) (st' := [.int 1]) (by rfl) ?_
          exact hr 0 271 _ _ _ (some (.int 1)) (by decide +kernel) (z_rx_ok hH (by rfl)) (⟨(by first | with_reducible rfl | (simp only [h1, h2, h3, h4, cond_true, cond_false]; done) | rfl), (by simp only [h1, h2, h3, h4, cond_true, cond_false])⟩)
        · have h4 : (decide ((μ.1 67 t) ≤ 0)) = false := decide_eq_false (cn_le.mp h4)
          refine z_rcs hc hH 4 (pc' := 75) (lv' := [(0, .ref 50), (1, .int (nI k)), (2, .int 0)]) (st' := [.ref 50, .int (nI k)]) (μ' := z_ui μ 50 0 0) (by rfl) ?_
          refine zq_gfi hc hH (by rfl) (ci := 6) (f := 49) (by rfl) (by decide +kernel) (by rfl) ?_
          refine zV1 (Z := Z) (ui_k (by first | decide | omega)) ?_
          refine zq_ic hc hH (by rfl) (tg := 83) (by rfl) (fun h5 => ?_) (fun h5 => ?_)
          · have h5 : (decide ((nI k) = (μ.1 50 49))) = true := decide_eq_true (cm_eq9.mp h5)
            refine z_rcs hc hH 4 (pc' := 195) (lv' := [(0, .ref 50), (1, .int (nI k)), (2, .int 0)]) (st' := [.ref 50, .ref 50]) (μ' := z_ui μ 50 0 0) (by rfl) ?_
            refine zq_gfi hc hH (by rfl) (ci := 6) (f := 45) (by rfl) (by decide +kernel) (by rfl) ?_
            refine zV1 (Z := Z) (ui_k (by first | decide | omega)) ?_
            rw [ht]
            refine z_rcs hc hH 2 (pc' := 200) (lv' := [(0, .ref 50), (1, .int (nI k)), (2, .int 0)]) (st' := [.int (-1), .int (nI k), .int (nI t), .ref 50]) (μ' := z_ui μ 50 0 0) (by rfl) ?_
            refine zq_call hc (z_cx_ok hH (by rfl)) (fc_X7_gives d' (by omega) (z_ui μ 50 0 0) t k (-1) ht4 hk) (by decide +kernel) (fun r9 μ9 hq => ?_)
            obtain ⟨rfl, rfl⟩ := hq
            show Z 0 203 [(0, .ref 50), (1, .int (nI k)), (2, .int 0)] [] (z_giv (z_ui μ 50 0 0) t k (-1))
            refine z_rcs0 hc hH 1 (pc' := 204) (lv' := [(0, .ref 50), (1, .int (nI k)), (2, .int 0)]) (st' := [.ref 50]) (by rfl) ?_
            refine zq_gfr hc hH (by rfl) (ci := 6) (f := 33) (q := 65) (by rfl) (by decide +kernel) (by rfl) (by decide +kernel) ?_
            refine z_rcs0 hc hH 2 (pc' := 211) (lv' := [(0, .ref 50), (1, .int (nI k)), (2, .int 0)]) (st' := [.ref 50, .int 136, .ref 65]) (by rfl) ?_
            refine zq_gfi hc hH (by rfl) (ci := 6) (f := 45) (by rfl) (by decide +kernel) (by rfl) ?_
            refine zV1 (Z := Z) (Eq.trans (giv_o (by first | decide | omega)) (ui_k (by first | decide | omega))) ?_
            rw [ht]
            refine z_rcs0 hc hH 2 (pc' := 216) (lv' := [(0, .ref 50), (1, .int (nI k)), (2, .int 0)]) (st' := [.ref 50, .int (136 * (nI t)), .ref 65]) (by rfl) ?_
            refine zq_gfr hc hH (by rfl) (ci := 6) (f := 34) (q := 66) (by rfl) (by decide +kernel) (by rfl) (by decide +kernel) ?_
            refine z_rcs0 hc hH 1 (pc' := 220) (lv' := [(0, .ref 50), (1, .int (nI k)), (2, .int 0)]) (st' := [.ref 50, .ref 66, .int (136 * (nI t)), .ref 65]) (by rfl) ?_
            refine zq_gfi hc hH (by rfl) (ci := 6) (f := 45) (by rfl) (by decide +kernel) (by rfl) ?_
            refine zV1 (Z := Z) (Eq.trans (giv_o (by first | decide | omega)) (ui_k (by first | decide | omega))) ?_
            rw [ht]
            refine zq_iald hc hH (by rfl) 4 (oka_i (by decide +kernel)) (vp_in_nI (by omega) (by decide)) ?_
            rw [nI_clamp (by omega)]
            refine zV1 (Z := Z) (Eq.trans (giv_o (by first | decide | omega)) (ui_o (by first | decide | omega))) ?_
            rw [e66]
            refine z_rcs0 hc hH 1 (pc' := 225) (lv' := [(0, .ref 50), (1, .int (nI k)), (2, .int 0)]) (st' := [.int ((136 * (nI t)) + (nI q)), .ref 65]) (by rfl) ?_
            rw [nI_136]
            refine z_rcs0 hc hH 1 (pc' := 226) (lv' := [(0, .ref 50), (1, .int (nI k)), (2, .int 0)]) (st' := [.int (nI k), .int (nI (136 * t + q)), .ref 65]) (by rfl) ?_
            refine zq_iast hc hH (by rfl) 544 (oka_i (by decide +kernel)).2 (vp_in_nI (by omega) (by decide)) ?_
            rw [nI_clamp (by omega)]
            show Z 0 227 [(0, .ref 50), (1, .int (nI k)), (2, .int 0)] [] (z_ui (z_giv (z_ui μ 50 0 0) t k (-1)) 65 (136 * t + q) (nI k))
            refine z_rcs0 hc hH 1 (pc' := 228) (lv' := [(0, .ref 50), (1, .int (nI k)), (2, .int 0)]) (st' := [.ref 50]) (by rfl) ?_
            refine zq_gfr hc hH (by rfl) (ci := 6) (f := 34) (q := 66) (by rfl) (by decide +kernel) (by rfl) (by decide +kernel) ?_
            refine z_rcs0 hc hH 1 (pc' := 232) (lv' := [(0, .ref 50), (1, .int (nI k)), (2, .int 0)]) (st' := [.ref 50, .ref 66]) (by rfl) ?_
            refine zq_gfi hc hH (by rfl) (ci := 6) (f := 45) (by rfl) (by decide +kernel) (by rfl) ?_
            refine zV1 (Z := Z) (Eq.trans (ui_o (by first | decide | omega)) (Eq.trans (giv_o (by first | decide | omega)) (ui_k (by first | decide | omega)))) ?_
            rw [ht]
            refine z_rcs0 hc hH 1 (pc' := 236) (lv' := [(0, .ref 50), (1, .int (nI k)), (2, .int 0)]) (st' := [.int (nI t), .ref 66, .int (nI t), .ref 66]) (by rfl) ?_
            refine zq_iald hc hH (by rfl) 4 (oka_i (by decide +kernel)) (vp_in_nI (by omega) (by decide)) ?_
            rw [nI_clamp (by omega)]
            refine zV1 (Z := Z) (Eq.trans (ui_o (by first | decide | omega)) (Eq.trans (giv_o (by first | decide | omega)) (ui_o (by first | decide | omega)))) ?_
            rw [e66]
            refine z_rcs0 hc hH 2 (pc' := 239) (lv' := [(0, .ref 50), (1, .int (nI k)), (2, .int 0)]) (st' := [.int ((nI q) + 1), .int (nI t), .ref 66]) (by rfl) ?_
            rw [nI_s1]
            refine zq_iast hc hH (by rfl) 4 (oka_i (by decide +kernel)).2 (vp_in_nI (by omega) (by decide)) ?_
            rw [nI_clamp (by omega)]
            show Z 0 240 [(0, .ref 50), (1, .int (nI k)), (2, .int 0)] [] (z_ui (z_ui (z_giv (z_ui μ 50 0 0) t k (-1)) 65 (136 * t + q) (nI k)) 66 t (nI (q + 1)))
            refine z_rcs0 hc hH 1 (pc' := 241) (lv' := [(0, .ref 50), (1, .int (nI k)), (2, .int 0)]) (st' := [.ref 50]) (by rfl) ?_
            refine zq_gfr hc hH (by rfl) (ci := 6) (f := 37) (q := 69) (by rfl) (by decide +kernel) (by rfl) (by decide +kernel) ?_
            refine z_rcs0 hc hH 1 (pc' := 245) (lv' := [(0, .ref 50), (1, .int (nI k)), (2, .int 0)]) (st' := [.ref 50, .ref 69]) (by rfl) ?_
            refine zq_gfi hc hH (by rfl) (ci := 6) (f := 45) (by rfl) (by decide +kernel) (by rfl) ?_
            refine zV1 (Z := Z) (Eq.trans (ui_o (by first | decide | omega)) (Eq.trans (ui_o (by first | decide | omega)) (Eq.trans (giv_o (by first | decide | omega)) (ui_k (by first | decide | omega))))) ?_
            rw [ht]
            refine z_rcs0 hc hH 1 (pc' := 249) (lv' := [(0, .ref 50), (1, .int (nI k)), (2, .int 0)]) (st' := [.int 0, .int (nI t), .ref 69]) (by rfl) ?_
            refine zq_bast hc hH (by rfl) 4 (by decide +kernel) (vp_in_nI (by omega) (by decide)) (by decide) ?_
            rw [nI_clamp (by omega)]
            show Z 0 250 [(0, .ref 50), (1, .int (nI k)), (2, .int 0)] [] (z_ui (z_ui (z_ui (z_giv (z_ui μ 50 0 0) t k (-1)) 65 (136 * t + q) (nI k)) 66 t (nI (q + 1))) 69 t 0)
            refine z_rcs0 hc hH 2 (pc' := 252) (lv' := [(0, .ref 50), (1, .int (nI k)), (2, .int 0)]) (st' := [.int 0, .ref 50]) (by rfl) ?_
            refine zq_pfb hc hH (by rfl) (ci := 6) (f := 59) (by rfl) (by decide +kernel) (by rfl) (by decide) ?_
            show Z 0 255 [(0, .ref 50), (1, .int (nI k)), (2, .int 0)] [] (z_ui (z_ui (z_ui (z_ui (z_giv (z_ui μ 50 0 0) t k (-1)) 65 (136 * t + q) (nI k)) 66 t (nI (q + 1))) 69 t 0) 50 59 0)
            refine z_rcs0 hc hH 2 (pc' := 257) (lv' := [(0, .ref 50), (1, .int (nI k)), (2, .int 0)]) (st' := [.int 2, .ref 50]) (by rfl) ?_
            refine zq_pfi hc hH (by rfl) (ci := 6) (f := 44) (by rfl) (by decide +kernel) (by rfl) ?_
            show Z 0 260 [(0, .ref 50), (1, .int (nI k)), (2, .int 0)] [] (z_ui (z_ui (z_ui (z_ui (z_ui (z_giv (z_ui μ 50 0 0) t k (-1)) 65 (136 * t + q) (nI k)) 66 t (nI (q + 1))) 69 t 0) 50 59 0) 50 44 2)
            refine z_rcs0 hc hH 2 (pc' := 262) (lv' := [(0, .ref 50), (1, .int (nI k)), (2, .int 0)]) (st' := [.int (nI k), .ref 50]) (by rfl) ?_
            refine zq_pfi hc hH (by rfl) (ci := 6) (f := 49) (by rfl) (by decide +kernel) (by rfl) ?_
            show Z 0 265 [(0, .ref 50), (1, .int (nI k)), (2, .int 0)] [] (z_ui (z_ui (z_ui (z_ui (z_ui (z_ui (z_giv (z_ui μ 50 0 0) t k (-1)) 65 (136 * t + q) (nI k)) 66 t (nI (q + 1))) 69 t 0) 50 59 0) 50 44 2) 50 49 (nI k))
            refine z_rcs0 hc hH 2 (pc' := 267) (lv' := [(0, .ref 50), (1, .int (nI k)), (2, .int 0)]) (st' := [.int 0, .ref 50]) (by rfl) ?_
            refine zq_pfb hc hH (by rfl) (ci := 6) (f := 57) (by rfl) (by decide +kernel) (by rfl) (by decide) ?_
            show Z 0 270 [(0, .ref 50), (1, .int (nI k)), (2, .int 0)] [] (z_ui (z_ui (z_ui (z_ui (z_ui (z_ui (z_ui (z_giv (z_ui μ 50 0 0) t k (-1)) 65 (136 * t + q) (nI k)) 66 t (nI (q + 1))) 69 t 0) 50 59 0) 50 44 2) 50 49 (nI k)) 50 57 0)
            refine z_rcs0 hc hH 1 (pc' := 271) (lv' := [(0, .ref 50), (1, .int (nI k)), (2, .int 0)]) (st' := [.int 1]) (by rfl) ?_
            exact hr 0 271 _ _ _ (some (.int 1)) (by decide +kernel) (z_rx_ok hH (by rfl)) (⟨(by first | with_reducible rfl | (simp only [h1, h2, h3, h4, h5, cond_true, cond_false]; done) | rfl), (by simp only [h1, h2, h3, h4, h5, cond_true, cond_false])⟩)
          · have h5 : (decide ((nI k) = (μ.1 50 49))) = false := decide_eq_false (cn_eq.mp h5)
            refine z_rcs hc hH 1 (pc' := 82) (lv' := [(0, .ref 50), (1, .int (nI k)), (2, .int 0)]) (st' := [.int 0]) (μ' := z_ui μ 50 0 0) (by rfl) ?_
            exact hr 0 82 _ _ _ (some (.int 0)) (by decide +kernel) (z_rx_ok hH (by rfl)) (⟨(by first | with_reducible rfl | (simp only [h1, h2, h3, h4, h5, cond_true, cond_false]; done) | rfl), (by simp only [h1, h2, h3, h4, h5, cond_true, cond_false])⟩)
      · have h3 : (decide ((μ.1 50 57) = 0)) = false := decide_eq_false (cn_eq.mp h3)
        refine z_rcs hc hH 2 (pc' := 43) (lv' := [(0, .ref 50), (1, .int (nI k)), (2, .int 0)]) (st' := [.ref 50, .int (nI k)]) (μ' := z_ui μ 50 0 0) (by rfl) ?_
        refine zq_gfi hc hH (by rfl) (ci := 6) (f := 50) (by rfl) (by decide +kernel) (by rfl) ?_
        refine zV1 (Z := Z) (ui_k (by first | decide | omega)) ?_
        refine zq_ic hc hH (by rfl) (tg := 81) (by rfl) (fun h6 => ?_) (fun h6 => ?_)
        · have h6 : (decide ((nI k) = (μ.1 50 50))) = true := decide_eq_true (cm_eq9.mp h6)
          refine z_rcs hc hH 1 (pc' := 82) (lv' := [(0, .ref 50), (1, .int (nI k)), (2, .int 0)]) (st' := [.int 0]) (μ' := z_ui μ 50 0 0) (by rfl) ?_
          exact hr 0 82 _ _ _ (some (.int 0)) (by decide +kernel) (z_rx_ok hH (by rfl)) (⟨(by first | with_reducible rfl | (simp only [h1, h2, h3, h6, cond_true, cond_false]; done) | rfl), (by simp only [h1, h2, h3, h6, cond_true, cond_false])⟩)
        · have h6 : (decide ((nI k) = (μ.1 50 50))) = false := decide_eq_false (cn_eq.mp h6)
          refine z_rcs hc hH 2 (pc' := 51) (lv' := [(0, .ref 50), (1, .int (nI k)), (2, .int 0)]) (st' := [.ref 50, .int (nI k)]) (μ' := z_ui μ 50 0 0) (by rfl) ?_
          refine zq_gfi hc hH (by rfl) (ci := 6) (f := 51) (by rfl) (by decide +kernel) (by rfl) ?_
          refine zV1 (Z := Z) (ui_k (by first | decide | omega)) ?_
          refine zq_ic hc hH (by rfl) (tg := 81) (by rfl) (fun h7 => ?_) (fun h7 => ?_)
          · have h7 : (decide ((nI k) = (μ.1 50 51))) = true := decide_eq_true (cm_eq9.mp h7)
            refine z_rcs hc hH 1 (pc' := 82) (lv' := [(0, .ref 50), (1, .int (nI k)), (2, .int 0)]) (st' := [.int 0]) (μ' := z_ui μ 50 0 0) (by rfl) ?_
            exact hr 0 82 _ _ _ (some (.int 0)) (by decide +kernel) (z_rx_ok hH (by rfl)) (⟨(by first | with_reducible rfl | (simp only [h1, h2, h3, h6, h7, cond_true, cond_false]; done) | rfl), (by simp only [h1, h2, h3, h6, h7, cond_true, cond_false])⟩)
          · have h7 : (decide ((nI k) = (μ.1 50 51))) = false := decide_eq_false (cn_eq.mp h7)
            refine z_rcs hc hH 1 (pc' := 58) (lv' := [(0, .ref 50), (1, .int (nI k)), (2, .int 0)]) (st' := [.ref 50]) (μ' := z_ui μ 50 0 0) (by rfl) ?_
            refine zq_gfr hc hH (by rfl) (ci := 6) (f := 35) (q := 67) (by rfl) (by decide +kernel) (by rfl) (by decide +kernel) ?_
            refine z_rcs hc hH 1 (pc' := 62) (lv' := [(0, .ref 50), (1, .int (nI k)), (2, .int 0)]) (st' := [.ref 50, .ref 67]) (μ' := z_ui μ 50 0 0) (by rfl) ?_
            refine zq_gfi hc hH (by rfl) (ci := 6) (f := 45) (by rfl) (by decide +kernel) (by rfl) ?_
            refine zV1 (Z := Z) (ui_k (by first | decide | omega)) ?_
            rw [ht]
            refine zq_iald hc hH (by rfl) 4 (oka_i (by decide +kernel)) (vp_in_nI (by omega) (by decide)) ?_
            rw [nI_clamp (by omega)]
            refine zV1 (Z := Z) (ui_o (by first | decide | omega)) ?_
            refine zq_if hc hH (by rfl) (tg := 83) (by rfl) (fun h8 => ?_) (fun h8 => ?_)
            · have h8 : (decide ((μ.1 67 t) ≤ 0)) = true := decide_eq_true (cm_le.mp h8)
              refine z_rcs hc hH 4 (pc' := 195) (lv' := [(0, .ref 50), (1, .int (nI k)), (2, .int 0)]) (st' := [.ref 50, .ref 50]) (μ' := z_ui μ 50 0 0) (by rfl) ?_
              refine zq_gfi hc hH (by rfl) (ci := 6) (f := 45) (by rfl) (by decide +kernel) (by rfl) ?_
              refine zV1 (Z := Z) (ui_k (by first | decide | omega)) ?_
              rw [ht]
              refine z_rcs hc hH 2 (pc' := 200) (lv' := [(0, .ref 50), (1, .int (nI k)), (2, .int 0)]) (st' := [.int (-1), .int (nI k), .int (nI t), .ref 50]) (μ' := z_ui μ 50 0 0) (by rfl) ?_
              refine zq_call hc (z_cx_ok hH (by rfl)) (fc_X7_gives d' (by omega) (z_ui μ 50 0 0) t k (-1) ht4 hk) (by decide +kernel) (fun r9 μ9 hq => ?_)
              obtain ⟨rfl, rfl⟩ := hq
              show Z 0 203 [(0, .ref 50), (1, .int (nI k)), (2, .int 0)] [] (z_giv (z_ui μ 50 0 0) t k (-1))
              refine z_rcs0 hc hH 1 (pc' := 204) (lv' := [(0, .ref 50), (1, .int (nI k)), (2, .int 0)]) (st' := [.ref 50]) (by rfl) ?_
              refine zq_gfr hc hH (by rfl) (ci := 6) (f := 33) (q := 65) (by rfl) (by decide +kernel) (by rfl) (by decide +kernel) ?_
              refine z_rcs0 hc hH 2 (pc' := 211) (lv' := [(0, .ref 50), (1, .int (nI k)), (2, .int 0)]) (st' := [.ref 50, .int 136, .ref 65]) (by rfl) ?_
              refine zq_gfi hc hH (by rfl) (ci := 6) (f := 45) (by rfl) (by decide +kernel) (by rfl) ?_
              refine zV1 (Z := Z) (Eq.trans (giv_o (by first | decide | omega)) (ui_k (by first | decide | omega))) ?_
              rw [ht]
              refine z_rcs0 hc hH 2 (pc' := 216) (lv' := [(0, .ref 50), (1, .int (nI k)), (2, .int 0)]) (st' := [.ref 50, .int (136 * (nI t)), .ref 65]) (by rfl) ?_
              refine zq_gfr hc hH (by rfl) (ci := 6) (f := 34) (q := 66) (by rfl) (by decide +kernel) (by rfl) (by decide +kernel) ?_
              refine z_rcs0 hc hH 1 (pc' := 220) (lv' := [(0, .ref 50), (1, .int (nI k)), (2, .int 0)]) (st' := [.ref 50, .ref 66, .int (136 * (nI t)), .ref 65]) (by rfl) ?_
              refine zq_gfi hc hH (by rfl) (ci := 6) (f := 45) (by rfl) (by decide +kernel) (by rfl) ?_
              refine zV1 (Z := Z) (Eq.trans (giv_o (by first | decide | omega)) (ui_k (by first | decide | omega))) ?_
              rw [ht]
              refine zq_iald hc hH (by rfl) 4 (oka_i (by decide +kernel)) (vp_in_nI (by omega) (by decide)) ?_
              rw [nI_clamp (by omega)]
              refine zV1 (Z := Z) (Eq.trans (giv_o (by first | decide | omega)) (ui_o (by first | decide | omega))) ?_
              rw [e66]
              refine z_rcs0 hc hH 1 (pc' := 225) (lv' := [(0, .ref 50), (1, .int (nI k)), (2, .int 0)]) (st' := [.int ((136 * (nI t)) + (nI q)), .ref 65]) (by rfl) ?_
              rw [nI_136]
              refine z_rcs0 hc hH 1 (pc' := 226) (lv' := [(0, .ref 50), (1, .int (nI k)), (2, .int 0)]) (st' := [.int (nI k), .int (nI (136 * t + q)), .ref 65]) (by rfl) ?_
              refine zq_iast hc hH (by rfl) 544 (oka_i (by decide +kernel)).2 (vp_in_nI (by omega) (by decide)) ?_
              rw [nI_clamp (by omega)]
              show Z 0 227 [(0, .ref 50), (1, .int (nI k)), (2, .int 0)] [] (z_ui (z_giv (z_ui μ 50 0 0) t k (-1)) 65 (136 * t + q) (nI k))
              refine z_rcs0 hc hH 1 (pc' := 228) (lv' := [(0, .ref 50), (1, .int (nI k)), (2, .int 0)]) (st' := [.ref 50]) (by rfl) ?_
              refine zq_gfr hc hH (by rfl) (ci := 6) (f := 34) (q := 66) (by rfl) (by decide +kernel) (by rfl) (by decide +kernel) ?_
              refine z_rcs0 hc hH 1 (pc' := 232) (lv' := [(0, .ref 50), (1, .int (nI k)), (2, .int 0)]) (st' := [.ref 50, .ref 66]) (by rfl) ?_
              refine zq_gfi hc hH (by rfl) (ci := 6) (f := 45) (by rfl) (by decide +kernel) (by rfl) ?_
              refine zV1 (Z := Z) (Eq.trans (ui_o (by first | decide | omega)) (Eq.trans (giv_o (by first | decide | omega)) (ui_k (by first | decide | omega)))) ?_
              rw [ht]
              refine z_rcs0 hc hH 1 (pc' := 236) (lv' := [(0, .ref 50), (1, .int (nI k)), (2, .int 0)]) (st' := [.int (nI t), .ref 66, .int (nI t), .ref 66]) (by rfl) ?_
              refine zq_iald hc hH (by rfl) 4 (oka_i (by decide +kernel)) (vp_in_nI (by omega) (by decide)) ?_
              rw [nI_clamp (by omega)]
              refine zV1 (Z := Z) (Eq.trans (ui_o (by first | decide | omega)) (Eq.trans (giv_o (by first | decide | omega)) (ui_o (by first | decide | omega)))) ?_
              rw [e66]
              refine z_rcs0 hc hH 2 (pc' := 239) (lv' := [(0, .ref 50), (1, .int (nI k)), (2, .int 0)]) (st' := [.int ((nI q) + 1), .int (nI t), .ref 66]) (by rfl) ?_
              rw [nI_s1]
              refine zq_iast hc hH (by rfl) 4 (oka_i (by decide +kernel)).2 (vp_in_nI (by omega) (by decide)) ?_
              rw [nI_clamp (by omega)]
              show Z 0 240 [(0, .ref 50), (1, .int (nI k)), (2, .int 0)] [] (z_ui (z_ui (z_giv (z_ui μ 50 0 0) t k (-1)) 65 (136 * t + q) (nI k)) 66 t (nI (q + 1)))
              refine z_rcs0 hc hH 1 (pc' := 241) (lv' := [(0, .ref 50), (1, .int (nI k)), (2, .int 0)]) (st' := [.ref 50]) (by rfl) ?_
              refine zq_gfr hc hH (by rfl) (ci := 6) (f := 37) (q := 69) (by rfl) (by decide +kernel) (by rfl) (by decide +kernel) ?_
              refine z_rcs0 hc hH 1 (pc' := 245) (lv' := [(0, .ref 50), (1, .int (nI k)), (2, .int 0)]) (st' := [.ref 50, .ref 69]) (by rfl) ?_
              refine zq_gfi hc hH (by rfl) (ci := 6) (f := 45) (by rfl) (by decide +kernel) (by rfl) ?_
              refine zV1 (Z := Z) (Eq.trans (ui_o (by first | decide | omega)) (Eq.trans (ui_o (by first | decide | omega)) (Eq.trans (giv_o (by first | decide | omega)) (ui_k (by first | decide | omega))))) ?_
              rw [ht]
              refine z_rcs0 hc hH 1 (pc' := 249) (lv' := [(0, .ref 50), (1, .int (nI k)), (2, .int 0)]) (st' := [.int 0, .int (nI t), .ref 69]) (by rfl) ?_
              refine zq_bast hc hH (by rfl) 4 (by decide +kernel) (vp_in_nI (by omega) (by decide)) (by decide) ?_
              rw [nI_clamp (by omega)]
              show Z 0 250 [(0, .ref 50), (1, .int (nI k)), (2, .int 0)] [] (z_ui (z_ui (z_ui (z_giv (z_ui μ 50 0 0) t k (-1)) 65 (136 * t + q) (nI k)) 66 t (nI (q + 1))) 69 t 0)
              refine z_rcs0 hc hH 2 (pc' := 252) (lv' := [(0, .ref 50), (1, .int (nI k)), (2, .int 0)]) (st' := [.int 0, .ref 50]) (by rfl) ?_
              refine zq_pfb hc hH (by rfl) (ci := 6) (f := 59) (by rfl) (by decide +kernel) (by rfl) (by decide) ?_
              show Z 0 255 [(0, .ref 50), (1, .int (nI k)), (2, .int 0)] [] (z_ui (z_ui (z_ui (z_ui (z_giv (z_ui μ 50 0 0) t k (-1)) 65 (136 * t + q) (nI k)) 66 t (nI (q + 1))) 69 t 0) 50 59 0)
              refine z_rcs0 hc hH 2 (pc' := 257) (lv' := [(0, .ref 50), (1, .int (nI k)), (2, .int 0)]) (st' := [.int 2, .ref 50]) (by rfl) ?_
              refine zq_pfi hc hH (by rfl) (ci := 6) (f := 44) (by rfl) (by decide +kernel) (by rfl) ?_
              show Z 0 260 [(0, .ref 50), (1, .int (nI k)), (2, .int 0)] [] (z_ui (z_ui (z_ui (z_ui (z_ui (z_giv (z_ui μ 50 0 0) t k (-1)) 65 (136 * t + q) (nI k)) 66 t (nI (q + 1))) 69 t 0) 50 59 0) 50 44 2)
              refine z_rcs0 hc hH 2 (pc' := 262) (lv' := [(0, .ref 50), (1, .int (nI k)), (2, .int 0)]) (st' := [.int (nI k), .ref 50]) (by rfl) ?_
              refine zq_pfi hc hH (by rfl) (ci := 6) (f := 49) (by rfl) (by decide +kernel) (by rfl) ?_
              show Z 0 265 [(0, .ref 50), (1, .int (nI k)), (2, .int 0)] [] (z_ui (z_ui (z_ui (z_ui (z_ui (z_ui (z_giv (z_ui μ 50 0 0) t k (-1)) 65 (136 * t + q) (nI k)) 66 t (nI (q + 1))) 69 t 0) 50 59 0) 50 44 2) 50 49 (nI k))
              refine z_rcs0 hc hH 2 (pc' := 267) (lv' := [(0, .ref 50), (1, .int (nI k)), (2, .int 0)]) (st' := [.int 0, .ref 50]) (by rfl) ?_
              refine zq_pfb hc hH (by rfl) (ci := 6) (f := 57) (by rfl) (by decide +kernel) (by rfl) (by decide) ?_
              show Z 0 270 [(0, .ref 50), (1, .int (nI k)), (2, .int 0)] [] (z_ui (z_ui (z_ui (z_ui (z_ui (z_ui (z_ui (z_giv (z_ui μ 50 0 0) t k (-1)) 65 (136 * t + q) (nI k)) 66 t (nI (q + 1))) 69 t 0) 50 59 0) 50 44 2) 50 49 (nI k)) 50 57 0)
              refine z_rcs0 hc hH 1 (pc' := 271) (lv' := [(0, .ref 50), (1, .int (nI k)), (2, .int 0)]) (st' := [.int 1]) (by rfl) ?_
              exact hr 0 271 _ _ _ (some (.int 1)) (by decide +kernel) (z_rx_ok hH (by rfl)) (⟨(by first | with_reducible rfl | (simp only [h1, h2, h3, h6, h7, h8, cond_true, cond_false]; done) | rfl), (by simp only [h1, h2, h3, h6, h7, h8, cond_true, cond_false])⟩)
            · have h8 : (decide ((μ.1 67 t) ≤ 0)) = false := decide_eq_false (cn_le.mp h8)
              refine z_rcs hc hH 4 (pc' := 75) (lv' := [(0, .ref 50), (1, .int (nI k)), (2, .int 0)]) (st' := [.ref 50, .int (nI k)]) (μ' := z_ui μ 50 0 0) (by rfl) ?_
              refine zq_gfi hc hH (by rfl) (ci := 6) (f := 49) (by rfl) (by decide +kernel) (by rfl) ?_
              refine zV1 (Z := Z) (ui_k (by first | decide | omega)) ?_
              refine zq_ic hc hH (by rfl) (tg := 83) (by rfl) (fun h9 => ?_) (fun h9 => ?_)
              · have h9 : (decide ((nI k) = (μ.1 50 49))) = true := decide_eq_true (cm_eq9.mp h9)
                refine z_rcs hc hH 4 (pc' := 195) (lv' := [(0, .ref 50), (1, .int (nI k)), (2, .int 0)]) (st' := [.ref 50, .ref 50]) (μ' := z_ui μ 50 0 0) (by rfl) ?_
                refine zq_gfi hc hH (by rfl) (ci := 6) (f := 45) (by rfl) (by decide +kernel) (by rfl) ?_
                refine zV1 (Z := Z) (ui_k (by first | decide | omega)) ?_
                rw [ht]
                refine z_rcs hc hH 2 (pc' := 200) (lv' := [(0, .ref 50), (1, .int (nI k)), (2, .int 0)]) (st' := [.int (-1), .int (nI k), .int (nI t), .ref 50]) (μ' := z_ui μ 50 0 0) (by rfl) ?_
                refine zq_call hc (z_cx_ok hH (by rfl)) (fc_X7_gives d' (by omega) (z_ui μ 50 0 0) t k (-1) ht4 hk) (by decide +kernel) (fun r9 μ9 hq => ?_)
                obtain ⟨rfl, rfl⟩ := hq
                show Z 0 203 [(0, .ref 50), (1, .int (nI k)), (2, .int 0)] [] (z_giv (z_ui μ 50 0 0) t k (-1))
                refine z_rcs0 hc hH 1 (pc' := 204) (lv' := [(0, .ref 50), (1, .int (nI k)), (2, .int 0)]) (st' := [.ref 50]) (by rfl) ?_
                refine zq_gfr hc hH (by rfl) (ci := 6) (f := 33) (q := 65) (by rfl) (by decide +kernel) (by rfl) (by decide +kernel) ?_
                refine z_rcs0 hc hH 2 (pc' := 211) (lv' := [(0, .ref 50), (1, .int (nI k)), (2, .int 0)]) (st' := [.ref 50, .int 136, .ref 65]) (by rfl) ?_
                refine zq_gfi hc hH (by rfl) (ci := 6) (f := 45) (by rfl) (by decide +kernel) (by rfl) ?_
                refine zV1 (Z := Z) (Eq.trans (giv_o (by first | decide | omega)) (ui_k (by first | decide | omega))) ?_
                rw [ht]
                refine z_rcs0 hc hH 2 (pc' := 216) (lv' := [(0, .ref 50), (1, .int (nI k)), (2, .int 0)]) (st' := [.ref 50, .int (136 * (nI t)), .ref 65]) (by rfl) ?_
                refine zq_gfr hc hH (by rfl) (ci := 6) (f := 34) (q := 66) (by rfl) (by decide +kernel) (by rfl) (by decide +kernel) ?_
                refine z_rcs0 hc hH 1 (pc' := 220) (lv' := [(0, .ref 50), (1, .int (nI k)), (2, .int 0)]) (st' := [.ref 50, .ref 66, .int (136 * (nI t)), .ref 65]) (by rfl) ?_
                refine zq_gfi hc hH (by rfl) (ci := 6) (f := 45) (by rfl) (by decide +kernel) (by rfl) ?_
                refine zV1 (Z := Z) (Eq.trans (giv_o (by first | decide | omega)) (ui_k (by first | decide | omega))) ?_
                rw [ht]
                refine zq_iald hc hH (by rfl) 4 (oka_i (by decide +kernel)) (vp_in_nI (by omega) (by decide)) ?_
                rw [nI_clamp (by omega)]
                refine zV1 (Z := Z) (Eq.trans (giv_o (by first | decide | omega)) (ui_o (by first | decide | omega))) ?_
                rw [e66]
                refine z_rcs0 hc hH 1 (pc' := 225) (lv' := [(0, .ref 50), (1, .int (nI k)), (2, .int 0)]) (st' := [.int ((136 * (nI t)) + (nI q)), .ref 65]) (by rfl) ?_
                rw [nI_136]
                refine z_rcs0 hc hH 1 (pc' := 226) (lv' := [(0, .ref 50), (1, .int (nI k)), (2, .int 0)]) (st' := [.int (nI k), .int (nI (136 * t + q)), .ref 65]) (by rfl) ?_
                refine zq_iast hc hH (by rfl) 544 (oka_i (by decide +kernel)).2 (vp_in_nI (by omega) (by decide)) ?_
                rw [nI_clamp (by omega)]
                show Z 0 227 [(0, .ref 50), (1, .int (nI k)), (2, .int 0)] [] (z_ui (z_giv (z_ui μ 50 0 0) t k (-1)) 65 (136 * t + q) (nI k))
                refine z_rcs0 hc hH 1 (pc' := 228) (lv' := [(0, .ref 50), (1, .int (nI k)), (2, .int 0)]) (st' := [.ref 50]) (by rfl) ?_
                refine zq_gfr hc hH (by rfl) (ci := 6) (f := 34) (q := 66) (by rfl) (by decide +kernel) (by rfl) (by decide +kernel) ?_
                refine z_rcs0 hc hH 1 (pc' := 232) (lv' := [(0, .ref 50), (1, .int (nI k)), (2, .int 0)]) (st' := [.ref 50, .ref 66]) (by rfl) ?_
                refine zq_gfi hc hH (by rfl) (ci := 6) (f := 45) (by rfl) (by decide +kernel) (by rfl) ?_
                refine zV1 (Z := Z) (Eq.trans (ui_o (by first | decide | omega)) (Eq.trans (giv_o (by first | decide | omega)) (ui_k (by first | decide | omega)))) ?_
                rw [ht]
                refine z_rcs0 hc hH 1 (pc' := 236) (lv' := [(0, .ref 50), (1, .int (nI k)), (2, .int 0)]) (st' := [.int (nI t), .ref 66, .int (nI t), .ref 66]) (by rfl) ?_
                refine zq_iald hc hH (by rfl) 4 (oka_i (by decide +kernel)) (vp_in_nI (by omega) (by decide)) ?_
                rw [nI_clamp (by omega)]
                refine zV1 (Z := Z) (Eq.trans (ui_o (by first | decide | omega)) (Eq.trans (giv_o (by first | decide | omega)) (ui_o (by first | decide | omega)))) ?_
                rw [e66]
                refine z_rcs0 hc hH 2 (pc' := 239) (lv' := [(0, .ref 50), (1, .int (nI k)), (2, .int 0)]) (st' := [.int ((nI q) + 1), .int (nI t), .ref 66]) (by rfl) ?_
                rw [nI_s1]
                refine zq_iast hc hH (by rfl) 4 (oka_i (by decide +kernel)).2 (vp_in_nI (by omega) (by decide)) ?_
                rw [nI_clamp (by omega)]
                show Z 0 240 [(0, .ref 50), (1, .int (nI k)), (2, .int 0)] [] (z_ui (z_ui (z_giv (z_ui μ 50 0 0) t k (-1)) 65 (136 * t + q) (nI k)) 66 t (nI (q + 1)))
                refine z_rcs0 hc hH 1 (pc' := 241) (lv' := [(0, .ref 50), (1, .int (nI k)), (2, .int 0)]) (st' := [.ref 50]) (by rfl) ?_
                refine zq_gfr hc hH (by rfl) (ci := 6) (f := 37) (q := 69) (by rfl) (by decide +kernel) (by rfl) (by decide +kernel) ?_
                refine z_rcs0 hc hH 1 (pc' := 245) (lv' := [(0, .ref 50), (1, .int (nI k)), (2, .int 0)]) (st' := [.ref 50, .ref 69]) (by rfl) ?_
                refine zq_gfi hc hH (by rfl) (ci := 6) (f := 45) (by rfl) (by decide +kernel) (by rfl) ?_
                refine zV1 (Z := Z) (Eq.trans (ui_o (by first | decide | omega)) (Eq.trans (ui_o (by first | decide | omega)) (Eq.trans (giv_o (by first | decide | omega)) (ui_k (by first | decide | omega))))) ?_
                rw [ht]
                refine z_rcs0 hc hH 1 (pc' := 249) (lv' := [(0, .ref 50), (1, .int (nI k)), (2, .int 0)]) (st' := [.int 0, .int (nI t), .ref 69]) (by rfl) ?_
                refine zq_bast hc hH (by rfl) 4 (by decide +kernel) (vp_in_nI (by omega) (by decide)) (by decide) ?_
                rw [nI_clamp (by omega)]
                show Z 0 250 [(0, .ref 50), (1, .int (nI k)), (2, .int 0)] [] (z_ui (z_ui (z_ui (z_giv (z_ui μ 50 0 0) t k (-1)) 65 (136 * t + q) (nI k)) 66 t (nI (q + 1))) 69 t 0)
                refine z_rcs0 hc hH 2 (pc' := 252) (lv' := [(0, .ref 50), (1, .int (nI k)), (2, .int 0)]) (st' := [.int 0, .ref 50]) (by rfl) ?_
                refine zq_pfb hc hH (by rfl) (ci := 6) (f := 59) (by rfl) (by decide +kernel) (by rfl) (by decide) ?_
                show Z 0 255 [(0, .ref 50), (1, .int (nI k)), (2, .int 0)] [] (z_ui (z_ui (z_ui (z_ui (z_giv (z_ui μ 50 0 0) t k (-1)) 65 (136 * t + q) (nI k)) 66 t (nI (q + 1))) 69 t 0) 50 59 0)
                refine z_rcs0 hc hH 2 (pc' := 257) (lv' := [(0, .ref 50), (1, .int (nI k)), (2, .int 0)]) (st' := [.int 2, .ref 50]) (by rfl) ?_
                refine zq_pfi hc hH (by rfl) (ci := 6) (f := 44) (by rfl) (by decide +kernel) (by rfl) ?_
                show Z 0 260 [(0, .ref 50), (1, .int (nI k)), (2, .int 0)] [] (z_ui (z_ui (z_ui (z_ui (z_ui (z_giv (z_ui μ 50 0 0) t k (-1)) 65 (136 * t + q) (nI k)) 66 t (nI (q + 1))) 69 t 0) 50 59 0) 50 44 2)
                refine z_rcs0 hc hH 2 (pc' := 262) (lv' := [(0, .ref 50), (1, .int (nI k)), (2, .int 0)]) (st' := [.int (nI k), .ref 50]) (by rfl) ?_
                refine zq_pfi hc hH (by rfl) (ci := 6) (f := 49) (by rfl) (by decide +kernel) (by rfl) ?_
                show Z 0 265 [(0, .ref 50), (1, .int (nI k)), (2, .int 0)] [] (z_ui (z_ui (z_ui (z_ui (z_ui (z_ui (z_giv (z_ui μ 50 0 0) t k (-1)) 65 (136 * t + q) (nI k)) 66 t (nI (q + 1))) 69 t 0) 50 59 0) 50 44 2) 50 49 (nI k))
                refine z_rcs0 hc hH 2 (pc' := 267) (lv' := [(0, .ref 50), (1, .int (nI k)), (2, .int 0)]) (st' := [.int 0, .ref 50]) (by rfl) ?_
                refine zq_pfb hc hH (by rfl) (ci := 6) (f := 57) (by rfl) (by decide +kernel) (by rfl) (by decide) ?_
                show Z 0 270 [(0, .ref 50), (1, .int (nI k)), (2, .int 0)] [] (z_ui (z_ui (z_ui (z_ui (z_ui (z_ui (z_ui (z_giv (z_ui μ 50 0 0) t k (-1)) 65 (136 * t + q) (nI k)) 66 t (nI (q + 1))) 69 t 0) 50 59 0) 50 44 2) 50 49 (nI k)) 50 57 0)
                refine z_rcs0 hc hH 1 (pc' := 271) (lv' := [(0, .ref 50), (1, .int (nI k)), (2, .int 0)]) (st' := [.int 1]) (by rfl) ?_
                exact hr 0 271 _ _ _ (some (.int 1)) (by decide +kernel) (z_rx_ok hH (by rfl)) (⟨(by first | with_reducible rfl | (simp only [h1, h2, h3, h6, h7, h8, h9, cond_true, cond_false]; done) | rfl), (by simp only [h1, h2, h3, h6, h7, h8, h9, cond_true, cond_false])⟩)
              · have h9 : (decide ((nI k) = (μ.1 50 49))) = false := decide_eq_false (cn_eq.mp h9)
                refine z_rcs hc hH 1 (pc' := 82) (lv' := [(0, .ref 50), (1, .int (nI k)), (2, .int 0)]) (st' := [.int 0]) (μ' := z_ui μ 50 0 0) (by rfl) ?_
                exact hr 0 82 _ _ _ (some (.int 0)) (by decide +kernel) (z_rx_ok hH (by rfl)) (⟨(by first | with_reducible rfl | (simp only [h1, h2, h3, h6, h7, h8, h9, cond_true, cond_false]; done) | rfl), (by simp only [h1, h2, h3, h6, h7, h8, h9, cond_true, cond_false])⟩)
    · have h2 : (decide ((μ.1 60 (34 * t + k)) = 0)) = true := decide_eq_true (cn_ne.mp h2)
      refine z_rcs hc hH 1 (pc' := 33) (lv' := [(0, .ref 50), (1, .int (nI k)), (2, .int 0)]) (st' := [.int 0]) (μ' := z_ui μ 50 0 0) (by rfl) ?_
      exact hr 0 33 _ _ _ (some (.int 0)) (by decide +kernel) (z_rx_ok hH (by rfl)) (⟨(by first | with_reducible rfl | (simp only [h1, h2, cond_true, cond_false]; done) | rfl), (by simp only [h1, h2, cond_true, cond_false])⟩)
/-! two contracts of one call hold together: the small machine knows one road -/
noncomputable def zWn (d j : Nat) (Q : zQ) : zK := fun b pc lv st μ => ∀ Z : zK, z_clo z_x0 j (z_C d) Z → z_ret j Q Z → Z b pc lv st μ
theorem zWn_clo (d j : Nat) (Q : zQ) : z_clo z_x0 j (z_C d) (zWn d j Q) :=
  ⟨fun b pc lv st μ ins pc' lv' st' μ' h1 h2 h3 Z hc hr => hc.1 b pc lv st μ ins pc' lv' st' μ' h1 h2 (h3 Z hc hr), fun b pc lv st μ j' As rest h1 h2 h3 Z hc hr => hc.2 b pc lv st μ j' As rest h1 h2 (z_C_mono h3 (fun r μ' q => q Z hc hr))⟩
theorem zWn_ret (d j : Nat) (Q : zQ) : z_ret j Q (zWn d j Q) := fun b pc lv st μ v hb hv hQ Z hc hr => hr b pc lv st μ v hb hv hQ
noncomputable def zFx (d j : Nat) (Q : zQ) (Z : zK) : zK := fun b pc lv st μ =>
  (∃ ins pc' lv' st' μ', z_ft j pc = some ins ∧ z_step z_x0 (z_np j) (z_oc j) (z_ml j) ins (pc, lv, st, μ) = some (pc', lv', st', μ') ∧ Z b pc' lv' st' μ') ∨
  (∃ j' As rest, z_cl j pc st = some (j', As, rest) ∧ b + z_al j' ≤ z_al j ∧ z_C d j' As μ (fun r μ' => Z (b + z_al j') (pc + 3) lv (r.toList ++ rest) μ')) ∨
  (∃ v, b ≤ z_al j ∧ z_rn j pc st = some v ∧ Q v μ)
theorem zWn_fold {d j : Nat} {Q : zQ} {b pc : Nat} {lv : zL} {st : List Value} {μ : zM} (h : zFx d j Q (zWn d j Q) b pc lv st μ) : zWn d j Q b pc lv st μ := by
  rcases h with ⟨ins, pc', lv', st', μ', h1, h2, h3⟩ | ⟨j', As, rest, h1, h2, h3⟩ | ⟨v, h1, h2, h3⟩
  · exact (zWn_clo d j Q).1 b pc lv st μ ins pc' lv' st' μ' h1 h2 h3
  · exact (zWn_clo d j Q).2 b pc lv st μ j' As rest h1 h2 h3
  · exact zWn_ret d j Q b pc lv st μ v h1 h2 h3
theorem zWn_inv {d j : Nat} {Q : zQ} {b pc : Nat} {lv : zL} {st : List Value} {μ : zM} (h : zWn d j Q b pc lv st μ) : zFx d j Q (zWn d j Q) b pc lv st μ :=
  h (zFx d j Q (zWn d j Q)) ⟨fun _ _ _ _ _ ins pc' lv' st' μ' h1 h2 h3 => Or.inl ⟨ins, pc', lv', st', μ', h1, h2, zWn_fold h3⟩, fun _ _ _ _ _ j' As rest h1 h2 h3 => Or.inr (Or.inl ⟨j', As, rest, h1, h2, z_C_mono h3 (fun _ _ q => zWn_fold q)⟩)⟩ (fun _ _ _ _ _ v h1 h2 h3 => Or.inr (Or.inr ⟨v, h1, h2, h3⟩))
theorem lk_mem {α : Type} {l : List (Nat × α)} {i : Nat} {x : α} (h : z_lk l i = some x) : (i, x) ∈ l := by
  induction l with
  | nil => cases h
  | cons a l ih =>
    obtain ⟨k, y⟩ := a
    unfold z_lk at h
    cases e : Nat.beq k i with
    | true =>
      rw [e] at h
      have e2 := Nat.eq_of_beq_eq_true e
      cases h
      rw [e2]
      exact List.mem_cons_self
    | false =>
      rw [e] at h
      exact List.mem_cons_of_mem _ (ih h)
theorem mths_ok : (List.range 12).all (fun oc => (z_mths.getD oc []).all (fun q => (z_lk (z_cals.getD oc []) q.1).isNone)) = true := by decide +kernel
theorem mths_len : z_mths.length ≤ 12 := by decide +kernel
theorem mths_cals {oc idx x : Nat} (h : z_lk (z_mths.getD oc []) idx = some x) : z_lk (z_cals.getD oc []) idx = none := by
  have hm := lk_mem h
  have ho : oc < 12 := by
    rcases Nat.lt_or_ge oc 12 with q | q
    · exact q
    · rw [show z_mths.getD oc [] = [] from by rw [List.getD_eq_getElem?_getD, List.getElem?_eq_none (Nat.le_trans mths_len q)]; rfl] at hm
      cases hm
  have := List.all_eq_true.mp (List.all_eq_true.mp mths_ok oc (List.mem_range.mpr ho)) _ hm
  exact Option.isNone_iff_eq_none.mp this
theorem ex_st {xs : Nat × (Nat → Int32)} {np nL j pc idx : Nat} {lv : zL} {st : List Value} {μ : zM} {x : zS} (h : z_ft j pc = some (.invokestatic idx)) (h2 : z_step xs np (z_oc j) nL (.invokestatic idx) (pc, lv, st, μ) = some x) : z_cl j pc st = none := by
  unfold z_cl
  rw [h]
  cases e : z_lk (z_cals.getD (z_oc j) []) idx with
  | none => simp only [e]
  | some y =>
    exfalso
    cases e2 : z_lk (z_mths.getD (z_oc j) []) idx with
    | some z => rw [mths_cals e2] at e; cases e
    | none =>
      have h3 : (match z_hp xs np (z_oc j) (.invokestatic idx) st μ with | some (st', μ') => some (pc + z_len (.invokestatic idx), lv, st', μ') | none => none) = some x := h2
      have h4 : z_hp xs np (z_oc j) (.invokestatic idx) st μ = none := by
        unfold z_hp
        split <;> first | rfl | (rename_i hh; cases hh) | skip
        all_goals (first | (simp only [e2]; generalize Nat.ble _ 8 = bb; cases bb <;> rfl) | (rename_i hh; injection hh with hh; subst hh; simp only [e2]; generalize Nat.ble _ 8 = bb; cases bb <;> rfl) | skip)
      rw [h4] at h3
      cases h3
theorem ex_sc {xs : Nat × (Nat → Int32)} {np nL j pc : Nat} {ins : Instr} {lv : zL} {st : List Value} {μ : zM} {x : zS} (h : z_ft j pc = some ins) (h2 : z_step xs np (z_oc j) nL ins (pc, lv, st, μ) = some x) : z_cl j pc st = none ∧ z_rn j pc st = none := by
  cases ins <;> first
    | (exact ⟨ex_st h h2, by unfold z_rn; rw [h]⟩)
    | (unfold z_cl z_rn; rw [h]; exact ⟨rfl, rfl⟩)
    | (exfalso; exact nomatch (show none = some x from h2))
theorem ex_cr {j pc : Nat} {st : List Value} {x : Nat × List Value × List Value} (h2 : z_cl j pc st = some x) : z_rn j pc st = none := by
  unfold z_rn
  unfold z_cl at h2
  cases e : z_ft j pc with
  | none => rfl
  | some ins =>
    rw [e] at h2
    cases ins <;> first | rfl | (exfalso; exact nomatch (show none = some x from h2))
theorem zC_and : ∀ (d : Nat) {j : Nat} {As : List Value} {μ : zM} {Q1 Q2 : zQ}, z_C d j As μ Q1 → z_C d j As μ Q2 → z_C d j As μ (fun r m => Q1 r m ∧ Q2 r m) := by
  intro d
  induction d with
  | zero => intro j As μ Q1 Q2 h1 h2; exact h1
  | succ d ih =>
    intro j As μ Q1 Q2 h1 h2
    have hs : z_clo z_x0 j (z_C d) (fun b pc lv st μ => zWn d j Q2 b pc lv st μ → zWn d j (fun r m => Q1 r m ∧ Q2 r m) b pc lv st μ) := by
      refine ⟨fun b pc lv st μ ins pc' lv' st' μ' k1 k2 k3 w => ?_, fun b pc lv st μ j' As rest k1 k2 k3 w => ?_⟩
      · obtain ⟨x1, x2⟩ := ex_sc k1 k2
        rcases zWn_inv w with ⟨i2, p2, l2, s2, m2, q1, q2, q3⟩ | ⟨j2, A2, r2, q1, q2, q3⟩ | ⟨v, q1, q2, q3⟩
        · rw [k1] at q1
          cases q1
          rw [k2] at q2
          cases q2
          exact zWn_fold (Or.inl ⟨ins, pc', lv', st', μ', k1, k2, k3 q3⟩)
        · rw [x1] at q1; cases q1
        · rw [x2] at q2; cases q2
      · rcases zWn_inv w with ⟨i2, p2, l2, s2, m2, q1, q2, q3⟩ | ⟨j2, A2, r2, q1, q2, q3⟩ | ⟨v, q1, q2, q3⟩
        · obtain ⟨x1, x2⟩ := ex_sc q1 q2
          rw [x1] at k1; cases k1
        · rw [k1] at q1
          cases q1
          exact zWn_fold (Or.inr (Or.inl ⟨j', As, rest, k1, k2, z_C_mono (ih k3 q3) (fun r μ' q => q.1 q.2)⟩))
        · rw [ex_cr k1] at q2; cases q2
    have hr : z_ret j Q1 (fun b pc lv st μ => zWn d j Q2 b pc lv st μ → zWn d j (fun r m => Q1 r m ∧ Q2 r m) b pc lv st μ) := by
      intro b pc lv st μ v k1 k2 k3 w
      rcases zWn_inv w with ⟨i2, p2, l2, s2, m2, q1, q2, q3⟩ | ⟨j2, A2, r2, q1, q2, q3⟩ | ⟨v2, q1, q2, q3⟩
      · rw [(ex_sc q1 q2).2] at k2; cases k2
      · rw [ex_cr q1] at k2; cases k2
      · rw [k2] at q2
        cases q2
        exact zWn_fold (Or.inr (Or.inr ⟨v, k1, k2, k3, q3⟩))
    have a1 := h1 _ hs hr
    have a2 := h2 _ (zWn_clo d j Q2) (zWn_ret d j Q2)
    intro Z hc hz
    unfold z_go at a1 a2 ⊢
    cases e : Nat.beq j mi_X7_nobodyWins with
    | true =>
      rw [e] at a1 a2
      exact ⟨a1.1, a1.2 a2.2 Z hc hz⟩
    | false =>
      rw [e] at a1 a2
      exact a1 a2 Z hc hz
/-! what every step keeps, a contract's answer has too; full is told where there is a base -/
set_option maxRecDepth 8000
theorem zC_J (J : Nat → Nat → List Value → zM → Prop) (R : Nat → zM → Prop)
    (hs : ∀ j pc ins lv st μ pc' lv' st' μ', z_ft j pc = some ins → z_step z_x0 (z_np j) (z_oc j) (z_ml j) ins (pc, lv, st, μ) = some (pc', lv', st', μ') → J j pc st μ → J j pc' st' μ')
    (hn : ∀ μ, ¬ J mi_X7_nobodyWins 0 [] μ)
    (hr : ∀ j pc st μ v, z_rn j pc st = some v → J j pc st μ → R j μ)
    (hcall : ∀ d, (∀ (j : Nat) (As : List Value) (μ : zM) (Q : zQ), J j 0 [] μ → z_C d j As μ Q → z_C d j As μ (fun r m => Q r m ∧ R j m)) → ∀ j pc st j' As rest μ (Q' : zQ), z_cl j pc st = some (j', As, rest) → J j pc st μ → z_C d j' As μ Q' → z_C d j' As μ (fun r m => Q' r m ∧ J j (pc + 3) (r.toList ++ rest) m)) :
    ∀ (d : Nat) (j : Nat) (As : List Value) (μ : zM) (Q : zQ), J j 0 [] μ → z_C d j As μ Q → z_C d j As μ (fun r m => Q r m ∧ R j m) := by
  intro d
  induction d with
  | zero => intro j As μ Q _ h; exact h
  | succ d ih =>
    intro j As μ Q hJ h Z hc hz
    have a1 := h (fun b pc lv st μ => J j pc st μ → zWn d j (fun r m => Q r m ∧ R j m) b pc lv st μ)
      ⟨fun b pc lv st μ ins pc' lv' st' μ' k1 k2 k3 w => zWn_fold (Or.inl ⟨ins, pc', lv', st', μ', k1, k2, k3 (hs j pc ins lv st μ pc' lv' st' μ' k1 k2 w)⟩),
        fun b pc lv st μ j' As rest k1 k2 k3 w => zWn_fold (Or.inr (Or.inl ⟨j', As, rest, k1, k2, z_C_mono (hcall d ih j pc st j' As rest μ _ k1 w k3) (fun r m q => q.1 q.2)⟩))⟩
      (fun b pc lv st μ v k1 k2 k3 w => zWn_fold (Or.inr (Or.inr ⟨v, k1, k2, k3, hr j pc st μ v k2 w⟩)))
    unfold z_go at a1 ⊢
    cases e : Nat.beq j mi_X7_nobodyWins with
    | true =>
      rw [Nat.eq_of_beq_eq_true e] at hJ
      exact absurd hJ (hn μ)
    | false =>
      rw [e] at a1
      exact a1 hJ Z hc hz
theorem bif_some {α : Type} {b : Bool} {x y : α} (h : (bif b then some x else none) = some y) : b = true ∧ x = y := by
  cases b
  · cases h
  · exact ⟨rfl, Option.some.inj h⟩
/-- whether an instruction writes this field of the reference -/
noncomputable def wF (oc : Nat) (ins : Instr) (k : Nat) : Bool := match ins with
  | .putfield idx => (match z_lk (z_flds.getD oc []) idx with | some (ci, k') => Nat.beq ci 6 && Nat.beq k' k | none => false)
  | _ => false
theorem sh50 : (z_sh 50).1 = 0 ∧ (z_sh 50).2.1 = 6 := by decide +kernel
theorem hp_cell {xs : Nat × (Nat → Int32)} {np oc : Nat} {ins : Instr} {st st' : List Value} {μ μ' : zM} {k0 : Nat} (h : z_hp xs np oc ins st μ = some (st', μ')) (hw : wF oc ins k0 = false) : μ'.1 50 k0 = μ.1 50 k0 := by
  unfold z_hp at h
  split at h
  · split at h
    · obtain ⟨_, e⟩ := bif_some h
      cases e; rfl
    · cases h
  · rename_i idx v r t
    cases e : z_lk (z_flds.getD oc []) idx with
    | none => rw [e] at h; cases h
    | some q =>
      obtain ⟨ci, k⟩ := q
      rw [e] at h
      have hw : (match z_lk (z_flds.getD oc []) idx with | some (ci, k') => Nat.beq ci 6 && Nat.beq k' k0 | none => false) = false := hw
      rw [e] at hw
      have hw : (Nat.beq ci 6 && Nat.beq k k0) = false := hw
      cases b : (Nat.blt r np && (Nat.beq (z_sh r).1 0 && (Nat.beq (z_sh r).2.1 ci && Nat.blt k (z_sh r).2.2))) with
      | false =>
        have h2 : (bif Nat.blt r np && (Nat.beq (z_sh r).1 0 && (Nat.beq (z_sh r).2.1 ci && Nat.blt k (z_sh r).2.2)) then (z_pv μ ci r k v).map (fun μ' => (t, μ')) else none) = some (st', μ') := h
        rw [b] at h2
        cases h2
      | true =>
        have h : (z_pv μ ci r k v).map (fun μ' => (t, μ')) = some (st', μ') := by
          have h2 : (bif Nat.blt r np && (Nat.beq (z_sh r).1 0 && (Nat.beq (z_sh r).2.1 ci && Nat.blt k (z_sh r).2.2)) then (z_pv μ ci r k v).map (fun μ' => (t, μ')) else none) = some (st', μ') := h
          rw [b] at h2
          exact h2
        have hne : ¬ (50 = r ∧ k0 = k) := by
          rintro ⟨e1, e2⟩
          obtain ⟨_, b2⟩ := z_and b
          obtain ⟨_, b3⟩ := z_and b2
          obtain ⟨b4, _⟩ := z_and b3
          have b4 := Nat.eq_of_beq_eq_true b4
          rw [← e1, sh50.2] at b4
          rw [← b4, ← e2, Nat.beq_refl, Nat.beq_refl] at hw
          cases hw
        have hui : ∀ x, (z_ui μ r k x).1 50 k0 = μ.1 50 k0 := fun x => by rw [z_ui_rd, if_neg hne]
        cases e9 : z_pv μ ci r k v with
        | none => rw [e9] at h; cases h
        | some μ9 =>
          rw [e9] at h
          cases h
          unfold z_pv at e9
          split at e9
          · cases e9; exact hui _
          · cases e9; rfl
          · obtain ⟨_, e8⟩ := bif_some e9
            rw [← e8]; exact hui _
          · generalize (Nat.beq _ 0 || Nat.ble 79 _) = bb at e9
            cases bb
            · cases e9; rfl
            · cases e9
          · cases e9
  · split at h
    · cases h; rfl
    · cases h
  · split at h
    · cases h; rfl
    · cases h
  · rename_i i r t
    generalize Nat.blt r 100 = bb at h
    cases bb
    · obtain ⟨_, e⟩ := bif_some (show (bif z_av xs r && z_in i (z_ro xs r).1 then some (.int ((z_ro xs r).2 i.toNatClampNeg) :: t, μ) else none) = some (st', μ') from h)
      cases e; rfl
    · obtain ⟨_, e⟩ := bif_some (show (bif Nat.blt r np && (Nat.beq (z_sh r).1 1 && z_in i (z_sh r).2.2) then some (.int (μ.1 r i.toNatClampNeg) :: t, μ) else none) = some (st', μ') from h)
      cases e; rfl
  · obtain ⟨_, e⟩ := bif_some h
    cases e; rfl
  · obtain ⟨_, e⟩ := bif_some h
    cases e; rfl
  · obtain ⟨_, e⟩ := bif_some h
    cases e; rfl
  · obtain ⟨b, e⟩ := bif_some h
    obtain ⟨_, b2⟩ := z_and b
    obtain ⟨b3, _⟩ := z_and b2
    cases e
    rw [z_ui_rd, if_neg (fun q => by rw [← q.1, sh50.1] at b3; exact absurd b3 (by decide))]
  · obtain ⟨b, e⟩ := bif_some h
    obtain ⟨_, b2⟩ := z_and b
    obtain ⟨b3, _⟩ := z_and b2
    cases e
    rw [z_ui_rd, if_neg (fun q => by rw [← q.1, sh50.1] at b3; exact absurd b3 (by decide))]
  · obtain ⟨_, e⟩ := bif_some h
    cases e; rfl
  · rename_i r t
    generalize Nat.beq r 60 = bb at h
    cases bb
    · obtain ⟨_, e⟩ := bif_some (show (bif z_av xs r then some (.int (Int32.ofNat (z_ro xs r).1) :: t, μ) else none) = some (st', μ') from h)
      cases e; rfl
    · obtain ⟨_, e⟩ := bif_some (show (bif Nat.blt r np then some (.int 136 :: t, μ) else none) = some (st', μ') from h)
      cases e; rfl
  · rename_i idx y x t
    generalize Nat.ble _ 8 = bb at h
    cases bb
    · cases h
    · have h : (match z_lk (z_mths.getD oc []) idx with | some 0 => some (.int (if x < y then y else x) :: t, μ) | some 1 => some (.int (if y < x then y else x) :: t, μ) | _ => none) = some (st', μ') := h
      split at h
      · cases h; rfl
      · cases h; rfl
      · cases h
  · cases h
theorem step_cell {xs : Nat × (Nat → Int32)} {np oc nL : Nat} {ins : Instr} {pc pc' : Nat} {lv lv' : zL} {st st' : List Value} {μ μ' : zM} {k0 : Nat} (h : z_step xs np oc nL ins (pc, lv, st, μ) = some (pc', lv', st', μ')) (hw : wF oc ins k0 = false) : μ'.1 50 k0 = μ.1 50 k0 := by
  unfold z_step at h
  split at h
  · cases h; rfl
  · split at h
    · cases h; rfl
    · split at h
      · cases h; rfl
      · split at h
        · rename_i st2 μ2 e
          cases h
          exact hp_cell e hw
        · cases h
theorem cl_inv {j pc : Nat} {st : List Value} {j' : Nat} {As rest : List Value} (h : z_cl j pc st = some (j', As, rest)) : ∃ idx kd na ci, (z_ft j pc = some (.invokevirtual idx) ∨ z_ft j pc = some (.invokestatic idx)) ∧ z_lk (z_cals.getD (z_oc j) []) idx = some (kd, j', na, ci) := by
  unfold z_cl at h
  split at h
  · rename_i idx e
    split at h
    · rename_i j2 na ci e2
      split at h
      · obtain ⟨_, e3⟩ := bif_some h
        cases e3
        exact ⟨idx, 0, na, ci, Or.inl e, e2⟩
      · cases h
    · cases h
  · rename_i idx e
    split at h
    · rename_i kd j2 na ci e2
      obtain ⟨_, e3⟩ := bif_some h
      cases e3
      exact ⟨idx, kd, na, _, Or.inr e, e2⟩
    · cases h
  · cases h
/-- the methods that an instruction calls -/
noncomputable def cIn (oc : Nat) (ins : Instr) (l : List Nat) : Bool := match ins with
  | .invokevirtual idx => (match z_lk (z_cals.getD oc []) idx with | some (_, j', _) => l.contains j' | none => true)
  | .invokestatic idx => (match z_lk (z_cals.getD oc []) idx with | some (_, j', _) => l.contains j' | none => true)
  | _ => true
theorem cIn_cl {j pc : Nat} {st : List Value} {j' : Nat} {As rest : List Value} {l : List Nat} (h : z_cl j pc st = some (j', As, rest)) (hl : ∀ ins, z_ft j pc = some ins → cIn (z_oc j) ins l = true) : l.contains j' = true := by
  obtain ⟨idx, kd, na, ci, e, e2⟩ := cl_inv h
  rcases e with e | e
  · have := hl _ e
    unfold cIn at this
    simp only [e2] at this
    exact this
  · have := hl _ e
    unfold cIn at this
    simp only [e2] at this
    exact this
noncomputable def kLs (l : List Nat) (ks : List Nat) : Bool := l.all (fun j => !Nat.beq j mi_X7_nobodyWins && (z_cd j).all (fun q => cIn (z_oc j) q.2 l && ks.all (fun k => !wF (z_oc j) q.2 k)))
/-- methods that never write these fields keep them -/
theorem zC_keep {l ks : List Nat} (hl : kLs l ks = true) (P : zM → Prop) (hP : ∀ μ μ', (∀ k ∈ ks, μ'.1 50 k = μ.1 50 k) → P μ → P μ') (d : Nat) {j : Nat} {As : List Value} {μ : zM} {Q : zQ} (hj : l.contains j = true) (h0 : P μ) (h : z_C d j As μ Q) : z_C d j As μ (fun r m => Q r m ∧ P m) := by
  have H : ∀ j, l.contains j = true → Nat.beq j mi_X7_nobodyWins = false ∧ ∀ pc ins, z_ft j pc = some ins → cIn (z_oc j) ins l = true ∧ ∀ k ∈ ks, wF (z_oc j) ins k = false := by
    intro j hj
    have h1 := List.all_eq_true.mp hl j (by simpa using hj)
    obtain ⟨a, b⟩ := z_and h1
    refine ⟨by simpa using a, fun pc ins hf => ?_⟩
    obtain ⟨b1, b2⟩ := z_and (List.all_eq_true.mp b _ (lk_mem (z_ft_lk hf)))
    exact ⟨b1, fun k hk => by simpa using List.all_eq_true.mp b2 k hk⟩
  refine zC_J (fun j pc st μ => l.contains j = true ∧ P μ) (fun _ μ => P μ) ?_ ?_ ?_ ?_ d j As μ Q ⟨hj, h0⟩ h
  · intro j pc ins lv st μ pc' lv' st' μ' k1 k2 k3
    exact ⟨k3.1, hP μ μ' (fun k hk => step_cell k2 (((H j k3.1).2 pc ins k1).2 k hk)) k3.2⟩
  · intro μ q
    have := (H _ q.1).1
    rw [Nat.beq_refl] at this
    cases this
  · intro j pc st μ v _ q
    exact q.2
  · intro d ih j pc st j' As rest μ Q' k1 k2 k3
    have hj' := cIn_cl k1 (fun ins hi => ((H j k2.1).2 pc ins hi).1)
    exact z_C_mono (ih j' As μ Q' ⟨hj', k2.2⟩ k3) (fun r m q => ⟨q.1, k2.1, q.2⟩)
/-! the reference's reckoning: where there is a base, the hand is full -/
set_option maxRecDepth 8000
noncomputable def IFv (μ : zM) : Prop := μ.1 50 13 = 0 ∨ μ.1 50 18 = 1
noncomputable def LA : List Nat := [mi_X7_way, mi_X7_pairsWay, mi_X7_thirteen, mi_X7_bit, mi_X7_compare, mi_X7_edges, mi_X7_firstSort, mi_X7_han, mi_X7_has, mi_X7_hasRun, mi_X7_hasThree, mi_X7_isDragon, mi_X7_isEnd, mi_X7_isHidden, mi_X7_isHonour, mi_X7_isOpen, mi_X7_isTerminal, mi_X7_of, mi_X7_tiles, mi_X7_twins]
noncomputable def LN : List Nat := [mi_X7_isEnd, mi_X7_isTerminal, mi_X7_inHand, mi_X7_isRun, mi_X7_isHonour]
noncomputable def LSs : List Nat := [mi_X7_sets, mi_X7_apart, mi_X7_reckon]
theorem LA_ok : kLs LA [18] = true := by decide +kernel
theorem LN_ok : kLs LN [13, 18] = true := by decide +kernel
noncomputable def rg (j pc : Nat) : Nat := bif Nat.beq j mi_X7_sets then (bif Nat.beq pc 59 then 3 else bif Nat.ble 62 pc && Nat.ble pc 72 then 2 else 1) else bif Nat.beq j mi_X7_apart then (bif Nat.blt pc 12 then 0 else bif Nat.beq pc 12 then 4 else bif Nat.beq pc 217 || Nat.beq pc 241 then 3 else bif (Nat.ble 220 pc && Nat.ble pc 225) || (Nat.ble 244 pc && Nat.ble pc 249) then 2 else 1) else bif Nat.blt pc 68 then 0 else 1
noncomputable def JR (n : Nat) (st : List Value) (μ : zM) : Prop := match n with
  | 0 => True
  | 1 => IFv μ
  | 2 => μ.1 50 18 = 1
  | 3 => (∃ t, st = .int 1 :: t) ∧ IFv μ
  | _ => ∃ t, st = .int 0 :: t
noncomputable def scs (pc : Nat) (ins : Instr) : List Nat := match ins with
  | .goto off => [((pc : Int) + off).toNat]
  | .ifCond _ off => [((pc : Int) + off).toNat, pc + 3]
  | .if_icmp _ off => [((pc : Int) + off).toNat, pc + 3]
  | _ => [pc + z_len ins]
noncomputable def noSw (ins : Instr) : Bool := match ins with
  | .tableswitch _ _ _ _ => false
  | .ifnull _ => false
  | _ => true
theorem step_pc {xs : Nat × (Nat → Int32)} {np oc nL : Nat} {ins : Instr} {pc pc' : Nat} {lv lv' : zL} {st st' : List Value} {μ μ' : zM} (h : z_step xs np oc nL ins (pc, lv, st, μ) = some (pc', lv', st', μ')) (hj : z_jp ins pc st = none) : pc' = pc + z_len ins := by
  unfold z_step at h
  split at h
  · cases h; rfl
  · rw [show z_jp ins (pc, lv, st, μ).1 (pc, lv, st, μ).2.2.1 = none from hj] at h
    split at h
    · rename_i a b c d; cases d
    · split at h
      · cases h; rfl
      · split at h
        · cases h; rfl
        · cases h
theorem z_to_t {pc t : Nat} {off : Int} (h : z_to pc off = some t) : t = ((pc : Int) + off).toNat := by
  unfold z_to at h
  exact (bif_some h).2.symm
theorem step_sc {xs : Nat × (Nat → Int32)} {np oc nL : Nat} {ins : Instr} {pc pc' : Nat} {lv lv' : zL} {st st' : List Value} {μ μ' : zM} (h : z_step xs np oc nL ins (pc, lv, st, μ) = some (pc', lv', st', μ')) (hn : noSw ins = true) : pc' ∈ scs pc ins := by
  cases ins with
  | goto off =>
    have h3 : (match (z_to pc off).map (fun t => (t, st)) with | some (p, s) => some (p, lv, s, μ) | none => none) = some (pc', lv', st', μ') := h
    cases e : z_to pc off with
    | none => rw [e] at h3; cases h3
    | some t => rw [e] at h3; cases h3; rw [z_to_t e]; exact List.mem_cons_self
  | ifCond c off =>
    match st, h with
    | .int x :: r, h =>
      have h3 : (match (z_to pc off).map (fun t => (bif z_cmp c x 0 then t else pc + 3, r)) with | some (p, s) => some (p, lv, s, μ) | none => none) = some (pc', lv', st', μ') := h
      cases e : z_to pc off with
      | none => rw [e] at h3; cases h3
      | some t =>
        rw [e] at h3
        have h3 : some ((bif z_cmp c x 0 then t else pc + 3), lv, r, μ) = some (pc', lv', st', μ') := h3
        cases b : z_cmp c x 0
        · rw [b] at h3; cases h3; exact List.mem_cons_of_mem _ List.mem_cons_self
        · rw [b] at h3; cases h3; rw [z_to_t e]; exact List.mem_cons_self
    | [], h => exact nomatch (show none = some (pc', lv', st', μ') from h)
    | .long _ :: r, h => exact nomatch (show none = some (pc', lv', st', μ') from h)
    | .ref _ :: r, h => exact nomatch (show none = some (pc', lv', st', μ') from h)
    | .null :: r, h => exact nomatch (show none = some (pc', lv', st', μ') from h)
  | if_icmp c off =>
    match st, h with
    | .int y :: .int x :: r, h =>
      have h3 : (match (z_to pc off).map (fun t => (bif z_cmp c x y then t else pc + 3, r)) with | some (p, s) => some (p, lv, s, μ) | none => none) = some (pc', lv', st', μ') := h
      cases e : z_to pc off with
      | none => rw [e] at h3; cases h3
      | some t =>
        rw [e] at h3
        have h3 : some ((bif z_cmp c x y then t else pc + 3), lv, r, μ) = some (pc', lv', st', μ') := h3
        cases b : z_cmp c x y
        · rw [b] at h3; cases h3; exact List.mem_cons_of_mem _ List.mem_cons_self
        · rw [b] at h3; cases h3; rw [z_to_t e]; exact List.mem_cons_self
    | [], h => exact nomatch (show none = some (pc', lv', st', μ') from h)
    | .int y :: .null :: r, h => exact nomatch (show none = some (pc', lv', st', μ') from h)
    | .int y :: [], h => exact nomatch (show none = some (pc', lv', st', μ') from h)
    | .int y :: .long _ :: r, h => exact nomatch (show none = some (pc', lv', st', μ') from h)
    | .int y :: .ref _ :: r, h => exact nomatch (show none = some (pc', lv', st', μ') from h)
    | .long _ :: r, h => exact nomatch (show none = some (pc', lv', st', μ') from h)
    | .ref _ :: r, h => exact nomatch (show none = some (pc', lv', st', μ') from h)
    | .null :: r, h => exact nomatch (show none = some (pc', lv', st', μ') from h)
  | tableswitch _ _ _ _ => exact nomatch (show false = true from hn)
  | ifnull _ => exact nomatch (show false = true from hn)
  | _ => (rw [step_pc h rfl]; exact List.mem_cons_self)
noncomputable def isK (ins : Instr) (n : Int) : Bool := match ins with
  | .iconst m => decide (m = n)
  | _ => false
noncomputable def trO (oc : Nat) (ins : Instr) (a b : Nat) : Bool := Nat.beq b 0 || (bif wF oc ins 18 then Nat.beq a 3 && (Nat.beq b 1 || Nat.beq b 2) else bif wF oc ins 13 then Nat.beq a 4 && Nat.beq b 1 else
  (Nat.beq b 1 && (Nat.beq a 1 || (Nat.beq a 2 || Nat.beq a 3))) || ((Nat.beq b 2 && Nat.beq a 2) || ((Nat.beq b 3 && (isK ins 1 && (Nat.beq a 1 || Nat.beq a 2))) || (Nat.beq b 4 && isK ins 0))))
noncomputable def isR (ins : Instr) : Bool := match ins with
  | .return_ => true
  | .ireturn => true
  | .lreturn => true
  | .areturn => true
  | _ => false
noncomputable def cOk (j pc : Nat) (ins : Instr) : Bool :=
  let f := fun (j' : Nat) => (LSs.contains j' && ((Nat.beq (rg j' 0) 0 || (Nat.beq (rg j' 0) 1 && (Nat.beq (rg j pc) 1))) && (Nat.beq (rg j (pc + 3)) 0 || Nat.beq (rg j (pc + 3)) 1))) || ((LA.contains j' && (Nat.beq (rg j pc) 2 && (Nat.beq (rg j (pc + 3)) 1 || Nat.beq (rg j (pc + 3)) 2))) || (LN.contains j' && (Nat.beq (rg j pc) 1 && Nat.beq (rg j (pc + 3)) 1)))
  match ins with
  | .invokevirtual idx => (match z_lk (z_cals.getD (z_oc j) []) idx with | some (_, j', _) => f j' | none => false)
  | .invokestatic idx => (match z_lk (z_cals.getD (z_oc j) []) idx with | some (_, j', _) => f j' | none => false)
  | _ => true
noncomputable def okS (j pc : Nat) (ins : Instr) : Bool := noSw ins && ((isR ins || (scs pc ins).all (fun p => trO (z_oc j) ins (rg j pc) (rg j p)) || (match ins with | .invokevirtual _ => true | .invokestatic _ => true | _ => false)) && ((!isR ins || (Nat.beq (rg j pc) 1 || Nat.beq (rg j pc) 2)) && cOk j pc ins))
theorem LS_ok : LSs.all (fun j => !Nat.beq j mi_X7_nobodyWins && (z_cd j).all (fun q => okS j q.1 q.2)) = true := by decide +kernel
/-! the reference's reckoning: where there is a base, the hand is full (end) -/
set_option maxRecDepth 8000
theorem st_mths {xs : Nat × (Nat → Int32)} {np oc nL pc idx : Nat} {lv : zL} {st : List Value} {μ : zM} {x : zS} (h2 : z_step xs np oc nL (.invokestatic idx) (pc, lv, st, μ) = some x) : ∃ z, z_lk (z_mths.getD oc []) idx = some z := by
  cases e2 : z_lk (z_mths.getD oc []) idx with
  | some z => exact ⟨z, rfl⟩
  | none =>
    exfalso
    have h3 : (match z_hp xs np oc (.invokestatic idx) st μ with | some (st', μ') => some (pc + z_len (.invokestatic idx), lv, st', μ') | none => none) = some x := h2
    have h4 : z_hp xs np oc (.invokestatic idx) st μ = none := by
      unfold z_hp
      split <;> first | rfl | (rename_i hh; cases hh) | skip
      all_goals (first | (simp only [e2]; generalize Nat.ble _ 8 = bb; cases bb <;> rfl) | skip)
    rw [h4] at h3
    cases h3
theorem sh6 : ∀ r, r < 80 → (z_sh r).1 = 0 → (z_sh r).2.1 = 6 → r = 50 := by decide +kernel
theorem put_v {xs : Nat × (Nat → Int32)} {np oc nL pc idx : Nat} {lv lv' : zL} {t st' : List Value} {μ μ' : zM} {pc' k : Nat} {x : Int32} (hnp : np ≤ 80) (h : z_step xs np oc nL (.putfield idx) (pc, lv, .int x :: t, μ) = some (pc', lv', st', μ')) (hw : wF oc (.putfield idx) k = true) : μ'.1 50 k = x := by
  have hw : (match z_lk (z_flds.getD oc []) idx with | some (ci, k') => Nat.beq ci 6 && Nat.beq k' k | none => false) = true := hw
  cases e : z_lk (z_flds.getD oc []) idx with
  | none => rw [e] at hw; cases hw
  | some q =>
    obtain ⟨ci, k'⟩ := q
    rw [e] at hw
    obtain ⟨w1, w2⟩ := z_and (show (Nat.beq ci 6 && Nat.beq k' k) = true from hw)
    have w1 := Nat.eq_of_beq_eq_true w1
    have w2 := Nat.eq_of_beq_eq_true w2
    subst w1
    subst w2
    match t, h with
    | .ref r :: t, h =>
      have h3 : (match z_hp xs np oc (.putfield idx) (.int x :: .ref r :: t) μ with | some (st', μ') => some (pc + z_len (.putfield idx), lv, st', μ') | none => none) = some (pc', lv', st', μ') := h
      have h5 : z_hp xs np oc (.putfield idx) (.int x :: .ref r :: t) μ = bif Nat.blt r np && (Nat.beq (z_sh r).1 0 && (Nat.beq (z_sh r).2.1 6 && Nat.blt k' (z_sh r).2.2)) then (z_pv μ 6 r k' (.int x)).map (fun μ' => (t, μ')) else none := by
        unfold z_hp
        simp only [e]
      rw [h5] at h3
      cases b : (Nat.blt r np && (Nat.beq (z_sh r).1 0 && (Nat.beq (z_sh r).2.1 6 && Nat.blt k' (z_sh r).2.2))) with
      | false => rw [b] at h3; cases h3
      | true =>
        rw [b] at h3
        obtain ⟨b1, b2⟩ := z_and b
        obtain ⟨b3, b4⟩ := z_and b2
        obtain ⟨b5, _⟩ := z_and b4
        have hr : r = 50 := sh6 r (Nat.lt_of_lt_of_le (Nat.blt_eq.mp b1) hnp) (Nat.eq_of_beq_eq_true b3) (Nat.eq_of_beq_eq_true b5)
        subst hr
        have h3 : (match (z_pv μ 6 50 k' (.int x)).map (fun μ' => (t, μ')) with | some (st', μ') => some (pc + z_len (.putfield idx), lv, st', μ') | none => none) = some (pc', lv', st', μ') := h3
        cases e9 : z_pv μ 6 50 k' (.int x) with
        | none => rw [e9] at h3; cases h3
        | some μ9 =>
          rw [e9] at h3
          cases h3
          unfold z_pv at e9
          split at e9
          · rename_i y hy; cases hy; cases e9; rw [z_ui_rd, if_pos ⟨rfl, rfl⟩]
          · rename_i y hy; cases hy
          · rename_i y hy; cases hy
            obtain ⟨_, e8⟩ := bif_some e9
            rw [← e8, z_ui_rd, if_pos ⟨rfl, rfl⟩]
          · rename_i y hy; cases hy
          · cases e9
    | [], h => exact nomatch (show none = some (pc', lv', st', μ') from h)
    | .int _ :: r, h => exact nomatch (show none = some (pc', lv', st', μ') from h)
    | .long _ :: r, h => exact nomatch (show none = some (pc', lv', st', μ') from h)
    | .null :: r, h => exact nomatch (show none = some (pc', lv', st', μ') from h)
theorem wF_pf {oc k : Nat} {ins : Instr} (h : wF oc ins k = true) : ∃ idx, ins = .putfield idx := by
  cases ins <;> first | exact ⟨_, rfl⟩ | cases h
theorem isK_e {ins : Instr} {n : Int} (h : isK ins n = true) : ins = .iconst n := by
  cases ins <;> first | cases h | skip
  rw [of_decide_eq_true h]
theorem JR1 {a : Nat} {st st' : List Value} {μ : zM} (h : JR a st μ) (ha : (Nat.beq a 1 || (Nat.beq a 2 || Nat.beq a 3)) = true) : JR 1 st' μ := by
  rcases Bool.or_eq_true .. ▸ ha with q | q
  · rw [Nat.eq_of_beq_eq_true q] at h; exact h
  · rcases Bool.or_eq_true .. ▸ q with q | q
    · rw [Nat.eq_of_beq_eq_true q] at h; exact Or.inr h
    · rw [Nat.eq_of_beq_eq_true q] at h; exact h.2
theorem tr_ok {xs : Nat × (Nat → Int32)} {np oc nL pc : Nat} {ins : Instr} {lv lv' : zL} {st st' : List Value} {μ μ' : zM} {pc' a b : Nat} (hnp : np ≤ 80) (h : z_step xs np oc nL ins (pc, lv, st, μ) = some (pc', lv', st', μ')) (ht : trO oc ins a b = true) (hJ : JR a st μ) : JR b st' μ' := by
  unfold trO at ht
  rcases Bool.or_eq_true .. ▸ ht with q | q
  · rw [Nat.eq_of_beq_eq_true q]; exact trivial
  · cases w18 : wF oc ins 18 with
    | true =>
      rw [w18, cond_true] at q
      obtain ⟨q1, q2⟩ := z_and q
      rw [Nat.eq_of_beq_eq_true q1] at hJ
      obtain ⟨⟨t, rfl⟩, _⟩ := hJ
      obtain ⟨idx, rfl⟩ := wF_pf w18
      have e := put_v hnp h w18
      rcases Bool.or_eq_true .. ▸ q2 with q | q
      · rw [Nat.eq_of_beq_eq_true q]; exact Or.inr e
      · rw [Nat.eq_of_beq_eq_true q]; exact e
    | false =>
      rw [w18, cond_false] at q
      have e18 := step_cell h w18
      cases w13 : wF oc ins 13 with
      | true =>
        rw [w13, cond_true] at q
        obtain ⟨q1, q2⟩ := z_and q
        rw [Nat.eq_of_beq_eq_true q1] at hJ
        obtain ⟨t, rfl⟩ := hJ
        obtain ⟨idx, rfl⟩ := wF_pf w13
        rw [Nat.eq_of_beq_eq_true q2]
        exact Or.inl (put_v hnp h w13)
      | false =>
        rw [w13, cond_false] at q
        have e13 := step_cell h w13
        have hI : ∀ a, JR a st μ → (Nat.beq a 1 || (Nat.beq a 2 || Nat.beq a 3)) = true → IFv μ' := fun a hJ ha => by
          have := JR1 (st' := []) hJ ha
          have : IFv μ := this
          unfold IFv at this ⊢
          rw [e13, e18]; exact this
        rcases Bool.or_eq_true .. ▸ q with q | q
        · obtain ⟨q1, q2⟩ := z_and q
          rw [Nat.eq_of_beq_eq_true q1]
          exact hI a hJ q2
        · rcases Bool.or_eq_true .. ▸ q with q | q
          · obtain ⟨q1, q2⟩ := z_and q
            rw [Nat.eq_of_beq_eq_true q2] at hJ
            rw [Nat.eq_of_beq_eq_true q1]
            exact e18.trans hJ
          · rcases Bool.or_eq_true .. ▸ q with q | q
            · obtain ⟨q1, q2⟩ := z_and q
              obtain ⟨q3, q4⟩ := z_and q2
              rw [isK_e q3] at h
              rw [Nat.eq_of_beq_eq_true q1]
              have h : some (pc + z_len (.iconst 1), lv, .int (Int32.ofInt 1) :: st, μ) = some (pc', lv', st', μ') := h
              refine ⟨⟨st, ?_⟩, hI a hJ (by rcases Bool.or_eq_true .. ▸ q4 with q | q <;> rw [q] <;> simp)⟩
              cases h; rfl
            · obtain ⟨q1, q2⟩ := z_and q
              rw [isK_e q2] at h
              rw [Nat.eq_of_beq_eq_true q1]
              have h : some (pc + z_len (.iconst 0), lv, .int (Int32.ofInt 0) :: st, μ) = some (pc', lv', st', μ') := h
              refine ⟨st, ?_⟩
              cases h; rfl
theorem LS_np : LSs.all (fun j => Nat.ble (z_np j) 80) = true := by decide +kernel
theorem rn_isR {j pc : Nat} {st : List Value} {v : Option Value} (h : z_rn j pc st = some v) : ∃ ins, z_ft j pc = some ins ∧ isR ins = true := by
  unfold z_rn at h
  split at h
  · exact ⟨_, by assumption, rfl⟩
  · exact ⟨_, by assumption, rfl⟩
  · exact ⟨_, by assumption, rfl⟩
  · exact ⟨_, by assumption, rfl⟩
  · cases h
theorem S_full (d : Nat) {j : Nat} {As : List Value} {μ : zM} {Q : zQ} (hj : LSs.contains j = true) (h0 : JR (rg j 0) [] μ) (h : z_C d j As μ Q) : z_C d j As μ (fun r m => Q r m ∧ IFv m) := by
  have H : ∀ j, LSs.contains j = true → Nat.beq j mi_X7_nobodyWins = false ∧ z_np j ≤ 80 ∧ ∀ pc ins, z_ft j pc = some ins → okS j pc ins = true := by
    intro j hj
    obtain ⟨a, b⟩ := z_and (List.all_eq_true.mp LS_ok j (by simpa using hj))
    exact ⟨by simpa using a, Nat.le_of_ble_eq_true (List.all_eq_true.mp LS_np j (by simpa using hj)), fun pc ins hf => List.all_eq_true.mp b _ (lk_mem (z_ft_lk hf))⟩
  refine zC_J (fun j pc st μ => LSs.contains j = true ∧ JR (rg j pc) st μ) (fun _ μ => IFv μ) ?_ ?_ ?_ ?_ d j As μ Q ⟨hj, h0⟩ h
  · intro j pc ins lv st μ pc' lv' st' μ' k1 k2 k3
    refine ⟨k3.1, ?_⟩
    obtain ⟨c1, c2⟩ := z_and ((H j k3.1).2.2 pc ins k1)
    obtain ⟨c3, c4⟩ := z_and c2
    obtain ⟨c5, c6⟩ := z_and c4
    rcases Bool.or_eq_true .. ▸ c3 with q | q
    · rcases Bool.or_eq_true .. ▸ q with q | q
      · exfalso
        cases ins <;> first | exact nomatch (show none = some (pc', lv', st', μ') from k2) | exact nomatch (show false = true from q)
      · exact tr_ok (H j k3.1).2.1 k2 (List.all_eq_true.mp q pc' (step_sc k2 c1)) k3.2
    · exfalso
      cases ins with
      | invokevirtual idx => exact nomatch (show none = some (pc', lv', st', μ') from k2)
      | invokestatic idx =>
        obtain ⟨z, hz⟩ := st_mths k2
        have e := mths_cals hz
        unfold cOk at c6
        simp only [e] at c6
        cases c6
      | _ => cases q
  · intro μ q
    have := (H _ q.1).1
    rw [Nat.beq_refl] at this
    cases this
  · intro j pc st μ v k1 q
    obtain ⟨ins, e1, e2⟩ := rn_isR k1
    obtain ⟨c1, c2⟩ := z_and ((H j q.1).2.2 pc ins e1)
    obtain ⟨c3, c4⟩ := z_and c2
    obtain ⟨c5, c6⟩ := z_and c4
    rw [e2] at c5
    have c5 : (Nat.beq (rg j pc) 1 || Nat.beq (rg j pc) 2) = true := c5
    exact JR1 (st' := []) q.2 (by rcases Bool.or_eq_true .. ▸ c5 with q | q <;> rw [q] <;> simp)
  · intro d ih j pc st j' As rest μ Q' k1 k2 k3
    obtain ⟨idx, kd, na, ci, e, e2⟩ := cl_inv k1
    have hf : ((LSs.contains j' && ((Nat.beq (rg j' 0) 0 || (Nat.beq (rg j' 0) 1 && (Nat.beq (rg j pc) 1))) && (Nat.beq (rg j (pc + 3)) 0 || Nat.beq (rg j (pc + 3)) 1))) || ((LA.contains j' && (Nat.beq (rg j pc) 2 && (Nat.beq (rg j (pc + 3)) 1 || Nat.beq (rg j (pc + 3)) 2))) || (LN.contains j' && (Nat.beq (rg j pc) 1 && Nat.beq (rg j (pc + 3)) 1)))) = true := by
      rcases e with e | e
      all_goals
        obtain ⟨_, c2⟩ := z_and ((H j k2.1).2.2 pc _ e)
        obtain ⟨_, c4⟩ := z_and c2
        obtain ⟨_, c6⟩ := z_and c4
        unfold cOk at c6
        simp only [e2] at c6
        exact c6
    have k2' := k2.2
    rcases Bool.or_eq_true .. ▸ hf with q | q
    · obtain ⟨q1, q2⟩ := z_and q
      obtain ⟨q3, q4⟩ := z_and q2
      have hJ' : JR (rg j' 0) [] μ := by
        rcases Bool.or_eq_true .. ▸ q3 with q | q
        · rw [Nat.eq_of_beq_eq_true q]; exact trivial
        · obtain ⟨q5, q6⟩ := z_and q
          rw [Nat.eq_of_beq_eq_true q6] at k2'
          rw [Nat.eq_of_beq_eq_true q5]; exact k2'
      refine z_C_mono (ih j' As μ Q' ⟨q1, hJ'⟩ k3) (fun r m z => ⟨z.1, k2.1, ?_⟩)
      rcases Bool.or_eq_true .. ▸ q4 with q | q
      · rw [Nat.eq_of_beq_eq_true q]; exact trivial
      · rw [Nat.eq_of_beq_eq_true q]; exact z.2
    · rcases Bool.or_eq_true .. ▸ q with q | q
      · obtain ⟨q1, q2⟩ := z_and q
        obtain ⟨q3, q4⟩ := z_and q2
        rw [Nat.eq_of_beq_eq_true q3] at k2'
        refine z_C_mono (zC_keep LA_ok (fun m => m.1 50 18 = 1) (fun μ μ' hk h1 => by rw [hk 18 (by simp)]; exact h1) d q1 k2' k3) (fun r m z => ⟨z.1, k2.1, ?_⟩)
        rcases Bool.or_eq_true .. ▸ q4 with q | q
        · rw [Nat.eq_of_beq_eq_true q]; exact Or.inr z.2
        · rw [Nat.eq_of_beq_eq_true q]; exact z.2
      · obtain ⟨q1, q2⟩ := z_and q
        obtain ⟨q3, q4⟩ := z_and q2
        rw [Nat.eq_of_beq_eq_true q3] at k2'
        refine z_C_mono (zC_keep LN_ok IFv (fun μ μ' hk h1 => by unfold IFv at h1 ⊢; rw [hk 13 (by simp), hk 18 (by simp)]; exact h1) d q1 k2' k3) (fun r m z => ⟨z.1, k2.1, ?_⟩)
        rw [Nat.eq_of_beq_eq_true q4]; exact z.2
/-! the game: take, waitsAt of the reference -/
set_option maxRecDepth 8000
noncomputable def TK1 (μ : zM) (s i : Nat) (μ1 : zM) : Prop := (∀ k, k < i → μ1.1 51 k = μ.1 60 (34 * s + k)) ∧ (∀ r k, r ≠ 51 → μ1.1 r k = μ.1 r k) ∧ μ1.2 = μ.2
theorem TK1.nx {μ μ1 : zM} {s i : Nat} (h : TK1 μ s i μ1) : TK1 μ s (i + 1) (z_ui μ1 51 i (μ1.1 60 (34 * s + i))) := by
  refine ⟨fun k hk => ?_, fun r k hr => ?_, h.2.2⟩
  · by_cases e : k = i
    · subst e
      rw [ui_s]; exact h.2.1 60 _ (by decide)
    · rw [ui_k e]; exact h.1 k (by omega)
  · rw [ui_o hr]; exact h.2.1 r k hr
noncomputable def TK2 (μ : zM) (s q i : Nat) (μ1 : zM) : Prop := (∀ k, k < 34 → μ1.1 51 k = μ.1 60 (34 * s + k)) ∧ μ1.1 50 4 = nI q ∧ (∀ k, k < i → μ1.1 52 k = μ.1 62 (4 * s + k) ∧ μ1.1 53 k = μ.1 63 (4 * s + k)) ∧ (∀ r k, r ≠ 51 → r ≠ 52 → r ≠ 53 → ¬ (r = 50 ∧ k = 4) → μ1.1 r k = μ.1 r k) ∧ μ1.2 = μ.2
theorem TK1.to {μ μ1 : zM} {s q : Nat} (h : TK1 μ s 34 μ1) : TK2 μ s q 0 (z_ui μ1 50 4 (nI q)) := by
  refine ⟨fun k hk => ?_, ui_s, fun k hk => absurd hk (by omega), fun r k h1 _ _ h4 => ?_, h.2.2⟩
  · rw [ui_o (by decide)]; exact h.1 k hk
  · by_cases e : r = 50
    · rw [ui_k (fun e2 => h4 ⟨e, e2⟩)]; exact h.2.1 r k h1
    · rw [ui_o e]; exact h.2.1 r k h1
theorem TK2.nx {μ μ1 : zM} {s q i : Nat} (h : TK2 μ s q i μ1) : TK2 μ s q (i + 1) (z_ui (z_ui μ1 52 i (μ1.1 62 (4 * s + i))) 53 i (μ1.1 63 (4 * s + i))) := by
  refine ⟨fun k hk => ?_, ?_, fun k hk => ?_, fun r k h1 h2 h3 h4 => ?_, h.2.2.2.2⟩
  · rw [ui_o (by decide), ui_o (by decide)]; exact h.1 k hk
  · rw [ui_o (by decide), ui_o (by decide)]; exact h.2.1
  · by_cases e : k = i
    · subst e
      rw [ui_o (by decide), ui_s, ui_s]
      exact ⟨h.2.2.2.1 62 _ (by decide) (by decide) (by decide) (by omega), h.2.2.2.1 63 _ (by decide) (by decide) (by decide) (by omega)⟩
    · rw [ui_o (by decide), ui_k e, ui_k e, ui_o (by decide)]; exact h.2.2.1 k (by omega)
  · rw [ui_o h3, ui_o h2]; exact h.2.2.2.1 r k h1 h2 h3 h4
theorem nI_k4 {s i : Nat} : (4 * (nI s)) + (nI i) = nI (4 * s + i) := by rw [show (4 : Int32) = nI 4 from rfl, nI_ml, nI_add]
theorem kn_nle {a b : Nat} (ha : a < 2147483648) (hb : b < 2147483648) (h : b ≤ a) : decide (nI b ≤ nI a) = true := decide_eq_true (by rw [Int32.le_iff_toInt_le, nI_toInt ha, nI_toInt hb]; omega)
theorem kn_nlf {a b : Nat} (ha : a < 2147483648) (hb : b < 2147483648) (h : a < b) : decide (nI b ≤ nI a) = false := decide_eq_false (by rw [Int32.le_iff_toInt_le, nI_toInt ha, nI_toInt hb]; omega)
theorem gm_take (d : Nat) (hd : 2 ≤ d) (μ : zM) (s q : Nat) (hs4 : s < 4) (hq : q ≤ 4) (e64 : μ.1 64 s = nI q) : z_C d mi_X7_take [.ref 50, .int (nI s)] μ (fun r μ' => r = none ∧ TK2 μ s q q μ') := by
  refine z_C_in (by decide) (by omega) (fun d' Z ed hc hr => ?_)
  have hH : zH mi_X7_take zt_X7_take 79 7 3 := hh_X7_take
  have hM : ∀ n i, i + n = q → ∀ μ1, TK2 μ s q i μ1 → Z 0 38 [(2, .int (nI i)), (0, .ref 50), (1, .int (nI s))] [] μ1 := by
    intro n
    induction n with
    | zero =>
      intro i hi μ1 g1
      have hi : i = q := by omega
      refine z_rcs hc hH 2 (pc' := 40) (lv' := [(2, .int (nI i)), (0, .ref 50), (1, .int (nI s))]) (st' := [.ref 50, .int (nI i)]) (μ' := μ1) (by rfl) ?_
      refine zq_gfi hc hH (by rfl) (ci := 6) (f := 4) (by rfl) (by decide +kernel) (by rfl) ?_
      rw [g1.2.1]
      refine zq_ic hc hH (by rfl) (tg := 84) (by rfl) (fun h1 => ?_) (fun h1 => ?_)
      · have h1 : (decide ((nI q) ≤ (nI i))) = true := decide_eq_true (cm_ge.mp h1)
        exact hr 0 84 _ _ _ none (by decide +kernel) (by rfl) (⟨rfl, hi ▸ g1⟩)
      · have h1 : (decide ((nI q) ≤ (nI i))) = false := decide_eq_false (cn_ge.mp h1)
        exact absurd (Eq.trans (Eq.symm (kn_nle (by omega) (by omega) (by omega))) h1) (by decide)
    | succ n ih =>
      intro i hi μ1 g1
      refine z_rcs hc hH 2 (pc' := 40) (lv' := [(2, .int (nI i)), (0, .ref 50), (1, .int (nI s))]) (st' := [.ref 50, .int (nI i)]) (μ' := μ1) (by rfl) ?_
      refine zq_gfi hc hH (by rfl) (ci := 6) (f := 4) (by rfl) (by decide +kernel) (by rfl) ?_
      rw [g1.2.1]
      refine zq_ic hc hH (by rfl) (tg := 84) (by rfl) (fun h1 => ?_) (fun h1 => ?_)
      · have h1 : (decide ((nI q) ≤ (nI i))) = true := decide_eq_true (cm_ge.mp h1)
        exact absurd (Eq.trans (Eq.symm (kn_nlf (by omega) (by omega) (by omega))) h1) (by decide)
      · have h1 : (decide ((nI q) ≤ (nI i))) = false := decide_eq_false (cn_ge.mp h1)
        refine z_rcs hc hH 1 (pc' := 47) (lv' := [(2, .int (nI i)), (0, .ref 50), (1, .int (nI s))]) (st' := [.ref 50]) (μ' := μ1) (by rfl) ?_
        refine zq_gfr hc hH (by rfl) (ci := 6) (f := 2) (q := 52) (by rfl) (by decide +kernel) (by rfl) (by decide +kernel) ?_
        refine z_rcs hc hH 2 (pc' := 52) (lv' := [(2, .int (nI i)), (0, .ref 50), (1, .int (nI s))]) (st' := [.ref 50, .int (nI i), .ref 52]) (μ' := μ1) (by rfl) ?_
        refine zq_gfr hc hH (by rfl) (ci := 6) (f := 30) (q := 62) (by rfl) (by decide +kernel) (by rfl) (by decide +kernel) ?_
        refine z_rcs hc hH 5 (pc' := 60) (lv' := [(2, .int (nI i)), (0, .ref 50), (1, .int (nI s))]) (st' := [.int ((4 * (nI s)) + (nI i)), .ref 62, .int (nI i), .ref 52]) (μ' := μ1) (by rfl) ?_
        rw [nI_k4]
        refine zq_iald hc hH (by rfl) 16 (oka_i (by decide +kernel)) (vp_in_nI (by omega) (by decide)) ?_
        rw [nI_clamp (by omega)]
        refine zq_iast hc hH (by rfl) 8 (oka_i (by decide +kernel)).2 (vp_in_nI (by omega) (by decide)) ?_
        rw [nI_clamp (by omega)]
        show Z 0 62 [(2, .int (nI i)), (0, .ref 50), (1, .int (nI s))] [] (z_ui μ1 52 i (μ1.1 62 (4 * s + i)))
        refine z_rcs0 hc hH 1 (pc' := 63) (lv' := [(2, .int (nI i)), (0, .ref 50), (1, .int (nI s))]) (st' := [.ref 50]) (by rfl) ?_
        refine zq_gfr hc hH (by rfl) (ci := 6) (f := 3) (q := 53) (by rfl) (by decide +kernel) (by rfl) (by decide +kernel) ?_
        refine z_rcs0 hc hH 2 (pc' := 68) (lv' := [(2, .int (nI i)), (0, .ref 50), (1, .int (nI s))]) (st' := [.ref 50, .int (nI i), .ref 53]) (by rfl) ?_
        refine zq_gfr hc hH (by rfl) (ci := 6) (f := 31) (q := 63) (by rfl) (by decide +kernel) (by rfl) (by decide +kernel) ?_
        refine z_rcs0 hc hH 5 (pc' := 76) (lv' := [(2, .int (nI i)), (0, .ref 50), (1, .int (nI s))]) (st' := [.int ((4 * (nI s)) + (nI i)), .ref 63, .int (nI i), .ref 53]) (by rfl) ?_
        rw [nI_k4]
        refine zq_iald hc hH (by rfl) 16 (oka_i (by decide +kernel)) (vp_in_nI (by omega) (by decide)) ?_
        rw [nI_clamp (by omega)]
        refine zV1 (Z := Z) (ui_o (by first | decide | omega)) ?_
        refine zq_iast hc hH (by rfl) 8 (oka_i (by decide +kernel)).2 (vp_in_nI (by omega) (by decide)) ?_
        rw [nI_clamp (by omega)]
        show Z 0 78 [(2, .int (nI i)), (0, .ref 50), (1, .int (nI s))] [] (z_ui (z_ui μ1 52 i (μ1.1 62 (4 * s + i))) 53 i (μ1.1 63 (4 * s + i)))
        refine z_rcs0 hc hH 2 (pc' := 38) (lv' := [(2, .int ((nI i) + 1)), (0, .ref 50), (1, .int (nI s))]) (st' := []) (by rfl) ?_
        have e9 := ih (i + 1) (by omega) _ g1.nx
        rw [nI_s1]
        exact e9
  have hL : ∀ n k, k + n = 34 → ∀ μ1, TK1 μ s k μ1 → Z 0 2 [(2, .int (nI k)), (0, .ref 50), (1, .int (nI s))] [] μ1 := by
    intro n
    induction n with
    | zero =>
      intro k hk μ1 g1
      have hk : k = 34 := by omega
      subst hk
      have e64b : μ1.1 64 s = nI q := by rw [g1.2.1 64 s (by decide)]; exact e64
      refine z_rcs hc hH 2 (pc' := 5) (lv' := [(2, .int (nI 34)), (0, .ref 50), (1, .int (nI s))]) (st' := [.int 34, .int (nI 34)]) (μ' := μ1) (by rfl) ?_
      refine zq_ic hc hH (by rfl) (tg := 26) (by rfl) (fun h1 => ?_) (fun h1 => ?_)
      · have h1 : (decide (34 ≤ (nI 34))) = true := decide_eq_true (cm_ge.mp h1)
        refine z_rcs hc hH 2 (pc' := 28) (lv' := [(2, .int (nI 34)), (0, .ref 50), (1, .int (nI s))]) (st' := [.ref 50, .ref 50]) (μ' := μ1) (by rfl) ?_
        refine zq_gfr hc hH (by rfl) (ci := 6) (f := 32) (q := 64) (by rfl) (by decide +kernel) (by rfl) (by decide +kernel) ?_
        refine z_rcs hc hH 1 (pc' := 32) (lv' := [(2, .int (nI 34)), (0, .ref 50), (1, .int (nI s))]) (st' := [.int (nI s), .ref 64, .ref 50]) (μ' := μ1) (by rfl) ?_
        refine zq_iald hc hH (by rfl) 4 (oka_i (by decide +kernel)) (vp_in_nI (by omega) (by decide)) ?_
        rw [nI_clamp (by omega)]
        rw [e64b]
        refine zq_pfi hc hH (by rfl) (ci := 6) (f := 4) (by rfl) (by decide +kernel) (by rfl) ?_
        show Z 0 36 [(2, .int (nI 34)), (0, .ref 50), (1, .int (nI s))] [] (z_ui μ1 50 4 (nI q))
        refine z_rcs hc hH 2 (pc' := 38) (lv' := [(2, .int 0), (0, .ref 50), (1, .int (nI s))]) (st' := []) (μ' := z_ui μ1 50 4 (nI q)) (by rfl) ?_
        exact hM q 0 (by omega) _ g1.to
      · have h1 : (decide (34 ≤ (nI 34))) = false := decide_eq_false (cn_ge.mp h1)
        exact absurd (Eq.trans (Eq.symm (kn_le2 (m := 34) rfl (by omega) (by omega))) h1) (by decide)
    | succ n ih =>
      intro k hk μ1 g1
      refine z_rcs hc hH 2 (pc' := 5) (lv' := [(2, .int (nI k)), (0, .ref 50), (1, .int (nI s))]) (st' := [.int 34, .int (nI k)]) (μ' := μ1) (by rfl) ?_
      refine zq_ic hc hH (by rfl) (tg := 26) (by rfl) (fun h1 => ?_) (fun h1 => ?_)
      · have h1 : (decide (34 ≤ (nI k))) = true := decide_eq_true (cm_ge.mp h1)
        exact absurd (Eq.trans (Eq.symm (kn_le (m := 34) rfl (by omega) (by omega))) h1) (by decide)
      · have h1 : (decide (34 ≤ (nI k))) = false := decide_eq_false (cn_ge.mp h1)
        refine z_rcs hc hH 1 (pc' := 9) (lv' := [(2, .int (nI k)), (0, .ref 50), (1, .int (nI s))]) (st' := [.ref 50]) (μ' := μ1) (by rfl) ?_
        refine zq_gfr hc hH (by rfl) (ci := 6) (f := 1) (q := 51) (by rfl) (by decide +kernel) (by rfl) (by decide +kernel) ?_
        refine z_rcs hc hH 4 (pc' := 16) (lv' := [(2, .int (nI k)), (0, .ref 50), (1, .int (nI s))]) (st' := [.int (nI k), .int (nI s), .ref 50, .int (nI k), .ref 51]) (μ' := μ1) (by rfl) ?_
        refine zq_call hc (z_cx_ok hH (by rfl)) (fc_X7_has_ d' (by omega) μ1 s k hs4 (by omega)) (by decide +kernel) (fun r9 μ9 hq => ?_)
        obtain ⟨hμ9, rfl⟩ := hq
        rw [hμ9]
        clear hμ9 μ9
        show Z 0 19 [(2, .int (nI k)), (0, .ref 50), (1, .int (nI s))] [.int (μ1.1 60 (34 * s + k)), .int (nI k), .ref 51] μ1
        refine zq_iast hc hH (by rfl) 34 (oka_i (by decide +kernel)).2 (vp_in_nI (by omega) (by decide)) ?_
        rw [nI_clamp (by omega)]
        show Z 0 20 [(2, .int (nI k)), (0, .ref 50), (1, .int (nI s))] [] (z_ui μ1 51 k (μ1.1 60 (34 * s + k)))
        refine z_rcs0 hc hH 2 (pc' := 2) (lv' := [(2, .int ((nI k) + 1)), (0, .ref 50), (1, .int (nI s))]) (st' := []) (by rfl) ?_
        have e9 := ih (k + 1) (by omega) _ g1.nx
        rw [nI_s1]
        exact e9
  exact z_rcs hc hH 2 (pc' := 2) (lv' := [(2, .int (nI 0)), (0, .ref 50), (1, .int (nI s))]) (st' := []) (μ' := μ) (by rfl) (hL 34 0 (by omega) μ ⟨fun k hk => absurd hk (by omega), fun _ _ _ => rfl, rfl⟩)
/-- a hand of the reference -/
noncomputable def HM (μ : zM) (s : Nat) (w : Nat → Nat) (q : Nat) (sL lL : Nat → Nat) : Prop := (∀ k, k < 34 → μ.1 60 (34 * s + k) = nI (w k) ∧ w k ≤ 4) ∧ μ.1 64 s = nI q ∧ q ≤ 4 ∧ ∀ j, j < q → μ.1 62 (4 * s + j) = nI (sL j) ∧ sL j ≤ 3 ∧ μ.1 63 (4 * s + j) = nI (lL j) ∧ lL j < 34 ∧ (sL j = 0 → rs (lL j))
theorem HM.se {μ M : zM} {s : Nat} {w : Nat → Nat} {q : Nat} {sL lL : Nat → Nat} (h : HM μ s w q sL lL) (e : SE μ M) : HM M s w q sL lL := ⟨fun k hk => by rw [e 60 _ (by omega)]; exact h.1 k hk, by rw [e 64 _ (by omega)]; exact h.2.1, h.2.2.1, fun j hj => by rw [e 62 _ (by omega), e 63 _ (by omega)]; exact h.2.2.2 j hj⟩
theorem seat_arg {s : Nat} (hs : s < 4) : bI 0 3 (nI s) := bd_nI (by omega) ⟨by omega, by omega⟩
theorem gm_takeH (d : Nat) (hd : 695 ≤ d) (μ : zM) (hH : a_H μ) (s q : Nat) (hs4 : s < 4) (hq : q ≤ 4) (e64 : μ.1 64 s = nI q) : z_C d mi_X7_take [.ref 50, .int (nI s)] μ (fun r μ' => (r = none ∧ TK2 μ s q q μ') ∧ a_H μ') :=
  z_C_mono (zC_and d (gm_take d (by omega) μ s q hs4 hq e64) (a_use (i := 117) (K := ak_117) rfl hd [.ref 50, .int (nI s)] μ (aArg_pre ⟨⟨50, by decide, rfl⟩, ⟨_, rfl, seat_arg hs4⟩, trivial⟩ rfl) hH)) (fun r μ' q => ⟨q.1, q.2.1⟩)
theorem TK2.sm {μ μ1 : zM} {s q i : Nat} (h : TK2 μ s q i μ1) : SMj μ μ1 := fun r k hr => ⟨h.2.2.2.1 r k (by omega) (by omega) (by omega) (by omega), by rw [h.2.2.2.2]⟩
theorem SM_fz {md : List (Nat × Nat)} {μ μ1 : zM} (h : a_Fz md μ μ1) (hm : md.all (fun q => (Nat.ble 51 q.1 && Nat.ble q.1 58) || (Nat.beq q.1 50 && (Nat.ble 1 q.2 && Nat.ble q.2 39))) = true) : SMj μ μ1 := by
  intro r k hr
  refine h.1 r k ?_
  unfold a_md
  rw [List.any_eq_false]
  intro q hq hb
  have := List.all_eq_true.mp hm q hq
  obtain ⟨b1, b2⟩ := z_and hb
  have b1 := z_beq b1
  rw [Bool.or_eq_true] at this b2
  rcases this with t | t
  · obtain ⟨t1, t2⟩ := z_and t
    have t1 := Nat.le_of_ble_eq_true t1
    have t2 := Nat.le_of_ble_eq_true t2
    omega
  · obtain ⟨t1, t2⟩ := z_and t
    have t1 := z_beq t1
    obtain ⟨t2, t3⟩ := z_and t2
    have t2 := Nat.le_of_ble_eq_true t2
    have t3 := Nat.le_of_ble_eq_true t3
    rcases b2 with b2 | b2
    · have b2 := z_beq b2
      omega
    · have b2 := z_beq b2
      omega
noncomputable def WMs (μ : zM) (s : Nat) (w : Nat → Nat) (q c : Nat) : Prop := sn w 34 + 3 * q = 13 ∧ ¬ (4 : Int32) ≤ ofv (nI (w c)) (fun i => μ.1 62 (4 * s + i)) (fun i => μ.1 63 (4 * s + i)) (nI c) q ∧ FM (ad1 w c) q
theorem gm_waitsAt (d : Nat) (hd : 696 ≤ d) (μ : zM) (hH : a_H μ) (s : Nat) (hs4 : s < 4) (w : Nat → Nat) (q : Nat) (sL lL : Nat → Nat) (hM : HM μ s w q sL lL) : z_C d mi_X7_waitsAt [.ref 50, .int (nI s)] μ (fun r W => r = some (.long (kb (wb (WMs μ s w q)) 34)) ∧ SMj μ W ∧ a_H W) := by
  refine z_C_in (by decide) (by omega) (fun d' Z ed hc hr => ?_)
  have hH2 : zH mi_X7_waitsAt zt_X7_waitsAt 79 7 2 := hh_X7_waitsAt
  refine z_rcs hc hH2 2 (pc' := 2) (lv' := [(0, .ref 50), (1, .int (nI s))]) (st' := [.int (nI s), .ref 50]) (μ' := μ) (by rfl) ?_
  refine zq_call hc (z_cx_ok hH2 (by rfl)) (gm_takeH d' (by omega) μ hH s q hs4 hM.2.2.1 hM.2.1) (by decide +kernel) (fun r9 μ9 hq => ?_)
  obtain ⟨⟨rfl, hT⟩, hH9⟩ := hq
  refine z_rcs hc hH2 1 (pc' := 6) (lv' := [(0, .ref 50), (1, .int (nI s))]) (st' := [.ref 50]) (μ' := μ9) (by rfl) ?_
  have hw : RW μ9 51 w := fun k hk => by rw [hT.1 k hk]; exact ⟨(hM.1 k hk).1, by have := (hM.1 k hk).2; omega⟩
  refine zq_call hc (z_cx_ok hH2 (by rfl)) (fc_X7_waitsOf d' (by omega) μ9 w q hM.2.2.1 hw (fun k hk => (hM.1 k hk).2) hT.2.1 hH9) (by decide +kernel) (fun r9 μ8 hq => ?_)
  obtain ⟨hW, rfl⟩ := hq
  have e : kb (wb (WM μ9 w q)) 34 = kb (wb (WMs μ s w q)) 34 := by
    congr 1
    funext c
    refine wb_iff ?_
    unfold WM WMs
    rw [ofv_cg (s' := fun i => μ.1 62 (4 * s + i)) (l' := fun i => μ.1 63 (4 * s + i)) q (fun i hi => hT.2.2.1 i hi)]
  rw [e]
  exact hr 0 9 _ _ _ (some (.long (kb (wb (WMs μ s w q)) 34))) (by decide +kernel) (by rfl) ⟨rfl, SM_tr hT.sm (SM_fz hW.2.1 (by decide)), hW.2.2⟩
/-! the game: dear tiles of the reference -/
set_option maxRecDepth 8000
noncomputable def deF (A : Nat → Int32) (b : Bool) : Nat → Int32
  | 0 => 0
  | n + 1 => (deF A b n + A (126 + 2 * n)) + (bif b then A (127 + 2 * n) else 0)
theorem deF_cg {A B : Nat → Int32} {b : Bool} : ∀ n, (∀ p, 126 ≤ p → p < 126 + 2 * n → A p = B p) → deF A b n = deF B b n
  | 0, _ => rfl
  | n + 1, h => by
    show (deF A b n + A (126 + 2 * n)) + (bif b then A (127 + 2 * n) else 0) = _
    rw [deF_cg n (fun p h1 h2 => h p h1 (by omega)), h (126 + 2 * n) (by omega) (by omega), h (127 + 2 * n) (by omega) (by omega)]
    rfl
theorem bhd_in0 : ∀ x, x < 34 → z_in (bhd (nI x)) 34 = true := by decide +kernel
theorem bhd_in : ∀ x, x < 34 → vp_in (bhd (nI x)) 34 := fun x hx => z_in_iff.mp (bhd_in0 x hx)
theorem gc_dear (d : Nat) (hd : 3 ≤ d) (μ : zM) (j : Nat) (hj : j < 4) (hd9 : Bool) (f : Nat) (hf4 : f ≤ 4) (hS1 : μ.1 2 1 = 1) (hf : μ.1 2 3 = nI f) : z_C d mi_X4_dearTiles [.ref 2, .ref (19 + 8 * j), .int (nB hd9)] μ (zR μ (.int (deF (fun p => fr μ (21 + 8 * j) (bhd (μ.1 3 p))) hd9 (f + 1)))) := by
  have h := gc_dearTiles d hd μ j hj hd9 f hf4 hS1 hf
  match f, hf4 with
  | 0, _ => rw [show decide (nI (1 + 0) ≤ (1 : Int32)) = true from by decide +kernel, cond_true] at h; exact h
  | 1, _ => rw [show decide (nI (1 + 1) ≤ (1 : Int32)) = false from by decide +kernel, cond_false, show decide (nI (1 + 1) ≤ (2 : Int32)) = true from by decide +kernel, cond_true] at h; exact h
  | 2, _ => rw [show decide (nI (1 + 2) ≤ (1 : Int32)) = false from by decide +kernel, cond_false, show decide (nI (1 + 2) ≤ (2 : Int32)) = false from by decide +kernel, cond_false, show decide (nI (1 + 2) ≤ (3 : Int32)) = true from by decide +kernel, cond_true] at h; exact h
  | 3, _ => rw [show decide (nI (1 + 3) ≤ (1 : Int32)) = false from by decide +kernel, cond_false, show decide (nI (1 + 3) ≤ (2 : Int32)) = false from by decide +kernel, cond_false, show decide (nI (1 + 3) ≤ (3 : Int32)) = false from by decide +kernel, cond_false, show decide (nI (1 + 3) ≤ (4 : Int32)) = true from by decide +kernel, cond_true] at h; exact h
  | 4, _ => rw [show decide (nI (1 + 4) ≤ (1 : Int32)) = false from by decide +kernel, cond_false, show decide (nI (1 + 4) ≤ (2 : Int32)) = false from by decide +kernel, cond_false, show decide (nI (1 + 4) ≤ (3 : Int32)) = false from by decide +kernel, cond_false, show decide (nI (1 + 4) ≤ (4 : Int32)) = false from by decide +kernel, cond_false] at h; exact h
  | n + 5, h9 => exact absurd h9 (by omega)
noncomputable def TD9 (μ : zM) (i : Nat) (μ1 : zM) : Prop := (∀ k, k < i → μ1.1 58 k = μ.1 51 k) ∧ (∀ r k, r ≠ 58 → μ1.1 r k = μ.1 r k) ∧ μ1.2 = μ.2
theorem TD9.nx {μ μ1 : zM} {i : Nat} (h : TD9 μ i μ1) : TD9 μ (i + 1) (z_ui μ1 58 i (μ1.1 51 i)) := by
  refine ⟨fun k hk => ?_, fun r k hr => ?_, h.2.2⟩
  · by_cases e : k = i
    · subst e
      rw [ui_s]; exact h.2.1 51 _ (by decide)
    · rw [ui_k e]; exact h.1 k (by omega)
  · rw [ui_o hr]; exact h.2.1 r k hr
theorem nI_w26 {i : Nat} : 126 + (2 * (nI i)) = nI (126 + 2 * i) := by rw [show (2 : Int32) = nI 2 from rfl, show (126 : Int32) = nI 126 from rfl, nI_ml, nI_add]
theorem nI_w27 {i : Nat} : 127 + (2 * (nI i)) = nI (127 + 2 * i) := by rw [show (2 : Int32) = nI 2 from rfl, show (127 : Int32) = nI 127 from rfl, nI_ml, nI_add]
noncomputable def dA (μ : zM) (W : Nat → Nat) (q p : Nat) : Int32 := ofv (μ.1 51 (bhd (nI (W p))).toNatClampNeg) (μ.1 52) (μ.1 53) (bhd (nI (W p))) q
theorem TD9.of {μ μ1 : zM} (h : TD9 μ 34 μ1) (d : Nat) (hd : 2 ≤ d) {q : Nat} (hq : q ≤ 4) (e4 : μ.1 50 4 = nI q) {W : Nat → Nat} {p : Nat} (hW : W p < 34) : z_C d mi_X7_of [.ref 50, .int (bhd (nI (W p)))] μ1 (zR μ1 (.int (dA μ W q p))) := by
  have e := fc_X7_of d hd μ1 (bhd (nI (W p))) (bhd_in _ hW) q hq (by rw [h.2.1 50 4 (by decide)]; exact e4)
  rw [h.1 _ (by have := bhd_in _ hW; exact in_lt this), show μ1.1 52 = μ.1 52 from funext fun k => h.2.1 52 k (by decide), show μ1.1 53 = μ.1 53 from funext fun k => h.2.1 53 k (by decide)] at e
  exact e
theorem kn_nlt {a b : Nat} (ha : a < 2147483648) (hb : b < 2147483648) (h : a < b) : decide (nI a < nI b) = true := decide_eq_true (by rw [Int32.lt_iff_toInt_lt, nI_toInt ha, nI_toInt hb]; omega)
theorem kn_nlg {a b : Nat} (ha : a < 2147483648) (hb : b < 2147483648) (h : b ≤ a) : decide (nI a < nI b) = false := decide_eq_false (by rw [Int32.lt_iff_toInt_lt, nI_toInt ha, nI_toInt hb]; omega)
theorem gm_dear0 (d : Nat) (hd : 3 ≤ d) (μ : zM) (q f : Nat) (hq : q ≤ 4) (e4 : μ.1 50 4 = nI q) (hf4 : f ≤ 4) (hf : μ.1 50 47 = nI f) (W : Nat → Nat) (hW : ∀ p, 126 ≤ p → p < 136 → μ.1 59 p = nI (W p) ∧ W p < 34) : z_C d mi_X7_dearTiles [.ref 50, .int 0] μ (fun r μ' => r = some (.int (deF (dA μ W q) false (f + 1))) ∧ TD9 μ 34 μ') := by
  refine z_C_in (by decide) (by omega) (fun d' Z ed hc hr => ?_)
  have hH : zH mi_X7_dearTiles zt_X7_dearTiles 79 7 4 := hh_X7_dearTiles
  have hM : ∀ n i, i + n = f + 1 → ∀ μ1, TD9 μ 34 μ1 → Z 0 30 [(3, .int (nI i)), (2, .int (deF (dA μ W q) false i)), (0, .ref 50), (1, .int 0)] [] μ1 := by
    intro n
    induction n with
    | zero =>
      intro i hi μ1 g1
      have hi : i = f + 1 := by omega
      refine z_rcs hc hH 2 (pc' := 32) (lv' := [(3, .int (nI i)), (2, .int (deF (dA μ W q) false i)), (0, .ref 50), (1, .int 0)]) (st' := [.ref 50, .int (nI i)]) (μ' := μ1) (by rfl) ?_
      refine zq_gfi hc hH (by rfl) (ci := 6) (f := 47) (by rfl) (by decide +kernel) (by rfl) ?_
      rw [((g1.2.1 50 47 (by decide)).trans hf)]
      refine zq_ic hc hH (by rfl) (tg := 90) (by rfl) (fun h1 => ?_) (fun h1 => ?_)
      · have h1 : (decide ((nI f) < (nI i))) = true := decide_eq_true (cm_gt.mp h1)
        refine z_rcs hc hH 1 (pc' := 91) (lv' := [(3, .int (nI i)), (2, .int (deF (dA μ W q) false i)), (0, .ref 50), (1, .int 0)]) (st' := [.int (deF (dA μ W q) false i)]) (μ' := μ1) (by rfl) ?_
        exact hr 0 91 _ _ _ (some (.int (deF (dA μ W q) false i))) (by decide +kernel) (z_rx_ok hH (by rfl)) (⟨by rw [hi], g1⟩)
      · have h1 : (decide ((nI f) < (nI i))) = false := decide_eq_false (cn_gt.mp h1)
        exact absurd (Eq.trans (Eq.symm (kn_nlt (by omega) (by omega) (by omega))) h1) (by decide)
    | succ n ih =>
      intro i hi μ1 g1
      refine z_rcs hc hH 2 (pc' := 32) (lv' := [(3, .int (nI i)), (2, .int (deF (dA μ W q) false i)), (0, .ref 50), (1, .int 0)]) (st' := [.ref 50, .int (nI i)]) (μ' := μ1) (by rfl) ?_
      refine zq_gfi hc hH (by rfl) (ci := 6) (f := 47) (by rfl) (by decide +kernel) (by rfl) ?_
      rw [((g1.2.1 50 47 (by decide)).trans hf)]
      refine zq_ic hc hH (by rfl) (tg := 90) (by rfl) (fun h1 => ?_) (fun h1 => ?_)
      · have h1 : (decide ((nI f) < (nI i))) = true := decide_eq_true (cm_gt.mp h1)
        exact absurd (Eq.trans (Eq.symm (kn_nlg (by omega) (by omega) (by omega))) h1) (by decide)
      · have h1 : (decide ((nI f) < (nI i))) = false := decide_eq_false (cn_gt.mp h1)
        refine z_rcs hc hH 3 (pc' := 41) (lv' := [(3, .int (nI i)), (2, .int (deF (dA μ W q) false i)), (0, .ref 50), (1, .int 0)]) (st' := [.ref 50, .ref 50, .int (deF (dA μ W q) false i)]) (μ' := μ1) (by rfl) ?_
        refine zq_gfr hc hH (by rfl) (ci := 6) (f := 27) (q := 59) (by rfl) (by decide +kernel) (by rfl) (by decide +kernel) ?_
        refine z_rcs hc hH 5 (pc' := 50) (lv' := [(3, .int (nI i)), (2, .int (deF (dA μ W q) false i)), (0, .ref 50), (1, .int 0)]) (st' := [.int (126 + (2 * (nI i))), .ref 59, .ref 50, .int (deF (dA μ W q) false i)]) (μ' := μ1) (by rfl) ?_
        rw [nI_w26]
        refine zq_iald hc hH (by rfl) 136 (oka_i (by decide +kernel)) (vp_in_nI (by omega) (by decide)) ?_
        rw [nI_clamp (by omega)]
        rw [((g1.2.1 59 _ (by decide)).trans (hW (126 + 2 * i) (by omega) (by omega)).1)]
        refine zq_call hc (z_cx_ok hH (by rfl)) (gm_behind d' (by omega) μ1 (nI (W (126 + 2 * i)))) (by decide +kernel) (fun r9 μ9 hq => ?_)
        obtain ⟨hμ9, rfl⟩ := hq
        rw [hμ9]
        clear hμ9 μ9
        show Z 0 54 [(3, .int (nI i)), (2, .int (deF (dA μ W q) false i)), (0, .ref 50), (1, .int 0)] [.int (bhd (nI (W (126 + 2 * i)))), .ref 50, .int (deF (dA μ W q) false i)] μ1
        refine zq_call hc (z_cx_ok hH (by rfl)) (g1.of d' (by omega) hq e4 (W := W) (p := 126 + 2 * i) (hW _ (by omega) (by omega)).2) (by decide +kernel) (fun r9 μ9 hq => ?_)
        obtain ⟨hμ9, rfl⟩ := hq
        rw [hμ9]
        clear hμ9 μ9
        show Z 0 57 [(3, .int (nI i)), (2, .int (deF (dA μ W q) false i)), (0, .ref 50), (1, .int 0)] [.int (dA μ W q (126 + 2 * i)), .int (deF (dA μ W q) false i)] μ1
        refine z_rcs hc hH 6 (pc' := 30) (lv' := [(3, .int ((nI i) + 1)), (2, .int ((deF (dA μ W q) false i) + (dA μ W q (126 + 2 * i)))), (0, .ref 50), (1, .int 0)]) (st' := []) (μ' := μ1) (by rfl) ?_
        have e9 := ih (i + 1) (by omega) _ g1
        rw [nI_s1]
        have e8 : deF (dA μ W q) false (i + 1) = (deF (dA μ W q) false i) + (dA μ W q (126 + 2 * i)) := Int32.add_zero _
        rw [← e8]
        exact e9
  have hL : ∀ n k, k + n = 34 → ∀ μ1, TD9 μ k μ1 → Z 0 2 [(2, .int (nI k)), (0, .ref 50), (1, .int 0)] [] μ1 := by
    intro n
    induction n with
    | zero =>
      intro k hk μ1 g1
      have hk : k = 34 := by omega
      subst hk
      refine z_rcs hc hH 2 (pc' := 5) (lv' := [(2, .int (nI 34)), (0, .ref 50), (1, .int 0)]) (st' := [.int 34, .int (nI 34)]) (μ' := μ1) (by rfl) ?_
      refine zq_ic hc hH (by rfl) (tg := 26) (by rfl) (fun h1 => ?_) (fun h1 => ?_)
      · have h1 : (decide (34 ≤ (nI 34))) = true := decide_eq_true (cm_ge.mp h1)
        refine z_rcs hc hH 4 (pc' := 30) (lv' := [(3, .int 0), (2, .int 0), (0, .ref 50), (1, .int 0)]) (st' := []) (μ' := μ1) (by rfl) ?_
        exact hM (f + 1) 0 (by omega) _ g1
      · have h1 : (decide (34 ≤ (nI 34))) = false := decide_eq_false (cn_ge.mp h1)
        exact absurd (Eq.trans (Eq.symm (kn_le2 (m := 34) rfl (by omega) (by omega))) h1) (by decide)
    | succ n ih =>
      intro k hk μ1 g1
      refine z_rcs hc hH 2 (pc' := 5) (lv' := [(2, .int (nI k)), (0, .ref 50), (1, .int 0)]) (st' := [.int 34, .int (nI k)]) (μ' := μ1) (by rfl) ?_
      refine zq_ic hc hH (by rfl) (tg := 26) (by rfl) (fun h1 => ?_) (fun h1 => ?_)
      · have h1 : (decide (34 ≤ (nI k))) = true := decide_eq_true (cm_ge.mp h1)
        exact absurd (Eq.trans (Eq.symm (kn_le (m := 34) rfl (by omega) (by omega))) h1) (by decide)
      · have h1 : (decide (34 ≤ (nI k))) = false := decide_eq_false (cn_ge.mp h1)
        refine z_rcs hc hH 1 (pc' := 9) (lv' := [(2, .int (nI k)), (0, .ref 50), (1, .int 0)]) (st' := [.ref 50]) (μ' := μ1) (by rfl) ?_
        refine zq_gfr hc hH (by rfl) (ci := 6) (f := 26) (q := 58) (by rfl) (by decide +kernel) (by rfl) (by decide +kernel) ?_
        refine z_rcs hc hH 2 (pc' := 14) (lv' := [(2, .int (nI k)), (0, .ref 50), (1, .int 0)]) (st' := [.ref 50, .int (nI k), .ref 58]) (μ' := μ1) (by rfl) ?_
        refine zq_gfr hc hH (by rfl) (ci := 6) (f := 1) (q := 51) (by rfl) (by decide +kernel) (by rfl) (by decide +kernel) ?_
        refine z_rcs hc hH 1 (pc' := 18) (lv' := [(2, .int (nI k)), (0, .ref 50), (1, .int 0)]) (st' := [.int (nI k), .ref 51, .int (nI k), .ref 58]) (μ' := μ1) (by rfl) ?_
        refine zq_iald hc hH (by rfl) 34 (oka_i (by decide +kernel)) (vp_in_nI (by omega) (by decide)) ?_
        rw [nI_clamp (by omega)]
        refine zq_iast hc hH (by rfl) 34 (oka_i (by decide +kernel)).2 (vp_in_nI (by omega) (by decide)) ?_
        rw [nI_clamp (by omega)]
        show Z 0 20 [(2, .int (nI k)), (0, .ref 50), (1, .int 0)] [] (z_ui μ1 58 k (μ1.1 51 k))
        refine z_rcs0 hc hH 2 (pc' := 2) (lv' := [(2, .int ((nI k) + 1)), (0, .ref 50), (1, .int 0)]) (st' := []) (by rfl) ?_
        have e9 := ih (k + 1) (by omega) _ g1.nx
        rw [nI_s1]
        exact e9
  exact z_rcs hc hH 2 (pc' := 2) (lv' := [(2, .int (nI 0)), (0, .ref 50), (1, .int 0)]) (st' := []) (μ' := μ) (by rfl) (hL 34 0 (by omega) μ ⟨fun k hk => absurd hk (by omega), fun _ _ _ => rfl, rfl⟩)
theorem gm_dear1 (d : Nat) (hd : 3 ≤ d) (μ : zM) (q f : Nat) (hq : q ≤ 4) (e4 : μ.1 50 4 = nI q) (hf4 : f ≤ 4) (hf : μ.1 50 47 = nI f) (W : Nat → Nat) (hW : ∀ p, 126 ≤ p → p < 136 → μ.1 59 p = nI (W p) ∧ W p < 34) : z_C d mi_X7_dearTiles [.ref 50, .int 1] μ (fun r μ' => r = some (.int (deF (dA μ W q) true (f + 1))) ∧ TD9 μ 34 μ') := by
  refine z_C_in (by decide) (by omega) (fun d' Z ed hc hr => ?_)
  have hH : zH mi_X7_dearTiles zt_X7_dearTiles 79 7 4 := hh_X7_dearTiles
  have hM : ∀ n i, i + n = f + 1 → ∀ μ1, TD9 μ 34 μ1 → Z 0 30 [(3, .int (nI i)), (2, .int (deF (dA μ W q) true i)), (0, .ref 50), (1, .int 1)] [] μ1 := by
    intro n
    induction n with
    | zero =>
      intro i hi μ1 g1
      have hi : i = f + 1 := by omega
      refine z_rcs hc hH 2 (pc' := 32) (lv' := [(3, .int (nI i)), (2, .int (deF (dA μ W q) true i)), (0, .ref 50), (1, .int 1)]) (st' := [.ref 50, .int (nI i)]) (μ' := μ1) (by rfl) ?_
      refine zq_gfi hc hH (by rfl) (ci := 6) (f := 47) (by rfl) (by decide +kernel) (by rfl) ?_
      rw [((g1.2.1 50 47 (by decide)).trans hf)]
      refine zq_ic hc hH (by rfl) (tg := 90) (by rfl) (fun h1 => ?_) (fun h1 => ?_)
      · have h1 : (decide ((nI f) < (nI i))) = true := decide_eq_true (cm_gt.mp h1)
        refine z_rcs hc hH 1 (pc' := 91) (lv' := [(3, .int (nI i)), (2, .int (deF (dA μ W q) true i)), (0, .ref 50), (1, .int 1)]) (st' := [.int (deF (dA μ W q) true i)]) (μ' := μ1) (by rfl) ?_
        exact hr 0 91 _ _ _ (some (.int (deF (dA μ W q) true i))) (by decide +kernel) (z_rx_ok hH (by rfl)) (⟨by rw [hi], g1⟩)
      · have h1 : (decide ((nI f) < (nI i))) = false := decide_eq_false (cn_gt.mp h1)
        exact absurd (Eq.trans (Eq.symm (kn_nlt (by omega) (by omega) (by omega))) h1) (by decide)
    | succ n ih =>
      intro i hi μ1 g1
      refine z_rcs hc hH 2 (pc' := 32) (lv' := [(3, .int (nI i)), (2, .int (deF (dA μ W q) true i)), (0, .ref 50), (1, .int 1)]) (st' := [.ref 50, .int (nI i)]) (μ' := μ1) (by rfl) ?_
      refine zq_gfi hc hH (by rfl) (ci := 6) (f := 47) (by rfl) (by decide +kernel) (by rfl) ?_
      rw [((g1.2.1 50 47 (by decide)).trans hf)]
      refine zq_ic hc hH (by rfl) (tg := 90) (by rfl) (fun h1 => ?_) (fun h1 => ?_)
      · have h1 : (decide ((nI f) < (nI i))) = true := decide_eq_true (cm_gt.mp h1)
        exact absurd (Eq.trans (Eq.symm (kn_nlg (by omega) (by omega) (by omega))) h1) (by decide)
      · have h1 : (decide ((nI f) < (nI i))) = false := decide_eq_false (cn_gt.mp h1)
        refine z_rcs hc hH 3 (pc' := 41) (lv' := [(3, .int (nI i)), (2, .int (deF (dA μ W q) true i)), (0, .ref 50), (1, .int 1)]) (st' := [.ref 50, .ref 50, .int (deF (dA μ W q) true i)]) (μ' := μ1) (by rfl) ?_
        refine zq_gfr hc hH (by rfl) (ci := 6) (f := 27) (q := 59) (by rfl) (by decide +kernel) (by rfl) (by decide +kernel) ?_
        refine z_rcs hc hH 5 (pc' := 50) (lv' := [(3, .int (nI i)), (2, .int (deF (dA μ W q) true i)), (0, .ref 50), (1, .int 1)]) (st' := [.int (126 + (2 * (nI i))), .ref 59, .ref 50, .int (deF (dA μ W q) true i)]) (μ' := μ1) (by rfl) ?_
        rw [nI_w26]
        refine zq_iald hc hH (by rfl) 136 (oka_i (by decide +kernel)) (vp_in_nI (by omega) (by decide)) ?_
        rw [nI_clamp (by omega)]
        rw [((g1.2.1 59 _ (by decide)).trans (hW (126 + 2 * i) (by omega) (by omega)).1)]
        refine zq_call hc (z_cx_ok hH (by rfl)) (gm_behind d' (by omega) μ1 (nI (W (126 + 2 * i)))) (by decide +kernel) (fun r9 μ9 hq => ?_)
        obtain ⟨hμ9, rfl⟩ := hq
        rw [hμ9]
        clear hμ9 μ9
        show Z 0 54 [(3, .int (nI i)), (2, .int (deF (dA μ W q) true i)), (0, .ref 50), (1, .int 1)] [.int (bhd (nI (W (126 + 2 * i)))), .ref 50, .int (deF (dA μ W q) true i)] μ1
        refine zq_call hc (z_cx_ok hH (by rfl)) (g1.of d' (by omega) hq e4 (W := W) (p := 126 + 2 * i) (hW _ (by omega) (by omega)).2) (by decide +kernel) (fun r9 μ9 hq => ?_)
        obtain ⟨hμ9, rfl⟩ := hq
        rw [hμ9]
        clear hμ9 μ9
        show Z 0 57 [(3, .int (nI i)), (2, .int (deF (dA μ W q) true i)), (0, .ref 50), (1, .int 1)] [.int (dA μ W q (126 + 2 * i)), .int (deF (dA μ W q) true i)] μ1
        refine z_rcs hc hH 7 (pc' := 66) (lv' := [(2, .int ((deF (dA μ W q) true i) + (dA μ W q (126 + 2 * i)))), (3, .int (nI i)), (0, .ref 50), (1, .int 1)]) (st' := [.ref 50, .ref 50, .int ((deF (dA μ W q) true i) + (dA μ W q (126 + 2 * i)))]) (μ' := μ1) (by rfl) ?_
        refine zq_gfr hc hH (by rfl) (ci := 6) (f := 27) (q := 59) (by rfl) (by decide +kernel) (by rfl) (by decide +kernel) ?_
        refine z_rcs hc hH 5 (pc' := 75) (lv' := [(2, .int ((deF (dA μ W q) true i) + (dA μ W q (126 + 2 * i)))), (3, .int (nI i)), (0, .ref 50), (1, .int 1)]) (st' := [.int (127 + (2 * (nI i))), .ref 59, .ref 50, .int ((deF (dA μ W q) true i) + (dA μ W q (126 + 2 * i)))]) (μ' := μ1) (by rfl) ?_
        rw [nI_w27]
        refine zq_iald hc hH (by rfl) 136 (oka_i (by decide +kernel)) (vp_in_nI (by omega) (by decide)) ?_
        rw [nI_clamp (by omega)]
        rw [((g1.2.1 59 _ (by decide)).trans (hW (127 + 2 * i) (by omega) (by omega)).1)]
        refine zq_call hc (z_cx_ok hH (by rfl)) (gm_behind d' (by omega) μ1 (nI (W (127 + 2 * i)))) (by decide +kernel) (fun r9 μ9 hq => ?_)
        obtain ⟨hμ9, rfl⟩ := hq
        rw [hμ9]
        clear hμ9 μ9
        show Z 0 79 [(2, .int ((deF (dA μ W q) true i) + (dA μ W q (126 + 2 * i)))), (3, .int (nI i)), (0, .ref 50), (1, .int 1)] [.int (bhd (nI (W (127 + 2 * i)))), .ref 50, .int ((deF (dA μ W q) true i) + (dA μ W q (126 + 2 * i)))] μ1
        refine zq_call hc (z_cx_ok hH (by rfl)) (g1.of d' (by omega) hq e4 (W := W) (p := 127 + 2 * i) (hW _ (by omega) (by omega)).2) (by decide +kernel) (fun r9 μ9 hq => ?_)
        obtain ⟨hμ9, rfl⟩ := hq
        rw [hμ9]
        clear hμ9 μ9
        show Z 0 82 [(2, .int ((deF (dA μ W q) true i) + (dA μ W q (126 + 2 * i)))), (3, .int (nI i)), (0, .ref 50), (1, .int 1)] [.int (dA μ W q (127 + 2 * i)), .int ((deF (dA μ W q) true i) + (dA μ W q (126 + 2 * i)))] μ1
        refine z_rcs hc hH 4 (pc' := 30) (lv' := [(3, .int ((nI i) + 1)), (2, .int (((deF (dA μ W q) true i) + (dA μ W q (126 + 2 * i))) + (dA μ W q (127 + 2 * i)))), (0, .ref 50), (1, .int 1)]) (st' := []) (μ' := μ1) (by rfl) ?_
        have e9 := ih (i + 1) (by omega) _ g1
        rw [nI_s1]
        exact e9
  have hL : ∀ n k, k + n = 34 → ∀ μ1, TD9 μ k μ1 → Z 0 2 [(2, .int (nI k)), (0, .ref 50), (1, .int 1)] [] μ1 := by
    intro n
    induction n with
    | zero =>
      intro k hk μ1 g1
      have hk : k = 34 := by omega
      subst hk
      refine z_rcs hc hH 2 (pc' := 5) (lv' := [(2, .int (nI 34)), (0, .ref 50), (1, .int 1)]) (st' := [.int 34, .int (nI 34)]) (μ' := μ1) (by rfl) ?_
      refine zq_ic hc hH (by rfl) (tg := 26) (by rfl) (fun h1 => ?_) (fun h1 => ?_)
      · have h1 : (decide (34 ≤ (nI 34))) = true := decide_eq_true (cm_ge.mp h1)
        refine z_rcs hc hH 4 (pc' := 30) (lv' := [(3, .int 0), (2, .int 0), (0, .ref 50), (1, .int 1)]) (st' := []) (μ' := μ1) (by rfl) ?_
        exact hM (f + 1) 0 (by omega) _ g1
      · have h1 : (decide (34 ≤ (nI 34))) = false := decide_eq_false (cn_ge.mp h1)
        exact absurd (Eq.trans (Eq.symm (kn_le2 (m := 34) rfl (by omega) (by omega))) h1) (by decide)
    | succ n ih =>
      intro k hk μ1 g1
      refine z_rcs hc hH 2 (pc' := 5) (lv' := [(2, .int (nI k)), (0, .ref 50), (1, .int 1)]) (st' := [.int 34, .int (nI k)]) (μ' := μ1) (by rfl) ?_
      refine zq_ic hc hH (by rfl) (tg := 26) (by rfl) (fun h1 => ?_) (fun h1 => ?_)
      · have h1 : (decide (34 ≤ (nI k))) = true := decide_eq_true (cm_ge.mp h1)
        exact absurd (Eq.trans (Eq.symm (kn_le (m := 34) rfl (by omega) (by omega))) h1) (by decide)
      · have h1 : (decide (34 ≤ (nI k))) = false := decide_eq_false (cn_ge.mp h1)
        refine z_rcs hc hH 1 (pc' := 9) (lv' := [(2, .int (nI k)), (0, .ref 50), (1, .int 1)]) (st' := [.ref 50]) (μ' := μ1) (by rfl) ?_
        refine zq_gfr hc hH (by rfl) (ci := 6) (f := 26) (q := 58) (by rfl) (by decide +kernel) (by rfl) (by decide +kernel) ?_
        refine z_rcs hc hH 2 (pc' := 14) (lv' := [(2, .int (nI k)), (0, .ref 50), (1, .int 1)]) (st' := [.ref 50, .int (nI k), .ref 58]) (μ' := μ1) (by rfl) ?_
        refine zq_gfr hc hH (by rfl) (ci := 6) (f := 1) (q := 51) (by rfl) (by decide +kernel) (by rfl) (by decide +kernel) ?_
        refine z_rcs hc hH 1 (pc' := 18) (lv' := [(2, .int (nI k)), (0, .ref 50), (1, .int 1)]) (st' := [.int (nI k), .ref 51, .int (nI k), .ref 58]) (μ' := μ1) (by rfl) ?_
        refine zq_iald hc hH (by rfl) 34 (oka_i (by decide +kernel)) (vp_in_nI (by omega) (by decide)) ?_
        rw [nI_clamp (by omega)]
        refine zq_iast hc hH (by rfl) 34 (oka_i (by decide +kernel)).2 (vp_in_nI (by omega) (by decide)) ?_
        rw [nI_clamp (by omega)]
        show Z 0 20 [(2, .int (nI k)), (0, .ref 50), (1, .int 1)] [] (z_ui μ1 58 k (μ1.1 51 k))
        refine z_rcs0 hc hH 2 (pc' := 2) (lv' := [(2, .int ((nI k) + 1)), (0, .ref 50), (1, .int 1)]) (st' := []) (by rfl) ?_
        have e9 := ih (k + 1) (by omega) _ g1.nx
        rw [nI_s1]
        exact e9
  exact z_rcs hc hH 2 (pc' := 2) (lv' := [(2, .int (nI 0)), (0, .ref 50), (1, .int 1)]) (st' := []) (μ' := μ) (by rfl) (hL 34 0 (by omega) μ ⟨fun k hk => absurd hk (by omega), fun _ _ _ => rfl, rfl⟩)
theorem gm_dearH (d : Nat) (hd : 695 ≤ d) (μ : zM) (hH : a_H μ) (b : Bool) (q f : Nat) (hq : q ≤ 4) (e4 : μ.1 50 4 = nI q) (hf4 : f ≤ 4) (hf : μ.1 50 47 = nI f) (W : Nat → Nat) (hW : ∀ p, 126 ≤ p → p < 136 → μ.1 59 p = nI (W p) ∧ W p < 34) : z_C d mi_X7_dearTiles [.ref 50, .int (nB b)] μ (fun r μ' => (r = some (.int (deF (dA μ W q) b (f + 1))) ∧ TD9 μ 34 μ') ∧ a_H μ') := by
  cases b with
  | false => exact z_C_mono (zC_and d (gm_dear0 d (by omega) μ q f hq e4 hf4 hf W hW) (a_use (i := 120) (K := ak_120) rfl hd [.ref 50, .int 0] μ (aArg_pre ⟨⟨50, by decide, rfl⟩, ⟨_, rfl, by decide, by decide⟩, trivial⟩ rfl) hH)) (fun r μ' q => ⟨q.1, q.2.1⟩)
  | true => exact z_C_mono (zC_and d (gm_dear1 d (by omega) μ q f hq e4 hf4 hf W hW) (a_use (i := 120) (K := ak_120) rfl hd [.ref 50, .int 1] μ (aArg_pre ⟨⟨50, by decide, rfl⟩, ⟨_, rfl, by decide, by decide⟩, trivial⟩ rfl) hH)) (fun r μ' q => ⟨q.1, q.2.1⟩)

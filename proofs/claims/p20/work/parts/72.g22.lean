/-! may a FOUR be made, a SET be claimed: of the reference -/
set_option maxRecDepth 8000
theorem gm_mayMake (d : Nat) (hd : 2 ≤ d) (μ : zM) (t : Nat) (ht4 : t < 4) (ht : μ.1 50 45 = nI t) : z_C d mi_X7_mayMake [.ref 50] μ (zR μ (.int (nB ((decide ((μ.1 50 44) = 1)) && ((decide ((μ.1 50 57) = 0)) && ((decide ((μ.1 67 t) = 0)) && (!(decide (((122 - (μ.1 50 47)) - (μ.1 50 46)) ≤ 0)) && (!(decide (4 ≤ (μ.1 50 47))))))))))) := by
  refine z_C_in (by decide) (by omega) (fun d' Z ed hc hr => ?_)
  have hH : zH mi_X7_mayMake zt_X7_mayMake 79 7 1 := hh_X7_mayMake
  refine z_rcs hc hH 1 (pc' := 1) (lv' := [(0, .ref 50)]) (st' := [.ref 50]) (μ' := μ) (by rfl) ?_
  refine zq_gfi hc hH (by rfl) (ci := 6) (f := 44) (by rfl) (by decide +kernel) (by rfl) ?_
  refine z_rcs hc hH 1 (pc' := 5) (lv' := [(0, .ref 50)]) (st' := [.int 1, .int (μ.1 50 44)]) (μ' := μ) (by rfl) ?_
  have hJ1 : Z 0 47 [(0, .ref 50)] [.int (nB ((decide ((μ.1 50 44) = 1)) && ((decide ((μ.1 50 57) = 0)) && ((decide ((μ.1 67 t) = 0)) && (!(decide (((122 - (μ.1 50 47)) - (μ.1 50 46)) ≤ 0)) && (!(decide (4 ≤ (μ.1 50 47)))))))))] μ := by
    generalize hee2 : ((decide ((μ.1 50 44) = 1)) && ((decide ((μ.1 50 57) = 0)) && ((decide ((μ.1 67 t) = 0)) && (!(decide (((122 - (μ.1 50 47)) - (μ.1 50 46)) ≤ 0)) && (!(decide (4 ≤ (μ.1 50 47)))))))) = ee2
    exact hr 0 47 _ _ _ (some (.int (nB ee2))) (by decide +kernel) ((fun b : Bool => (by cases b <;> rfl : z_rn mi_X7_mayMake 47 [.int (nB b)] = some (some (.int (nB b))))) ee2) (⟨rfl, (by subst hee2; rfl)⟩)
  refine zq_ic hc hH (by rfl) (tg := 46) (by rfl) (fun h3 => ?_) (fun h3 => ?_)
  · have h3 : (decide ((μ.1 50 44) = 1)) = false := decide_eq_false (cm_ne.mp h3)
    refine z_rcs hc hH 1 (pc' := 47) (lv' := [(0, .ref 50)]) (st' := [.int 0]) (μ' := μ) (by rfl) ?_
    exact zJ hJ1 rfl (by first | with_reducible rfl | (simp only [h3, lb_f, Int64.or_zero, Int32.add_zero, nB_t, nB_f, Bool.not_true, Bool.not_false, Bool.and_true, Bool.true_and, Bool.false_and, Bool.and_false, Bool.or_true, Bool.true_or, Bool.false_or, Bool.or_false, cond_true, cond_false]; done) | rfl) rfl
  · have h3 : (decide ((μ.1 50 44) = 1)) = true := decide_eq_true (cn_ne.mp h3)
    refine z_rcs hc hH 1 (pc' := 9) (lv' := [(0, .ref 50)]) (st' := [.ref 50]) (μ' := μ) (by rfl) ?_
    refine zq_gfi hc hH (by rfl) (ci := 6) (f := 57) (by rfl) (by decide +kernel) (by rfl) ?_
    refine zq_if hc hH (by rfl) (tg := 46) (by rfl) (fun h4 => ?_) (fun h4 => ?_)
    · have h4 : (decide ((μ.1 50 57) = 0)) = false := decide_eq_false (cm_ne.mp h4)
      refine z_rcs hc hH 1 (pc' := 47) (lv' := [(0, .ref 50)]) (st' := [.int 0]) (μ' := μ) (by rfl) ?_
      exact zJ hJ1 rfl (by first | with_reducible rfl | (simp only [h3, h4, lb_f, Int64.or_zero, Int32.add_zero, nB_t, nB_f, Bool.not_true, Bool.not_false, Bool.and_true, Bool.true_and, Bool.false_and, Bool.and_false, Bool.or_true, Bool.true_or, Bool.false_or, Bool.or_false, cond_true, cond_false]; done) | rfl) rfl
    · have h4 : (decide ((μ.1 50 57) = 0)) = true := decide_eq_true (cn_ne.mp h4)
      refine z_rcs hc hH 1 (pc' := 16) (lv' := [(0, .ref 50)]) (st' := [.ref 50]) (μ' := μ) (by rfl) ?_
      refine zq_gfr hc hH (by rfl) (ci := 6) (f := 35) (q := 67) (by rfl) (by decide +kernel) (by rfl) (by decide +kernel) ?_
      refine z_rcs hc hH 1 (pc' := 20) (lv' := [(0, .ref 50)]) (st' := [.ref 50, .ref 67]) (μ' := μ) (by rfl) ?_
      refine zq_gfi hc hH (by rfl) (ci := 6) (f := 45) (by rfl) (by decide +kernel) (by rfl) ?_
      rw [ht]
      refine zq_iald hc hH (by rfl) 4 (oka_i (by decide +kernel)) (vp_in_nI (by omega) (by decide)) ?_
      rw [nI_clamp (by omega)]
      refine zq_if hc hH (by rfl) (tg := 46) (by rfl) (fun h5 => ?_) (fun h5 => ?_)
      · have h5 : (decide ((μ.1 67 t) = 0)) = false := decide_eq_false (cm_ne.mp h5)
        refine z_rcs hc hH 1 (pc' := 47) (lv' := [(0, .ref 50)]) (st' := [.int 0]) (μ' := μ) (by rfl) ?_
        exact zJ hJ1 rfl (by first | with_reducible rfl | (simp only [h3, h4, h5, lb_f, Int64.or_zero, Int32.add_zero, nB_t, nB_f, Bool.not_true, Bool.not_false, Bool.and_true, Bool.true_and, Bool.false_and, Bool.and_false, Bool.or_true, Bool.true_or, Bool.false_or, Bool.or_false, cond_true, cond_false]; done) | rfl) rfl
      · have h5 : (decide ((μ.1 67 t) = 0)) = true := decide_eq_true (cn_ne.mp h5)
        refine z_rcs hc hH 1 (pc' := 28) (lv' := [(0, .ref 50)]) (st' := [.ref 50]) (μ' := μ) (by rfl) ?_
        refine zq_call hc (z_cx_ok hH (by rfl)) (fc_X7_left d' (by omega) μ) (by decide +kernel) (fun r9 μ9 hq => ?_)
        obtain ⟨hμ9, rfl⟩ := hq
        rw [hμ9]
        clear hμ9 μ9
        show Z 0 31 [(0, .ref 50)] [.int ((122 - (μ.1 50 47)) - (μ.1 50 46))] μ
        refine zq_if hc hH (by rfl) (tg := 46) (by rfl) (fun h6 => ?_) (fun h6 => ?_)
        · have h6 : (decide (((122 - (μ.1 50 47)) - (μ.1 50 46)) ≤ 0)) = true := decide_eq_true (cm_le.mp h6)
          refine z_rcs hc hH 1 (pc' := 47) (lv' := [(0, .ref 50)]) (st' := [.int 0]) (μ' := μ) (by rfl) ?_
          exact zJ hJ1 rfl (by first | with_reducible rfl | (simp only [h3, h4, h5, h6, lb_f, Int64.or_zero, Int32.add_zero, nB_t, nB_f, Bool.not_true, Bool.not_false, Bool.and_true, Bool.true_and, Bool.false_and, Bool.and_false, Bool.or_true, Bool.true_or, Bool.false_or, Bool.or_false, cond_true, cond_false]; done) | rfl) rfl
        · have h6 : (decide (((122 - (μ.1 50 47)) - (μ.1 50 46)) ≤ 0)) = false := decide_eq_false (cn_le.mp h6)
          refine z_rcs hc hH 1 (pc' := 35) (lv' := [(0, .ref 50)]) (st' := [.ref 50]) (μ' := μ) (by rfl) ?_
          refine zq_gfi hc hH (by rfl) (ci := 6) (f := 47) (by rfl) (by decide +kernel) (by rfl) ?_
          refine z_rcs hc hH 1 (pc' := 39) (lv' := [(0, .ref 50)]) (st' := [.int 4, .int (μ.1 50 47)]) (μ' := μ) (by rfl) ?_
          refine zq_ic hc hH (by rfl) (tg := 46) (by rfl) (fun h7 => ?_) (fun h7 => ?_)
          · have h7 : (decide (4 ≤ (μ.1 50 47))) = true := decide_eq_true (cm_ge.mp h7)
            refine z_rcs hc hH 1 (pc' := 47) (lv' := [(0, .ref 50)]) (st' := [.int 0]) (μ' := μ) (by rfl) ?_
            exact zJ hJ1 rfl (by first | with_reducible rfl | (simp only [h3, h4, h5, h6, h7, lb_f, Int64.or_zero, Int32.add_zero, nB_t, nB_f, Bool.not_true, Bool.not_false, Bool.and_true, Bool.true_and, Bool.false_and, Bool.and_false, Bool.or_true, Bool.true_or, Bool.false_or, Bool.or_false, cond_true, cond_false]; done) | rfl) rfl
          · have h7 : (decide (4 ≤ (μ.1 50 47))) = false := decide_eq_false (cn_ge.mp h7)
            refine z_rcs hc hH 2 (pc' := 47) (lv' := [(0, .ref 50)]) (st' := [.int 1]) (μ' := μ) (by rfl) ?_
            exact zJ hJ1 rfl (by first | with_reducible rfl | (simp only [h3, h4, h5, h6, h7, lb_f, Int64.or_zero, Int32.add_zero, nB_t, nB_f, Bool.not_true, Bool.not_false, Bool.and_true, Bool.true_and, Bool.false_and, Bool.and_false, Bool.or_true, Bool.true_or, Bool.false_or, Bool.or_false, cond_true, cond_false]; done) | rfl) rfl
noncomputable abbrev anS (μ : zM) : Bool := !(decide ((μ.1 71 0) = 0)) || (!(decide ((μ.1 71 1) = 0)) || (!(decide ((μ.1 71 2) = 0)) || (!(decide ((μ.1 71 3) = 0)))))
theorem gm_mayClaim (d : Nat) (hd : 2 ≤ d) (μ : zM) (s : Nat) (hs4 : s < 4) : z_C d mi_X7_mayClaim [.ref 50, .int (nI s)] μ (zR μ (.int (nB ((decide ((μ.1 50 44) = 2)) && (!(anS μ) && (!(decide (((122 - (μ.1 50 47)) - (μ.1 50 46)) ≤ 0)) && (!(decide ((nI s) = (μ.1 50 45))) && (decide ((μ.1 67 s) = 0))))))))) := by
  refine z_C_in (by decide) (by omega) (fun d' Z ed hc hr => ?_)
  have hH : zH mi_X7_mayClaim zt_X7_mayClaim 79 7 2 := hh_X7_mayClaim
  refine z_rcs hc hH 1 (pc' := 1) (lv' := [(0, .ref 50), (1, .int (nI s))]) (st' := [.ref 50]) (μ' := μ) (by rfl) ?_
  refine zq_gfi hc hH (by rfl) (ci := 6) (f := 44) (by rfl) (by decide +kernel) (by rfl) ?_
  refine z_rcs hc hH 1 (pc' := 5) (lv' := [(0, .ref 50), (1, .int (nI s))]) (st' := [.int 2, .int (μ.1 50 44)]) (μ' := μ) (by rfl) ?_
  have hJ1 : Z 0 51 [(0, .ref 50), (1, .int (nI s))] [.int (nB ((decide ((μ.1 50 44) = 2)) && (!(anS μ) && (!(decide (((122 - (μ.1 50 47)) - (μ.1 50 46)) ≤ 0)) && (!(decide ((nI s) = (μ.1 50 45))) && (decide ((μ.1 67 s) = 0)))))))] μ := by
    generalize hee2 : ((decide ((μ.1 50 44) = 2)) && (!(anS μ) && (!(decide (((122 - (μ.1 50 47)) - (μ.1 50 46)) ≤ 0)) && (!(decide ((nI s) = (μ.1 50 45))) && (decide ((μ.1 67 s) = 0)))))) = ee2
    exact hr 0 51 _ _ _ (some (.int (nB ee2))) (by decide +kernel) ((fun b : Bool => (by cases b <;> rfl : z_rn mi_X7_mayClaim 51 [.int (nB b)] = some (some (.int (nB b))))) ee2) (⟨rfl, (by subst hee2; rfl)⟩)
  refine zq_ic hc hH (by rfl) (tg := 50) (by rfl) (fun h3 => ?_) (fun h3 => ?_)
  · have h3 : (decide ((μ.1 50 44) = 2)) = false := decide_eq_false (cm_ne.mp h3)
    refine z_rcs hc hH 1 (pc' := 51) (lv' := [(0, .ref 50), (1, .int (nI s))]) (st' := [.int 0]) (μ' := μ) (by rfl) ?_
    exact zJ hJ1 rfl (by first | with_reducible rfl | (simp only [h3, lb_f, Int64.or_zero, Int32.add_zero, nB_t, nB_f, Bool.not_true, Bool.not_false, Bool.and_true, Bool.true_and, Bool.false_and, Bool.and_false, Bool.or_true, Bool.true_or, Bool.false_or, Bool.or_false, cond_true, cond_false]; done) | rfl) rfl
  · have h3 : (decide ((μ.1 50 44) = 2)) = true := decide_eq_true (cn_ne.mp h3)
    refine z_rcs hc hH 1 (pc' := 9) (lv' := [(0, .ref 50), (1, .int (nI s))]) (st' := [.ref 50]) (μ' := μ) (by rfl) ?_
    refine zq_call hc (z_cx_ok hH (by rfl)) (gm_anySays d' (by omega) μ) (by decide +kernel) (fun r9 μ9 hq => ?_)
    obtain ⟨hμ9, rfl⟩ := hq
    rw [hμ9]
    clear hμ9 μ9
    show Z 0 12 [(0, .ref 50), (1, .int (nI s))] [.int (nB (anS μ))] μ
    refine zq_if hc hH (by rfl) (tg := 50) (by rfl) (fun h4 => ?_) (fun h4 => ?_)
    · have h4 : (anS μ) = true := nB_n.mp (cm_ne.mp h4)
      refine z_rcs hc hH 1 (pc' := 51) (lv' := [(0, .ref 50), (1, .int (nI s))]) (st' := [.int 0]) (μ' := μ) (by rfl) ?_
      exact zJ hJ1 rfl (by first | with_reducible rfl | (simp only [h3, h4, lb_f, Int64.or_zero, Int32.add_zero, nB_t, nB_f, Bool.not_true, Bool.not_false, Bool.and_true, Bool.true_and, Bool.false_and, Bool.and_false, Bool.or_true, Bool.true_or, Bool.false_or, Bool.or_false, cond_true, cond_false]; done) | rfl) rfl
    · have h4 : (anS μ) = false := nB_z.mp (cn_ne.mp h4)
      refine z_rcs hc hH 1 (pc' := 16) (lv' := [(0, .ref 50), (1, .int (nI s))]) (st' := [.ref 50]) (μ' := μ) (by rfl) ?_
      refine zq_call hc (z_cx_ok hH (by rfl)) (fc_X7_left d' (by omega) μ) (by decide +kernel) (fun r9 μ9 hq => ?_)
      obtain ⟨hμ9, rfl⟩ := hq
      rw [hμ9]
      clear hμ9 μ9
      show Z 0 19 [(0, .ref 50), (1, .int (nI s))] [.int ((122 - (μ.1 50 47)) - (μ.1 50 46))] μ
      refine zq_if hc hH (by rfl) (tg := 50) (by rfl) (fun h5 => ?_) (fun h5 => ?_)
      · have h5 : (decide (((122 - (μ.1 50 47)) - (μ.1 50 46)) ≤ 0)) = true := decide_eq_true (cm_le.mp h5)
        refine z_rcs hc hH 1 (pc' := 51) (lv' := [(0, .ref 50), (1, .int (nI s))]) (st' := [.int 0]) (μ' := μ) (by rfl) ?_
        exact zJ hJ1 rfl (by first | with_reducible rfl | (simp only [h3, h4, h5, lb_f, Int64.or_zero, Int32.add_zero, nB_t, nB_f, Bool.not_true, Bool.not_false, Bool.and_true, Bool.true_and, Bool.false_and, Bool.and_false, Bool.or_true, Bool.true_or, Bool.false_or, Bool.or_false, cond_true, cond_false]; done) | rfl) rfl
      · have h5 : (decide (((122 - (μ.1 50 47)) - (μ.1 50 46)) ≤ 0)) = false := decide_eq_false (cn_le.mp h5)
        refine z_rcs hc hH 1 (pc' := 23) (lv' := [(0, .ref 50), (1, .int (nI s))]) (st' := [.int (nI s)]) (μ' := μ) (by rfl) ?_
        refine zq_call hc (z_cx_ok hH (by rfl)) (gm_isSeatN d' (by omega) μ s hs4) (by decide +kernel) (fun r9 μ9 hq => ?_)
        obtain ⟨hμ9, rfl⟩ := hq
        rw [hμ9]
        clear hμ9 μ9
        show Z 0 26 [(0, .ref 50), (1, .int (nI s))] [.int 1] μ
        refine z_rcs hc hH 3 (pc' := 31) (lv' := [(0, .ref 50), (1, .int (nI s))]) (st' := [.ref 50, .int (nI s)]) (μ' := μ) (by rfl) ?_
        refine zq_gfi hc hH (by rfl) (ci := 6) (f := 45) (by rfl) (by decide +kernel) (by rfl) ?_
        refine zq_ic hc hH (by rfl) (tg := 50) (by rfl) (fun h6 => ?_) (fun h6 => ?_)
        · have h6 : (decide ((nI s) = (μ.1 50 45))) = true := decide_eq_true (cm_eq9.mp h6)
          refine z_rcs hc hH 1 (pc' := 51) (lv' := [(0, .ref 50), (1, .int (nI s))]) (st' := [.int 0]) (μ' := μ) (by rfl) ?_
          exact zJ hJ1 rfl (by first | with_reducible rfl | (simp only [h3, h4, h5, h6, lb_f, Int64.or_zero, Int32.add_zero, nB_t, nB_f, Bool.not_true, Bool.not_false, Bool.and_true, Bool.true_and, Bool.false_and, Bool.and_false, Bool.or_true, Bool.true_or, Bool.false_or, Bool.or_false, cond_true, cond_false]; done) | rfl) rfl
        · have h6 : (decide ((nI s) = (μ.1 50 45))) = false := decide_eq_false (cn_eq.mp h6)
          refine z_rcs hc hH 1 (pc' := 38) (lv' := [(0, .ref 50), (1, .int (nI s))]) (st' := [.ref 50]) (μ' := μ) (by rfl) ?_
          refine zq_gfr hc hH (by rfl) (ci := 6) (f := 35) (q := 67) (by rfl) (by decide +kernel) (by rfl) (by decide +kernel) ?_
          refine z_rcs hc hH 1 (pc' := 42) (lv' := [(0, .ref 50), (1, .int (nI s))]) (st' := [.int (nI s), .ref 67]) (μ' := μ) (by rfl) ?_
          refine zq_iald hc hH (by rfl) 4 (oka_i (by decide +kernel)) (vp_in_nI (by omega) (by decide)) ?_
          rw [nI_clamp (by omega)]
          refine zq_if hc hH (by rfl) (tg := 50) (by rfl) (fun h7 => ?_) (fun h7 => ?_)
          · have h7 : (decide ((μ.1 67 s) = 0)) = false := decide_eq_false (cm_ne.mp h7)
            refine z_rcs hc hH 1 (pc' := 51) (lv' := [(0, .ref 50), (1, .int (nI s))]) (st' := [.int 0]) (μ' := μ) (by rfl) ?_
            exact zJ hJ1 rfl (by first | with_reducible rfl | (simp only [h3, h4, h5, h6, h7, lb_f, Int64.or_zero, Int32.add_zero, nB_t, nB_f, Bool.not_true, Bool.not_false, Bool.and_true, Bool.true_and, Bool.false_and, Bool.and_false, Bool.or_true, Bool.true_or, Bool.false_or, Bool.or_false, cond_true, cond_false]; done) | rfl) rfl
          · have h7 : (decide ((μ.1 67 s) = 0)) = true := decide_eq_true (cn_ne.mp h7)
            refine z_rcs hc hH 2 (pc' := 51) (lv' := [(0, .ref 50), (1, .int (nI s))]) (st' := [.int 1]) (μ' := μ) (by rfl) ?_
            exact zJ hJ1 rfl (by first | with_reducible rfl | (simp only [h3, h4, h5, h6, h7, lb_f, Int64.or_zero, Int32.add_zero, nB_t, nB_f, Bool.not_true, Bool.not_false, Bool.and_true, Bool.true_and, Bool.false_and, Bool.and_false, Bool.or_true, Bool.true_or, Bool.false_or, Bool.or_false, cond_true, cond_false]; done) | rfl) rfl
theorem mr_mayClaim (d : Nat) (hd : 2 ≤ d) (μ : zM) (y : Int32) (hs : ∀ d, 1 ≤ d → z_C d mi_X7_isSeat [.int y] μ (zR μ (.int 0))) : z_C d mi_X7_mayClaim [.ref 50, .int y] μ (fun r μ' => r = some (.int 0) ∧ μ' = μ) := by
  refine z_C_in (by decide) (by omega) (fun d' Z ed hc hr => ?_)
  have hH : zH mi_X7_mayClaim zt_X7_mayClaim 79 7 2 := hh_X7_mayClaim
  refine z_rcs hc hH 1 (pc' := 1) (lv' := [(0, .ref 50), (1, .int y)]) (st' := [.ref 50]) (μ' := μ) (by rfl) ?_
  refine zq_gfi hc hH (by rfl) (ci := 6) (f := 44) (by rfl) (by decide +kernel) (by rfl) ?_
  refine z_rcs hc hH 1 (pc' := 5) (lv' := [(0, .ref 50), (1, .int y)]) (st' := [.int 2, .int (μ.1 50 44)]) (μ' := μ) (by rfl) ?_
  refine zq_ic hc hH (by rfl) (tg := 50) (by rfl) (fun h1 => ?_) (fun h1 => ?_)
  · have h1 : (decide ((μ.1 50 44) = 2)) = false := decide_eq_false (cm_ne.mp h1)
    refine z_rcs hc hH 1 (pc' := 51) (lv' := [(0, .ref 50), (1, .int y)]) (st' := [.int 0]) (μ' := μ) (by rfl) ?_
    exact hr 0 51 _ _ _ (some (.int 0)) (by decide +kernel) (z_rx_ok hH (by rfl)) (⟨rfl, rfl⟩)
  · have h1 : (decide ((μ.1 50 44) = 2)) = true := decide_eq_true (cn_ne.mp h1)
    refine z_rcs hc hH 1 (pc' := 9) (lv' := [(0, .ref 50), (1, .int y)]) (st' := [.ref 50]) (μ' := μ) (by rfl) ?_
    refine zq_call hc (z_cx_ok hH (by rfl)) (gm_anySays d' (by omega) μ) (by decide +kernel) (fun r9 μ9 hq => ?_)
    obtain ⟨hμ9, rfl⟩ := hq
    rw [hμ9]
    clear hμ9 μ9
    show Z 0 12 [(0, .ref 50), (1, .int y)] [.int (nB (anS μ))] μ
    refine zq_if hc hH (by rfl) (tg := 50) (by rfl) (fun h2 => ?_) (fun h2 => ?_)
    · have h2 : (anS μ) = true := nB_n.mp (cm_ne.mp h2)
      refine z_rcs hc hH 1 (pc' := 51) (lv' := [(0, .ref 50), (1, .int y)]) (st' := [.int 0]) (μ' := μ) (by rfl) ?_
      exact hr 0 51 _ _ _ (some (.int 0)) (by decide +kernel) (z_rx_ok hH (by rfl)) (⟨rfl, rfl⟩)
    · have h2 : (anS μ) = false := nB_z.mp (cn_ne.mp h2)
      refine z_rcs hc hH 1 (pc' := 16) (lv' := [(0, .ref 50), (1, .int y)]) (st' := [.ref 50]) (μ' := μ) (by rfl) ?_
      refine zq_call hc (z_cx_ok hH (by rfl)) (fc_X7_left d' (by omega) μ) (by decide +kernel) (fun r9 μ9 hq => ?_)
      obtain ⟨hμ9, rfl⟩ := hq
      rw [hμ9]
      clear hμ9 μ9
      show Z 0 19 [(0, .ref 50), (1, .int y)] [.int ((122 - (μ.1 50 47)) - (μ.1 50 46))] μ
      refine zq_if hc hH (by rfl) (tg := 50) (by rfl) (fun h3 => ?_) (fun h3 => ?_)
      · have h3 : (decide (((122 - (μ.1 50 47)) - (μ.1 50 46)) ≤ 0)) = true := decide_eq_true (cm_le.mp h3)
        refine z_rcs hc hH 1 (pc' := 51) (lv' := [(0, .ref 50), (1, .int y)]) (st' := [.int 0]) (μ' := μ) (by rfl) ?_
        exact hr 0 51 _ _ _ (some (.int 0)) (by decide +kernel) (z_rx_ok hH (by rfl)) (⟨rfl, rfl⟩)
      · have h3 : (decide (((122 - (μ.1 50 47)) - (μ.1 50 46)) ≤ 0)) = false := decide_eq_false (cn_le.mp h3)
        refine z_rcs hc hH 1 (pc' := 23) (lv' := [(0, .ref 50), (1, .int y)]) (st' := [.int y]) (μ' := μ) (by rfl) ?_
        refine zq_call hc (z_cx_ok hH (by rfl)) (hs d' (by omega)) (by decide +kernel) (fun r9 μ9 hq => ?_)
        obtain ⟨hμ9, rfl⟩ := hq
        rw [hμ9]
        clear hμ9 μ9
        show Z 0 26 [(0, .ref 50), (1, .int y)] [.int 0] μ
        refine z_rcs hc hH 2 (pc' := 51) (lv' := [(0, .ref 50), (1, .int y)]) (st' := [.int 0]) (μ' := μ) (by rfl) ?_
        exact hr 0 51 _ _ _ (some (.int 0)) (by decide +kernel) (z_rx_ok hH (by rfl)) (⟨rfl, rfl⟩)
theorem gx_mayClaim (d : Nat) (hd : 2 ≤ d) (μ : zM) (y : Int32) (hs : ∀ d, 1 ≤ d → z_C d mi_X6_isSeat [.int y] μ (zR μ (.int 0))) : z_C d mi_X6_mayClaimSet [.ref 0, .int y] μ (fun r μ' => r = some (.int 0) ∧ μ' = μ) := by
  refine z_C_in (by decide) (by omega) (fun d' Z ed hc hr => ?_)
  have hH : zH mi_X6_mayClaimSet zt_X6_mayClaimSet 79 6 2 := hh_X6_mayClaimSet
  refine z_rcs hc hH 1 (pc' := 1) (lv' := [(0, .ref 0), (1, .int y)]) (st' := [.ref 0]) (μ' := μ) (by rfl) ?_
  refine zq_gfi hc hH (by rfl) (ci := 5) (f := 7) (by rfl) (by decide +kernel) (by rfl) ?_
  refine z_rcs hc hH 1 (pc' := 5) (lv' := [(0, .ref 0), (1, .int y)]) (st' := [.int 2, .int (μ.1 0 7)]) (μ' := μ) (by rfl) ?_
  refine zq_ic hc hH (by rfl) (tg := 55) (by rfl) (fun h1 => ?_) (fun h1 => ?_)
  · have h1 : (decide ((μ.1 0 7) = 2)) = false := decide_eq_false (cm_ne.mp h1)
    refine z_rcs hc hH 1 (pc' := 56) (lv' := [(0, .ref 0), (1, .int y)]) (st' := [.int 0]) (μ' := μ) (by rfl) ?_
    exact hr 0 56 _ _ _ (some (.int 0)) (by decide +kernel) (z_rx_ok hH (by rfl)) (⟨rfl, rfl⟩)
  · have h1 : (decide ((μ.1 0 7) = 2)) = true := decide_eq_true (cn_ne.mp h1)
    refine z_rcs hc hH 1 (pc' := 9) (lv' := [(0, .ref 0), (1, .int y)]) (st' := [.int y]) (μ' := μ) (by rfl) ?_
    refine zq_call hc (z_cx_ok hH (by rfl)) (hs d' (by omega)) (by decide +kernel) (fun r9 μ9 hq => ?_)
    obtain ⟨hμ9, rfl⟩ := hq
    rw [hμ9]
    clear hμ9 μ9
    show Z 0 12 [(0, .ref 0), (1, .int y)] [.int 0] μ
    refine z_rcs hc hH 2 (pc' := 56) (lv' := [(0, .ref 0), (1, .int y)]) (st' := [.int 0]) (μ' := μ) (by rfl) ?_
    exact hr 0 56 _ _ _ (some (.int 0)) (by decide +kernel) (z_rx_ok hH (by rfl)) (⟨rfl, rfl⟩)
theorem mr_hideH (d : Nat) (hd : 4 ≤ d) (μ : zM) (t k : Nat) (ht4 : t < 4) (ht : μ.1 50 45 = nI t) (hk : k < 34) (hmm : ∀ d, 2 ≤ d → z_C d mi_X7_mayMake [.ref 50] (z_ui μ 50 0 0) (zR (z_ui μ 50 0 0) (.int 1))) (h4 : decide (μ.1 60 (34 * t + k) = 4) = false) : z_C d mi_X7_hide [.ref 50, .int (nI k)] μ (fun r μ' => r = some (.int 0) ∧ μ' = z_ui μ 50 0 0) := by
  refine z_C_in (by decide) (by omega) (fun d' Z ed hc hr => ?_)
  have hH : zH mi_X7_hide zt_X7_hide 79 7 2 := hh_X7_hide
  refine z_rcs hc hH 2 (pc' := 2) (lv' := [(0, .ref 50), (1, .int (nI k))]) (st' := [.int 0, .ref 50]) (μ' := μ) (by rfl) ?_
  refine zq_pfi hc hH (by rfl) (ci := 6) (f := 0) (by rfl) (by decide +kernel) (by rfl) ?_
  show Z 0 5 [(0, .ref 50), (1, .int (nI k))] [] (z_ui μ 50 0 0)
  refine z_rcs hc hH 1 (pc' := 6) (lv' := [(0, .ref 50), (1, .int (nI k))]) (st' := [.ref 50]) (μ' := z_ui μ 50 0 0) (by rfl) ?_
  refine zq_call hc (z_cx_ok hH (by rfl)) (hmm d' (by omega)) (by decide +kernel) (fun r9 μ9 hq => ?_)
  obtain ⟨hμ9, rfl⟩ := hq
  rw [hμ9]
  clear hμ9 μ9
  show Z 0 9 [(0, .ref 50), (1, .int (nI k))] [.int 1] (z_ui μ 50 0 0)
  refine z_rcs hc hH 2 (pc' := 13) (lv' := [(0, .ref 50), (1, .int (nI k))]) (st' := [.int (nI k)]) (μ' := z_ui μ 50 0 0) (by rfl) ?_
  refine zq_call hc (z_cx_ok hH (by rfl)) (gm_isKindN d' (by omega) (z_ui μ 50 0 0) k hk) (by decide +kernel) (fun r9 μ9 hq => ?_)
  obtain ⟨hμ9, rfl⟩ := hq
  rw [hμ9]
  clear hμ9 μ9
  show Z 0 16 [(0, .ref 50), (1, .int (nI k))] [.int 1] (z_ui μ 50 0 0)
  refine z_rcs hc hH 3 (pc' := 21) (lv' := [(0, .ref 50), (1, .int (nI k))]) (st' := [.ref 50, .ref 50]) (μ' := z_ui μ 50 0 0) (by rfl) ?_
  refine zq_gfi hc hH (by rfl) (ci := 6) (f := 45) (by rfl) (by decide +kernel) (by rfl) ?_
  refine zV1 (Z := Z) (ui_k (by first | decide | omega)) ?_
  rw [ht]
  refine z_rcs hc hH 1 (pc' := 25) (lv' := [(0, .ref 50), (1, .int (nI k))]) (st' := [.int (nI k), .int (nI t), .ref 50]) (μ' := z_ui μ 50 0 0) (by rfl) ?_
  refine zq_call hc (z_cx_ok hH (by rfl)) (fc_X7_has_ d' (by omega) (z_ui μ 50 0 0) t k ht4 hk) (by decide +kernel) (fun r9 μ9 hq => ?_)
  obtain ⟨hμ9, rfl⟩ := hq
  rw [hμ9]
  clear hμ9 μ9
  rw [ui_o (by first | decide | omega)]
  show Z 0 28 [(0, .ref 50), (1, .int (nI k))] [.int (μ.1 60 (34 * t + k))] (z_ui μ 50 0 0)
  refine z_rcs hc hH 1 (pc' := 29) (lv' := [(0, .ref 50), (1, .int (nI k))]) (st' := [.int 4, .int (μ.1 60 (34 * t + k))]) (μ' := z_ui μ 50 0 0) (by rfl) ?_
  refine zq_ic hc hH (by rfl) (tg := 34) (by rfl) (fun h1 => ?_) (fun h1 => ?_)
  · have h1 : (decide ((μ.1 60 (34 * t + k)) = 4)) = true := decide_eq_true (cm_eq9.mp h1)
    exact absurd (Eq.trans (Eq.symm (h4)) h1) (by decide)
  · have h1 : (decide ((μ.1 60 (34 * t + k)) = 4)) = false := decide_eq_false (cn_eq.mp h1)
    refine z_rcs hc hH 1 (pc' := 33) (lv' := [(0, .ref 50), (1, .int (nI k))]) (st' := [.int 0]) (μ' := z_ui μ 50 0 0) (by rfl) ?_
    exact hr 0 33 _ _ _ (some (.int 0)) (by decide +kernel) (z_rx_ok hH (by rfl)) (⟨rfl, rfl⟩)
/-! hide answers alike -/
set_option maxRecDepth 8000
noncomputable abbrev xMM (μ : zM) (t : Nat) : Bool := (decide ((μ.1 0 7) = 1)) && (!(decide ((μ.1 0 15) = (-1))) && ((decide ((μ.1 (18 + 8 * t) 5) = 0)) && (!(decide ((xLf μ) ≤ 0)) && (!(decide (4 ≤ (μ.1 2 3)))))))
noncomputable abbrev mMM (μ : zM) (t : Nat) : Bool := (decide ((μ.1 50 44) = 1)) && ((decide ((μ.1 50 57) = 0)) && ((decide ((μ.1 67 t) = 0)) && (!(decide (((122 - (μ.1 50 47)) - (μ.1 50 46)) ≤ 0)) && (!(decide (4 ≤ (μ.1 50 47)))))))
theorem nI_m1n {c : Nat} (hc : c < 34) : decide (nI c = -1) = false := kn_m1 (by omega)
theorem mm_eq {x m : zM} {p t c : Nat} (R : RCl x m) (P : RPh x m p t c) : xMM x t = mMM m t := by
  unfold xMM mMM xLf
  rw [P.px, P.pm, R.sd, P.is, P.fo, R.nx, R.be t P.t4, P.cx]
  rcases P.p3 with e | e | e
  · rw [P.jc e]
    by_cases q : c = 34
    · rw [if_pos q, if_pos q]; rfl
    · rw [if_neg q, if_neg q, nI_m1n (by have := P.c3; omega)]; rfl
  · subst e; rfl
  · subst e; rfl
theorem turn_nI {m : zM} (h : a_H m) : ∃ t, t < 4 ∧ m.1 50 45 = nI t := by
  obtain ⟨a, h1, h2⟩ := i_nat (v := m.1 50 45) (n := 3) (h 50 45).1 (h 50 45).2 (by decide)
  exact ⟨a, by omega, h2⟩
theorem mMM_0 {m : zM} {t : Nat} {v : Int32} : mMM (z_ui m 50 0 v) t = mMM m t := by
  unfold mMM
  rw [ui_k (by decide), ui_k (by decide), ui_o (by decide), ui_k (by decide), ui_k (by decide)]
theorem mMM_e {m m' : zM} {t : Nat} (h : EqM m m') : mMM m' t = mMM m t := by
  have e : ∀ k, 40 ≤ k → k ≤ 59 → m'.1 50 k = m.1 50 k := fun k h1 h2 => (h 50 k (Or.inr ⟨rfl, h1, h2⟩)).1
  unfold mMM
  rw [e 44 (by decide) (by decide), e 57 (by decide) (by decide), e 47 (by decide) (by decide), e 46 (by decide) (by decide), (h 67 t (Or.inl ⟨by decide, by decide⟩)).1]
theorem rq_47 {x m : zM} {lb : Nat} (Q : RQ x m lb) (v : Int32) : RQ x (z_ui m 50 47 v) lb := ⟨(by rw [ui_k (by decide)]; exact Q.br), fun z s hs => by rw [ui_k (by decide)] at z; rw [ui_o (by decide)]; exact Q.us z s hs, Q.ow, (by rw [ui_k (by decide)]; exact Q.o1), (by rw [ui_k (by decide)]; exact Q.is), fun s hs => by rw [ui_o (by decide)]; exact Q.s1 s hs, (by rw [ui_k (by decide)]; exact Q.w0), DNm.cg (m := m) Q.dn (fun s _ => ui_o (by decide)) (ui_k (by decide)) (ui_k (by decide)) (ui_k (by decide)), fun z s hs => by rw [ui_k (by decide)] at z; rw [ui_o (by decide), ui_o (by decide)]; exact Q.dr z s hs, Q.tc.cg (fun _ _ _ _ => rfl) (fun i => ui_o (by decide)) (ui_k (by decide)) (ui_k (by decide))⟩
theorem rc_47 {x m : zM} (R : RCl x m) (v : Int32) : RCl x (z_ui m 50 47 v) := RCl.cg2 (x := x) (x' := x) (m := m) (m' := z_ui m 50 47 v) (q2_x _) (q2_mu (q2_m _) (by unfold gM2; omega)) R
/-- hide, done: both games behind it -/
theorem rg_hide {x m : zM} {t c k q n k2 : Nat} (R : RCl x m) (P : RPh x m 1 t c) (hk : k < 34) (hq : q ≤ 3) (e64 : m.1 64 t = nI q) (hm4 : ∀ j, j < 4 → (m.1 64 j).toNatClampNeg ≤ 4) (hn : n < 4) (e47 : m.1 50 47 = nI n) (e48 : m.1 50 48 = nI n) (hk2 : k2 < 34) (hw : m.1 59 (122 + n) = nI k2) (hnx : bI 0 122 (m.1 50 46)) (hh : ¬ (z_giv m t k (-4)).1 60 (34 * t + k2) = -1) : RG (dT1 (bkH (ldS x t 3 k q)) t n k2) (dM1 (z_ui (toM (z_lys (z_giv m t k (-4)) t q 3 (nI k))) 50 47 (m.1 50 47 + 1)) t n k2) := by
  have ht := P.t4
  have A := lay_hide (x := x) (m := m) (s := t) (c := k) (q := q) ht hk hq
  have R1 := rc_lay R A ht hq e64 (svd_n ⟨by decide, by decide⟩ (by decide) hk) hm4
  have R2 := rc_47 (rc_brk R1) (m.1 50 47 + 1)
  obtain ⟨Q, f1, f2⟩ := rq_hide P A (fun j hj => by
    rw [ct_n9 (by decide) hk hj]
    show (if j = k then (-4 : Int32) else 0) + _ = 0
    by_cases e : j = k
    · rw [if_pos e, if_pos e]; decide
    · rw [if_neg e, if_neg e]; decide)
  have Q2 := rq_47 Q (m.1 50 47 + 1)
  have g : ∀ r k', r ≠ 60 → r ≠ 62 → r ≠ 63 → r ≠ 64 → r ≠ 69 → (r ≠ 50 ∨ (k' ≠ 56 ∧ k' ≠ 47)) → (z_ui (toM (z_lys (z_giv m t k (-4)) t q 3 (nI k))) 50 47 (m.1 50 47 + 1)).1 r k' = m.1 r k' := fun r k' h1 h2 h3 h4 h5 h6 => by
    have z : (toM (z_lys (z_giv m t k (-4)) t q 3 (nI k))).1 r k' = m.1 r k' := by rw [toM_o ⟨h5, by omega⟩, lys_o ⟨h2, h3, h4⟩, giv_o h1]
    by_cases e : r = 50
    · rw [ui_k (by first | decide | omega)]; exact z
    · rw [ui_o e]; exact z
  refine ⟨rc_draw1 R2 ht hk2, Or.inr ⟨1, t, k2, rp_draw1 R2 Q2 ht hk2 ?_ hn ?_ ?_ ?_ (by rw [ui_o (by decide), toM_o ⟨by decide, Or.inl (by decide)⟩, lys_o ⟨by decide, by decide, by decide⟩]; exact hh)⟩⟩
  · rw [g 50 48 (by omega) (by omega) (by omega) (by omega) (by omega) (by omega)]; exact e48
  · rw [g 50 46 (by omega) (by omega) (by omega) (by omega) (by omega) (by omega)]; exact hnx
  · rw [g 59 _ (by omega) (by omega) (by omega) (by omega) (by omega) (by omega)]; exact hw
  · rw [ui_s, e47, nI_s1]
/-! hide answers alike: the call -/
set_option maxRecDepth 8000
theorem xk_mm {μ : zM} {t : Nat} (ht4 : t < 4) (ht : μ.1 0 8 = nI t) {b : Bool} (h : xMM μ t = b) : ∀ d, 3 ≤ d → z_C d mi_X6_mayMakeFour [.ref 0] μ (zR μ (.int (nB b))) := fun d hd => by
  rw [← h]; exact gc_mayMakeFour d hd μ t ht4 ht
theorem mk_mm {μ : zM} {t : Nat} (ht4 : t < 4) (ht : μ.1 50 45 = nI t) {b : Bool} (h : mMM μ t = b) : ∀ d, 2 ≤ d → z_C d mi_X7_mayMake [.ref 50] (z_ui μ 50 0 0) (zR (z_ui μ 50 0 0) (.int (nB b))) := fun d hd => by
  rw [← h, ← mMM_0 (m := μ) (v := 0)]
  exact gm_mayMake d hd (z_ui μ 50 0 0) t ht4 (by rw [ui_k (by decide)]; exact ht)
theorem isK_no {μ : zM} {x : Int32} (h : ¬ vp_in x 34) : ∀ d, 1 ≤ d → z_C d mi_X7_isKind [.int x] μ (zR μ (.int 0)) := fun d hd => z_C_mono (fc_X7_isKind d hd μ x) (fun r m z => ⟨z.1, by
  rcases z.2 with ⟨_, y⟩ | ⟨y, _⟩
  · exact absurd y h
  · exact y⟩)
theorem fr_no {μ : zM} {r : Nat} {x : Int32} (h : ¬ vp_in x 34) : fr μ r x = 0 := by
  unfold fr
  cases e : z_in x 34
  · rfl
  · exact absurd (z_in_iff.mp e) h
theorem fr_yes {μ : zM} {r k : Nat} (h : k < 34) : fr μ r (nI k) = μ.1 r k := by
  unfold fr
  rw [z_in_iff.mpr (vp_in_nI h (by decide)), cond_true, nI_clamp (by omega)]
theorem lg_hide {d : Nat} (hd : 705 ≤ d) {μ : zM} (h : LGm μ) (x : Int32) : z_C d mi_X6_hide [.ref 0, .int x] μ (fun r μ1 => LJ μ1 ∧ ∃ y, r = some (.int y) ∧ z_C d mi_X7_hide [.ref 50, .int x] μ1 (fun r2 μ2 => LGm μ2 ∧ r2 = some (.int y))) := by
  obtain ⟨hJ, hR⟩ := h
  have kx : z_C d mi_X6_hide [.ref 0, .int x] μ (fun _ μ' => LJ μ' ∧ EqM μ μ') := lg_k (i := 64) (K := ak_64) rfl (by omega) (by decide +kernel) (by decide +kernel) rfl (by decide +kernel) [.ref 0, .int x] μ hJ ⟨⟨0, by decide, rfl⟩, ⟨_, rfl, bI_top _⟩, trivial⟩
  have km : ∀ μ1, LJ μ1 → z_C d mi_X7_hide [.ref 50, .int x] μ1 (fun _ μ' => LJ μ' ∧ EqX μ1 μ') := fun μ1 h1 => lg_g h1 (fc_X7_hide d (by omega) μ1 x h1.1)
  have no : z_C d mi_X6_hide [.ref 0, .int x] μ (fun r μ' => r = some (.int 0) ∧ μ' = μ) → z_C d mi_X7_hide [.ref 50, .int x] μ (fun r μ' => r = some (.int 0) ∧ μ' = z_ui μ 50 0 0) → z_C d mi_X6_hide [.ref 0, .int x] μ (fun r μ1 => LJ μ1 ∧ ∃ y, r = some (.int y) ∧ z_C d mi_X7_hide [.ref 50, .int x] μ1 (fun r2 μ2 => LGm μ2 ∧ r2 = some (.int y))) := fun c1 c2 => z_C_mono (zC_and d kx c1) (fun r μ1 q => by
    obtain ⟨⟨q1, _⟩, q2, rfl⟩ := q
    exact ⟨q1, 0, q2, z_C_mono (zC_and d (km _ q1) c2) (fun r2 μ2 z => ⟨lg_no hR z.2.2 z.1.1, z.2.1⟩)⟩)
  have hA := hJ.1.1
  rcases hR.2 with ⟨p1, p2, p3, p4, p5⟩ | ⟨p, t, c, P⟩
  · obtain ⟨t, ht4, ht⟩ := turn_nI hA
    have e1 : xMM μ t = false := by unfold xMM; rw [p1]; rfl
    have e2 : mMM μ t = false := by unfold mMM; rw [p2]; rfl
    exact no (gx_hide d (by omega) μ x (xk_mm ht4 (p5.trans ht) e1)) (mr_hide d (by omega) μ x (mk_mm ht4 ht e2))
  · have R := hR.1
    have ht4 := P.t4
    have eq := mm_eq R P
    cases hm : mMM μ t with
    | false => exact no (gx_hide d (by omega) μ x (xk_mm ht4 P.tx (eq.trans hm))) (mr_hide d (by omega) μ x (mk_mm ht4 P.tm hm))
    | true =>
      have hx1 := xk_mm ht4 P.tx (eq.trans hm)
      have hm1 := mk_mm ht4 P.tm hm
      by_cases hv : vp_in x 34
      · obtain ⟨k, hk, rfl⟩ := vp_in_of hv (by decide)
        have hp0 : ¬ μ.1 50 44 = 0 := by rw [P.pm]; rcases P.p3 with q | q | q <;> (rw [q]; decide)
        have G := hJ.1.2.2 hp0
        obtain ⟨w, aw, q, sL, lL, H⟩ := hf_of R P hA G ht4
        have hwk := H.1.1 k hk
        by_cases h4 : w k = 4
        · have hp1 : p = 1 := by
            have z := hm
            unfold mMM at z
            have z := (z_and z).1
            have z := of_decide_eq_true z
            rw [P.pm] at z
            rcases P.p3 with q | q | q
            · exact q
            · rw [q] at z; exact absurd z (by decide)
            · rw [q] at z; exact absurd z (by decide)
          subst hp1
          obtain ⟨z1, z2⟩ := z_and hm
          obtain ⟨z3, z4⟩ := z_and z2
          obtain ⟨z5, z6⟩ := z_and z4
          obtain ⟨z7, z8⟩ := z_and z6
          obtain ⟨n, hn1, hn2⟩ := i_nat (v := μ.1 50 47) (n := 4) (hA 50 47).1 (hA 50 47).2 (by decide)
          have hn : n < 4 := by
            rcases Nat.lt_or_ge n 4 with y | y
            · exact y
            · exfalso
              have : n = 4 := by omega
              rw [hn2, this] at z8
              exact absurd z8 (by decide)
          have hq3 : q ≤ 3 := by
            have g1 := G.1.2 t ht4
            have g2 := G.1.le ht4 hk
            have g3 : glim μ t ≤ 14 := by unfold glim; split <;> decide
            have g4 : hI μ (34 * t + k) = 4 := by unfold hI; rw [hwk.1, h4]; decide
            have g5 : mI μ t = q := by unfold mI; rw [H.1.2.1]; exact nI_toInt (by have := H.1.2.2.1; omega)
            omega
          obtain ⟨k2, hk2a, hk2b⟩ := i_nat (v := μ.1 59 (122 + n)) (n := 33) (hA 59 _).1 (hA 59 _).2 (by decide)
          have hk2 : k2 < 34 := by omega
          have e48 : μ.1 50 48 = nI n := G.2.2.1.trans hn2
          have hz3 : k + zl 3 ≤ 33 := by rw [show zl 3 = 0 from by decide]; omega
          refine z_C_mono (zC_and d kx (gc_hide d (by omega) μ t ht4 P.tx k q hk hz3 hq3 H.2.2.2.1 n k2 (by omega) (P.fo.trans hn2) (R.sd.trans P.is) hk2 ((R.wl _ (by omega)).trans hk2b) true hx1)) (fun r μ1 qq => ?_)
          obtain ⟨⟨q1, qM⟩, q2, q3⟩ := qq
          have f4 : decide (4 ≤ fr μ (20 + 8 * t) (nI k)) = true := by rw [fr_yes hk, R.hd t k ht4 hk, hwk.1, h4]; decide
          rw [f4, cond_true, cond_true] at q2 q3
          refine ⟨q1, 1, q2, ?_⟩
          have E : ∀ r k', gMc r k' → μ1.1 r k' = μ.1 r k' := fun r k' g => (qM r k' g).1
          have R' := (hR.cg (eqX_rf _) qM).1
          have P' := P.cg (eqX_rf _) qM
          refine z_C_mono (zC_and d (km μ1 q1) (gm_hide d (by omega) μ1 t ht4 P'.tm k q n k2 hk (by omega) ((E 64 t (Or.inl ⟨by decide, by decide⟩)).trans H.1.2.1) (by omega) ((E 50 48 (Or.inr ⟨rfl, by decide, by decide⟩)).trans e48) hk2 ((E 59 _ (Or.inl ⟨by decide, by decide⟩)).trans hk2b) true (mk_mm ht4 P'.tm ((mMM_e qM).trans hm)))) (fun r2 μ2 z => ?_)
          obtain ⟨⟨y1, yX⟩, y2, y3⟩ := z
          have f5 : decide (μ1.1 60 (34 * t + k) = 4) = true := by rw [E 60 _ (Or.inl ⟨by decide, by decide⟩), hwk.1, h4]; decide
          rw [f5, cond_true, cond_true] at y2 y3
          refine ⟨⟨y1, ?_⟩, y2⟩
          have R0 := R'.cg (eqX_rf _) (t0_EqM μ1 0)
          have P0 := P'.cg (eqX_rf _) (t0_EqM μ1 0)
          have E0 : ∀ r k', gMc r k' → (z_ui μ1 50 0 0).1 r k' = μ.1 r k' := fun r k' g => ((t0_EqM μ1 0 r k' g).1).trans (E r k' g)
          have g := rg_hide (k := k) (q := q) (n := n) (k2 := k2) R0 P0 hk hq3 ((E0 64 t (Or.inl ⟨by decide, by decide⟩)).trans H.1.2.1) (fun j hj => by
            rw [E0 64 j (Or.inl ⟨by decide, by decide⟩)]
            obtain ⟨a, b1, b2⟩ := i_nat (v := μ.1 64 j) (n := 4) (hA 64 j).1 (hA 64 j).2 (by decide)
            rw [b2, nI_clamp (by omega)]; exact b1) hn ((E0 50 47 (Or.inr ⟨rfl, by decide, by decide⟩)).trans hn2) ((E0 50 48 (Or.inr ⟨rfl, by decide, by decide⟩)).trans e48) hk2 ((E0 59 _ (Or.inl ⟨by decide, by decide⟩)).trans hk2b) (by rw [E0 50 46 (Or.inr ⟨rfl, by decide, by decide⟩)]; exact hA 50 46) (by
            rw [giv_60, E0 60 _ (Or.inl ⟨by decide, by decide⟩), (H.1.1 k2 hk2).1]
            by_cases e : 34 * t + k2 = 34 * t + k
            · have e : k2 = k := by omega
              rw [if_pos (by omega), e, h4]; decide
            · rw [if_neg e]; exact of_decide_eq_false (kn_m1 (by have := (H.1.1 k2 hk2).2; omega)))
          rw [← q3, show (z_ui μ1 50 0 0).1 50 47 = μ1.1 50 47 from ui_k (by decide), ← y3] at g
          exact g.cg yX (eqM_rf _)
        · have ne4 : ∀ v : Nat, v ≤ 4 → v ≠ 4 → decide (4 ≤ nI v) = false ∧ decide (nI v = 4) = false := fun v h1 h2 => by
            obtain rfl | rfl | rfl | rfl : v = 0 ∨ v = 1 ∨ v = 2 ∨ v = 3 := by omega
            all_goals decide
          have z := ne4 (w k) hwk.2 h4
          exact no (gx_hideF d (by omega) μ (nI k) t ht4 P.tx hx1 (by rw [fr_yes hk, R.hd t k ht4 hk, hwk.1]; exact z.1)) (mr_hideH d (by omega) μ t k ht4 P.tm hk hm1 (by rw [hwk.1]; exact z.2))
      · exact no (gx_hideF d (by omega) μ x t ht4 P.tx hx1 (by rw [fr_no hv]; decide)) (mr_hideK d (by omega) μ x hm1 (isK_no hv))
/-! questions of the reference -/
set_option maxRecDepth 8000
theorem gm_hand (d : Nat) (hd : 3 ≤ d) (μ : zM) (s : Nat) (hs4 : s < 4) (k : Nat) (hk : k < 34) : z_C d mi_X7_hand [.ref 50, .int (nI s), .int (nI k)] μ (fun r μ' => r = some (.int (μ.1 60 (34 * s + k))) ∧ μ' = z_ui μ 50 0 0) := by
  refine z_C_in (by decide) (by omega) (fun d' Z ed hc hr => ?_)
  have hH : zH mi_X7_hand zt_X7_hand 79 7 3 := hh_X7_hand
  refine z_rcs hc hH 2 (pc' := 2) (lv' := [(0, .ref 50), (1, .int (nI s)), (2, .int (nI k))]) (st' := [.int 0, .ref 50]) (μ' := μ) (by rfl) ?_
  refine zq_pfi hc hH (by rfl) (ci := 6) (f := 0) (by rfl) (by decide +kernel) (by rfl) ?_
  show Z 0 5 [(0, .ref 50), (1, .int (nI s)), (2, .int (nI k))] [] (z_ui μ 50 0 0)
  refine z_rcs hc hH 1 (pc' := 6) (lv' := [(0, .ref 50), (1, .int (nI s)), (2, .int (nI k))]) (st' := [.int (nI s)]) (μ' := z_ui μ 50 0 0) (by rfl) ?_
  refine zq_call hc (z_cx_ok hH (by rfl)) (gm_isSeatN d' (by omega) (z_ui μ 50 0 0) s hs4) (by decide +kernel) (fun r9 μ9 hq => ?_)
  obtain ⟨hμ9, rfl⟩ := hq
  rw [hμ9]
  clear hμ9 μ9
  show Z 0 9 [(0, .ref 50), (1, .int (nI s)), (2, .int (nI k))] [.int 1] (z_ui μ 50 0 0)
  refine z_rcs hc hH 2 (pc' := 13) (lv' := [(0, .ref 50), (1, .int (nI s)), (2, .int (nI k))]) (st' := [.int (nI k)]) (μ' := z_ui μ 50 0 0) (by rfl) ?_
  refine zq_call hc (z_cx_ok hH (by rfl)) (gm_isKindN d' (by omega) (z_ui μ 50 0 0) k hk) (by decide +kernel) (fun r9 μ9 hq => ?_)
  obtain ⟨hμ9, rfl⟩ := hq
  rw [hμ9]
  clear hμ9 μ9
  show Z 0 16 [(0, .ref 50), (1, .int (nI s)), (2, .int (nI k))] [.int 1] (z_ui μ 50 0 0)
  refine z_rcs hc hH 4 (pc' := 22) (lv' := [(0, .ref 50), (1, .int (nI s)), (2, .int (nI k))]) (st' := [.int (nI k), .int (nI s), .ref 50]) (μ' := z_ui μ 50 0 0) (by rfl) ?_
  refine zq_call hc (z_cx_ok hH (by rfl)) (fc_X7_has_ d' (by omega) (z_ui μ 50 0 0) s k hs4 hk) (by decide +kernel) (fun r9 μ9 hq => ?_)
  obtain ⟨hμ9, rfl⟩ := hq
  rw [hμ9]
  clear hμ9 μ9
  rw [ui_o (by first | decide | omega)]
  show Z 0 25 [(0, .ref 50), (1, .int (nI s)), (2, .int (nI k))] [.int (μ.1 60 (34 * s + k))] (z_ui μ 50 0 0)
  refine z_rcs hc hH 1 (pc' := 29) (lv' := [(0, .ref 50), (1, .int (nI s)), (2, .int (nI k))]) (st' := [.int (μ.1 60 (34 * s + k))]) (μ' := z_ui μ 50 0 0) (by rfl) ?_
  exact hr 0 29 _ _ _ (some (.int (μ.1 60 (34 * s + k)))) (by decide +kernel) (z_rx_ok hH (by rfl)) (⟨rfl, rfl⟩)
theorem gm_handS (d : Nat) (hd : 3 ≤ d) (μ : zM) (y x : Int32) (hs : ∀ d, 1 ≤ d → z_C d mi_X7_isSeat [.int y] (z_ui μ 50 0 0) (zR (z_ui μ 50 0 0) (.int 0))) : z_C d mi_X7_hand [.ref 50, .int y, .int x] μ (fun r μ' => r = some (.int 0) ∧ μ' = z_ui μ 50 0 0) := by
  refine z_C_in (by decide) (by omega) (fun d' Z ed hc hr => ?_)
  have hH : zH mi_X7_hand zt_X7_hand 79 7 3 := hh_X7_hand
  refine z_rcs hc hH 2 (pc' := 2) (lv' := [(0, .ref 50), (1, .int y), (2, .int x)]) (st' := [.int 0, .ref 50]) (μ' := μ) (by rfl) ?_
  refine zq_pfi hc hH (by rfl) (ci := 6) (f := 0) (by rfl) (by decide +kernel) (by rfl) ?_
  show Z 0 5 [(0, .ref 50), (1, .int y), (2, .int x)] [] (z_ui μ 50 0 0)
  refine z_rcs hc hH 1 (pc' := 6) (lv' := [(0, .ref 50), (1, .int y), (2, .int x)]) (st' := [.int y]) (μ' := z_ui μ 50 0 0) (by rfl) ?_
  refine zq_call hc (z_cx_ok hH (by rfl)) (hs d' (by omega)) (by decide +kernel) (fun r9 μ9 hq => ?_)
  obtain ⟨hμ9, rfl⟩ := hq
  rw [hμ9]
  clear hμ9 μ9
  show Z 0 9 [(0, .ref 50), (1, .int y), (2, .int x)] [.int 0] (z_ui μ 50 0 0)
  refine z_rcs hc hH 2 (pc' := 29) (lv' := [(0, .ref 50), (1, .int y), (2, .int x)]) (st' := [.int 0]) (μ' := z_ui μ 50 0 0) (by rfl) ?_
  exact hr 0 29 _ _ _ (some (.int 0)) (by decide +kernel) (z_rx_ok hH (by rfl)) (⟨rfl, rfl⟩)
theorem gm_handK (d : Nat) (hd : 3 ≤ d) (μ : zM) (s : Nat) (hs4 : s < 4) (x : Int32) (hk : ∀ d, 1 ≤ d → z_C d mi_X7_isKind [.int x] (z_ui μ 50 0 0) (zR (z_ui μ 50 0 0) (.int 0))) : z_C d mi_X7_hand [.ref 50, .int (nI s), .int x] μ (fun r μ' => r = some (.int 0) ∧ μ' = z_ui μ 50 0 0) := by
  refine z_C_in (by decide) (by omega) (fun d' Z ed hc hr => ?_)
  have hH : zH mi_X7_hand zt_X7_hand 79 7 3 := hh_X7_hand
  refine z_rcs hc hH 2 (pc' := 2) (lv' := [(0, .ref 50), (1, .int (nI s)), (2, .int x)]) (st' := [.int 0, .ref 50]) (μ' := μ) (by rfl) ?_
  refine zq_pfi hc hH (by rfl) (ci := 6) (f := 0) (by rfl) (by decide +kernel) (by rfl) ?_
  show Z 0 5 [(0, .ref 50), (1, .int (nI s)), (2, .int x)] [] (z_ui μ 50 0 0)
  refine z_rcs hc hH 1 (pc' := 6) (lv' := [(0, .ref 50), (1, .int (nI s)), (2, .int x)]) (st' := [.int (nI s)]) (μ' := z_ui μ 50 0 0) (by rfl) ?_
  refine zq_call hc (z_cx_ok hH (by rfl)) (gm_isSeatN d' (by omega) (z_ui μ 50 0 0) s hs4) (by decide +kernel) (fun r9 μ9 hq => ?_)
  obtain ⟨hμ9, rfl⟩ := hq
  rw [hμ9]
  clear hμ9 μ9
  show Z 0 9 [(0, .ref 50), (1, .int (nI s)), (2, .int x)] [.int 1] (z_ui μ 50 0 0)
  refine z_rcs hc hH 2 (pc' := 13) (lv' := [(0, .ref 50), (1, .int (nI s)), (2, .int x)]) (st' := [.int x]) (μ' := z_ui μ 50 0 0) (by rfl) ?_
  refine zq_call hc (z_cx_ok hH (by rfl)) (hk d' (by omega)) (by decide +kernel) (fun r9 μ9 hq => ?_)
  obtain ⟨hμ9, rfl⟩ := hq
  rw [hμ9]
  clear hμ9 μ9
  show Z 0 16 [(0, .ref 50), (1, .int (nI s)), (2, .int x)] [.int 0] (z_ui μ 50 0 0)
  refine z_rcs hc hH 2 (pc' := 29) (lv' := [(0, .ref 50), (1, .int (nI s)), (2, .int x)]) (st' := [.int 0]) (μ' := z_ui μ 50 0 0) (by rfl) ?_
  exact hr 0 29 _ _ _ (some (.int 0)) (by decide +kernel) (z_rx_ok hH (by rfl)) (⟨rfl, rfl⟩)
theorem gm_seat0 (d : Nat) (hd : 4 ≤ d) (μ : zM) (s : Nat) (hs4 : s < 4) : z_C d mi_X7_seat [.ref 50, .int (nI s), .int 0] μ (fun r μ' => r = some (.int (μ.1 61 s)) ∧ μ' = z_ui μ 50 0 0) := by
  refine z_C_in (by decide) (by omega) (fun d' Z ed hc hr => ?_)
  have hH : zH mi_X7_seat zt_X7_seat 79 7 3 := hh_X7_seat
  refine z_rcs hc hH 2 (pc' := 2) (lv' := [(0, .ref 50), (1, .int (nI s)), (2, .int 0)]) (st' := [.int 0, .ref 50]) (μ' := μ) (by rfl) ?_
  refine zq_pfi hc hH (by rfl) (ci := 6) (f := 0) (by rfl) (by decide +kernel) (by rfl) ?_
  show Z 0 5 [(0, .ref 50), (1, .int (nI s)), (2, .int 0)] [] (z_ui μ 50 0 0)
  refine z_rcs hc hH 1 (pc' := 6) (lv' := [(0, .ref 50), (1, .int (nI s)), (2, .int 0)]) (st' := [.int (nI s)]) (μ' := z_ui μ 50 0 0) (by rfl) ?_
  refine zq_call hc (z_cx_ok hH (by rfl)) (gm_isSeatN d' (by omega) (z_ui μ 50 0 0) s hs4) (by decide +kernel) (fun r9 μ9 hq => ?_)
  obtain ⟨hμ9, rfl⟩ := hq
  rw [hμ9]
  clear hμ9 μ9
  show Z 0 9 [(0, .ref 50), (1, .int (nI s)), (2, .int 0)] [.int 1] (z_ui μ 50 0 0)
  refine z_rcs hc hH 4 (pc' := 61) (lv' := [(0, .ref 50), (1, .int (nI s)), (2, .int 0)]) (st' := [.ref 50]) (μ' := z_ui μ 50 0 0) (by rfl) ?_
  refine zq_gfr hc hH (by rfl) (ci := 6) (f := 29) (q := 61) (by rfl) (by decide +kernel) (by rfl) (by decide +kernel) ?_
  refine z_rcs hc hH 1 (pc' := 65) (lv' := [(0, .ref 50), (1, .int (nI s)), (2, .int 0)]) (st' := [.int (nI s), .ref 61]) (μ' := z_ui μ 50 0 0) (by rfl) ?_
  refine zq_iald hc hH (by rfl) 4 (oka_i (by decide +kernel)) (vp_in_nI (by omega) (by decide)) ?_
  rw [nI_clamp (by omega)]
  refine zV1 (Z := Z) (ui_o (by first | decide | omega)) ?_
  exact hr 0 66 _ _ _ (some (.int (μ.1 61 s))) (by decide +kernel) (z_rx_ok hH (by rfl)) (⟨rfl, rfl⟩)
theorem gm_seat1 (d : Nat) (hd : 4 ≤ d) (μ : zM) (s : Nat) (hs4 : s < 4) : z_C d mi_X7_seat [.ref 50, .int (nI s), .int 1] μ (fun r μ' => r = some (.int (μ.1 67 s)) ∧ μ' = z_ui μ 50 0 0) := by
  refine z_C_in (by decide) (by omega) (fun d' Z ed hc hr => ?_)
  have hH : zH mi_X7_seat zt_X7_seat 79 7 3 := hh_X7_seat
  refine z_rcs hc hH 2 (pc' := 2) (lv' := [(0, .ref 50), (1, .int (nI s)), (2, .int 1)]) (st' := [.int 0, .ref 50]) (μ' := μ) (by rfl) ?_
  refine zq_pfi hc hH (by rfl) (ci := 6) (f := 0) (by rfl) (by decide +kernel) (by rfl) ?_
  show Z 0 5 [(0, .ref 50), (1, .int (nI s)), (2, .int 1)] [] (z_ui μ 50 0 0)
  refine z_rcs hc hH 1 (pc' := 6) (lv' := [(0, .ref 50), (1, .int (nI s)), (2, .int 1)]) (st' := [.int (nI s)]) (μ' := z_ui μ 50 0 0) (by rfl) ?_
  refine zq_call hc (z_cx_ok hH (by rfl)) (gm_isSeatN d' (by omega) (z_ui μ 50 0 0) s hs4) (by decide +kernel) (fun r9 μ9 hq => ?_)
  obtain ⟨hμ9, rfl⟩ := hq
  rw [hμ9]
  clear hμ9 μ9
  show Z 0 9 [(0, .ref 50), (1, .int (nI s)), (2, .int 1)] [.int 1] (z_ui μ 50 0 0)
  refine z_rcs hc hH 4 (pc' := 68) (lv' := [(0, .ref 50), (1, .int (nI s)), (2, .int 1)]) (st' := [.ref 50]) (μ' := z_ui μ 50 0 0) (by rfl) ?_
  refine zq_gfr hc hH (by rfl) (ci := 6) (f := 35) (q := 67) (by rfl) (by decide +kernel) (by rfl) (by decide +kernel) ?_
  refine z_rcs hc hH 1 (pc' := 72) (lv' := [(0, .ref 50), (1, .int (nI s)), (2, .int 1)]) (st' := [.int (nI s), .ref 67]) (μ' := z_ui μ 50 0 0) (by rfl) ?_
  refine zq_iald hc hH (by rfl) 4 (oka_i (by decide +kernel)) (vp_in_nI (by omega) (by decide)) ?_
  rw [nI_clamp (by omega)]
  refine zV1 (Z := Z) (ui_o (by first | decide | omega)) ?_
  exact hr 0 73 _ _ _ (some (.int (μ.1 67 s))) (by decide +kernel) (z_rx_ok hH (by rfl)) (⟨rfl, rfl⟩)
theorem gm_seat2 (d : Nat) (hd : 4 ≤ d) (μ : zM) (s : Nat) (hs4 : s < 4) : z_C d mi_X7_seat [.ref 50, .int (nI s), .int 2] μ (fun r μ' => r = some ((bif decide ((μ.1 70 s) = 0) then .int 0 else .int 1)) ∧ μ' = z_ui μ 50 0 0) := by
  refine z_C_in (by decide) (by omega) (fun d' Z ed hc hr => ?_)
  have hH : zH mi_X7_seat zt_X7_seat 79 7 3 := hh_X7_seat
  refine z_rcs hc hH 2 (pc' := 2) (lv' := [(0, .ref 50), (1, .int (nI s)), (2, .int 2)]) (st' := [.int 0, .ref 50]) (μ' := μ) (by rfl) ?_
  refine zq_pfi hc hH (by rfl) (ci := 6) (f := 0) (by rfl) (by decide +kernel) (by rfl) ?_
  show Z 0 5 [(0, .ref 50), (1, .int (nI s)), (2, .int 2)] [] (z_ui μ 50 0 0)
  refine z_rcs hc hH 1 (pc' := 6) (lv' := [(0, .ref 50), (1, .int (nI s)), (2, .int 2)]) (st' := [.int (nI s)]) (μ' := z_ui μ 50 0 0) (by rfl) ?_
  refine zq_call hc (z_cx_ok hH (by rfl)) (gm_isSeatN d' (by omega) (z_ui μ 50 0 0) s hs4) (by decide +kernel) (fun r9 μ9 hq => ?_)
  obtain ⟨hμ9, rfl⟩ := hq
  rw [hμ9]
  clear hμ9 μ9
  show Z 0 9 [(0, .ref 50), (1, .int (nI s)), (2, .int 2)] [.int 1] (z_ui μ 50 0 0)
  refine z_rcs hc hH 4 (pc' := 75) (lv' := [(0, .ref 50), (1, .int (nI s)), (2, .int 2)]) (st' := [.ref 50]) (μ' := z_ui μ 50 0 0) (by rfl) ?_
  refine zq_gfr hc hH (by rfl) (ci := 6) (f := 38) (q := 70) (by rfl) (by decide +kernel) (by rfl) (by decide +kernel) ?_
  refine z_rcs hc hH 1 (pc' := 79) (lv' := [(0, .ref 50), (1, .int (nI s)), (2, .int 2)]) (st' := [.int (nI s), .ref 70]) (μ' := z_ui μ 50 0 0) (by rfl) ?_
  refine zq_bald hc hH (by rfl) 4 (by decide +kernel) (vp_in_nI (by omega) (by decide)) ?_
  rw [nI_clamp (by omega)]
  refine zV1 (Z := Z) (ui_o (by first | decide | omega)) ?_
  refine zq_if hc hH (by rfl) (tg := 87) (by rfl) (fun h1 => ?_) (fun h1 => ?_)
  · have h1 : (decide ((μ.1 70 s) = 0)) = true := decide_eq_true (cm_eq9.mp h1)
    refine z_rcs hc hH 1 (pc' := 88) (lv' := [(0, .ref 50), (1, .int (nI s)), (2, .int 2)]) (st' := [.int 0]) (μ' := z_ui μ 50 0 0) (by rfl) ?_
    exact hr 0 88 _ _ _ (some (.int 0)) (by decide +kernel) (z_rx_ok hH (by rfl)) (⟨(by first | with_reducible rfl | (simp only [h1, cond_true, cond_false]; done) | rfl), (by simp only [h1, cond_true, cond_false])⟩)
  · have h1 : (decide ((μ.1 70 s) = 0)) = false := decide_eq_false (cn_eq.mp h1)
    refine z_rcs hc hH 2 (pc' := 88) (lv' := [(0, .ref 50), (1, .int (nI s)), (2, .int 2)]) (st' := [.int 1]) (μ' := z_ui μ 50 0 0) (by rfl) ?_
    exact hr 0 88 _ _ _ (some (.int 1)) (by decide +kernel) (z_rx_ok hH (by rfl)) (⟨(by first | with_reducible rfl | (simp only [h1, cond_true, cond_false]; done) | rfl), (by simp only [h1, cond_true, cond_false])⟩)
theorem gm_seat3 (d : Nat) (hd : 4 ≤ d) (μ : zM) (s : Nat) (hs4 : s < 4) : z_C d mi_X7_seat [.ref 50, .int (nI s), .int 3] μ (fun r μ' => r = some (.int (wdM (μ.1 50 40) (nI s))) ∧ μ' = z_ui μ 50 0 0) := by
  refine z_C_in (by decide) (by omega) (fun d' Z ed hc hr => ?_)
  have hH : zH mi_X7_seat zt_X7_seat 79 7 3 := hh_X7_seat
  refine z_rcs hc hH 2 (pc' := 2) (lv' := [(0, .ref 50), (1, .int (nI s)), (2, .int 3)]) (st' := [.int 0, .ref 50]) (μ' := μ) (by rfl) ?_
  refine zq_pfi hc hH (by rfl) (ci := 6) (f := 0) (by rfl) (by decide +kernel) (by rfl) ?_
  show Z 0 5 [(0, .ref 50), (1, .int (nI s)), (2, .int 3)] [] (z_ui μ 50 0 0)
  refine z_rcs hc hH 1 (pc' := 6) (lv' := [(0, .ref 50), (1, .int (nI s)), (2, .int 3)]) (st' := [.int (nI s)]) (μ' := z_ui μ 50 0 0) (by rfl) ?_
  refine zq_call hc (z_cx_ok hH (by rfl)) (gm_isSeatN d' (by omega) (z_ui μ 50 0 0) s hs4) (by decide +kernel) (fun r9 μ9 hq => ?_)
  obtain ⟨hμ9, rfl⟩ := hq
  rw [hμ9]
  clear hμ9 μ9
  show Z 0 9 [(0, .ref 50), (1, .int (nI s)), (2, .int 3)] [.int 1] (z_ui μ 50 0 0)
  refine z_rcs hc hH 5 (pc' := 91) (lv' := [(0, .ref 50), (1, .int (nI s)), (2, .int 3)]) (st' := [.int (nI s), .ref 50]) (μ' := z_ui μ 50 0 0) (by rfl) ?_
  refine zq_call hc (z_cx_ok hH (by rfl)) (fx_wind d' (by omega) (z_ui μ 50 0 0) (μ.1 50 40) (nI s) (by rw [ui_k (by first | decide | omega)])) (by decide +kernel) (fun r9 μ9 hq => ?_)
  obtain ⟨hμ9, rfl⟩ := hq
  rw [hμ9]
  clear hμ9 μ9
  show Z 0 94 [(0, .ref 50), (1, .int (nI s)), (2, .int 3)] [.int (wdM (μ.1 50 40) (nI s))] (z_ui μ 50 0 0)
  exact hr 0 94 _ _ _ (some (.int (wdM (μ.1 50 40) (nI s)))) (by decide +kernel) (z_rx_ok hH (by rfl)) (⟨rfl, rfl⟩)
theorem gm_seat4 (d : Nat) (hd : 4 ≤ d) (μ : zM) (s : Nat) (hs4 : s < 4) : z_C d mi_X7_seat [.ref 50, .int (nI s), .int 4] μ (fun r μ' => r = some (.int (μ.1 66 s)) ∧ μ' = z_ui μ 50 0 0) := by
  refine z_C_in (by decide) (by omega) (fun d' Z ed hc hr => ?_)
  have hH : zH mi_X7_seat zt_X7_seat 79 7 3 := hh_X7_seat
  refine z_rcs hc hH 2 (pc' := 2) (lv' := [(0, .ref 50), (1, .int (nI s)), (2, .int 4)]) (st' := [.int 0, .ref 50]) (μ' := μ) (by rfl) ?_
  refine zq_pfi hc hH (by rfl) (ci := 6) (f := 0) (by rfl) (by decide +kernel) (by rfl) ?_
  show Z 0 5 [(0, .ref 50), (1, .int (nI s)), (2, .int 4)] [] (z_ui μ 50 0 0)
  refine z_rcs hc hH 1 (pc' := 6) (lv' := [(0, .ref 50), (1, .int (nI s)), (2, .int 4)]) (st' := [.int (nI s)]) (μ' := z_ui μ 50 0 0) (by rfl) ?_
  refine zq_call hc (z_cx_ok hH (by rfl)) (gm_isSeatN d' (by omega) (z_ui μ 50 0 0) s hs4) (by decide +kernel) (fun r9 μ9 hq => ?_)
  obtain ⟨hμ9, rfl⟩ := hq
  rw [hμ9]
  clear hμ9 μ9
  show Z 0 9 [(0, .ref 50), (1, .int (nI s)), (2, .int 4)] [.int 1] (z_ui μ 50 0 0)
  refine z_rcs hc hH 4 (pc' := 96) (lv' := [(0, .ref 50), (1, .int (nI s)), (2, .int 4)]) (st' := [.ref 50]) (μ' := z_ui μ 50 0 0) (by rfl) ?_
  refine zq_gfr hc hH (by rfl) (ci := 6) (f := 34) (q := 66) (by rfl) (by decide +kernel) (by rfl) (by decide +kernel) ?_
  refine z_rcs hc hH 1 (pc' := 100) (lv' := [(0, .ref 50), (1, .int (nI s)), (2, .int 4)]) (st' := [.int (nI s), .ref 66]) (μ' := z_ui μ 50 0 0) (by rfl) ?_
  refine zq_iald hc hH (by rfl) 4 (oka_i (by decide +kernel)) (vp_in_nI (by omega) (by decide)) ?_
  rw [nI_clamp (by omega)]
  refine zV1 (Z := Z) (ui_o (by first | decide | omega)) ?_
  exact hr 0 101 _ _ _ (some (.int (μ.1 66 s))) (by decide +kernel) (z_rx_ok hH (by rfl)) (⟨rfl, rfl⟩)
theorem gm_seat5 (d : Nat) (hd : 4 ≤ d) (μ : zM) (s : Nat) (hs4 : s < 4) : z_C d mi_X7_seat [.ref 50, .int (nI s), .int 5] μ (fun r μ' => r = some (.int (μ.1 64 s)) ∧ μ' = z_ui μ 50 0 0) := by
  refine z_C_in (by decide) (by omega) (fun d' Z ed hc hr => ?_)
  have hH : zH mi_X7_seat zt_X7_seat 79 7 3 := hh_X7_seat
  refine z_rcs hc hH 2 (pc' := 2) (lv' := [(0, .ref 50), (1, .int (nI s)), (2, .int 5)]) (st' := [.int 0, .ref 50]) (μ' := μ) (by rfl) ?_
  refine zq_pfi hc hH (by rfl) (ci := 6) (f := 0) (by rfl) (by decide +kernel) (by rfl) ?_
  show Z 0 5 [(0, .ref 50), (1, .int (nI s)), (2, .int 5)] [] (z_ui μ 50 0 0)
  refine z_rcs hc hH 1 (pc' := 6) (lv' := [(0, .ref 50), (1, .int (nI s)), (2, .int 5)]) (st' := [.int (nI s)]) (μ' := z_ui μ 50 0 0) (by rfl) ?_
  refine zq_call hc (z_cx_ok hH (by rfl)) (gm_isSeatN d' (by omega) (z_ui μ 50 0 0) s hs4) (by decide +kernel) (fun r9 μ9 hq => ?_)
  obtain ⟨hμ9, rfl⟩ := hq
  rw [hμ9]
  clear hμ9 μ9
  show Z 0 9 [(0, .ref 50), (1, .int (nI s)), (2, .int 5)] [.int 1] (z_ui μ 50 0 0)
  refine z_rcs hc hH 4 (pc' := 103) (lv' := [(0, .ref 50), (1, .int (nI s)), (2, .int 5)]) (st' := [.ref 50]) (μ' := z_ui μ 50 0 0) (by rfl) ?_
  refine zq_gfr hc hH (by rfl) (ci := 6) (f := 32) (q := 64) (by rfl) (by decide +kernel) (by rfl) (by decide +kernel) ?_
  refine z_rcs hc hH 1 (pc' := 107) (lv' := [(0, .ref 50), (1, .int (nI s)), (2, .int 5)]) (st' := [.int (nI s), .ref 64]) (μ' := z_ui μ 50 0 0) (by rfl) ?_
  refine zq_iald hc hH (by rfl) 4 (oka_i (by decide +kernel)) (vp_in_nI (by omega) (by decide)) ?_
  rw [nI_clamp (by omega)]
  refine zV1 (Z := Z) (ui_o (by first | decide | omega)) ?_
  exact hr 0 108 _ _ _ (some (.int (μ.1 64 s))) (by decide +kernel) (z_rx_ok hH (by rfl)) (⟨rfl, rfl⟩)
theorem gm_seat6 (d : Nat) (hd : 4 ≤ d) (μ : zM) (s : Nat) (hs4 : s < 4) (op : Bool) (hop : ∀ d, 1 ≤ d → z_C d mi_X7_isOpen_ [.ref 50, .int (nI s)] (z_ui μ 50 0 0) (zR (z_ui μ 50 0 0) (.int (nB op)))) : z_C d mi_X7_seat [.ref 50, .int (nI s), .int 6] μ (fun r μ' => r = some ((bif op then .int 1 else .int 0)) ∧ μ' = z_ui μ 50 0 0) := by
  refine z_C_in (by decide) (by omega) (fun d' Z ed hc hr => ?_)
  have hH : zH mi_X7_seat zt_X7_seat 79 7 3 := hh_X7_seat
  refine z_rcs hc hH 2 (pc' := 2) (lv' := [(0, .ref 50), (1, .int (nI s)), (2, .int 6)]) (st' := [.int 0, .ref 50]) (μ' := μ) (by rfl) ?_
  refine zq_pfi hc hH (by rfl) (ci := 6) (f := 0) (by rfl) (by decide +kernel) (by rfl) ?_
  show Z 0 5 [(0, .ref 50), (1, .int (nI s)), (2, .int 6)] [] (z_ui μ 50 0 0)
  refine z_rcs hc hH 1 (pc' := 6) (lv' := [(0, .ref 50), (1, .int (nI s)), (2, .int 6)]) (st' := [.int (nI s)]) (μ' := z_ui μ 50 0 0) (by rfl) ?_
  refine zq_call hc (z_cx_ok hH (by rfl)) (gm_isSeatN d' (by omega) (z_ui μ 50 0 0) s hs4) (by decide +kernel) (fun r9 μ9 hq => ?_)
  obtain ⟨hμ9, rfl⟩ := hq
  rw [hμ9]
  clear hμ9 μ9
  show Z 0 9 [(0, .ref 50), (1, .int (nI s)), (2, .int 6)] [.int 1] (z_ui μ 50 0 0)
  refine z_rcs hc hH 5 (pc' := 111) (lv' := [(0, .ref 50), (1, .int (nI s)), (2, .int 6)]) (st' := [.int (nI s), .ref 50]) (μ' := z_ui μ 50 0 0) (by rfl) ?_
  refine zq_call hc (z_cx_ok hH (by rfl)) (hop d' (by omega)) (by decide +kernel) (fun r9 μ9 hq => ?_)
  obtain ⟨hμ9, rfl⟩ := hq
  rw [hμ9]
  clear hμ9 μ9
  show Z 0 114 [(0, .ref 50), (1, .int (nI s)), (2, .int 6)] [.int (nB op)] (z_ui μ 50 0 0)
  refine zq_if hc hH (by rfl) (tg := 121) (by rfl) (fun h1 => ?_) (fun h1 => ?_)
  · have h1 : (op) = false := nB_z.mp (cm_eq9.mp h1)
    refine z_rcs hc hH 1 (pc' := 122) (lv' := [(0, .ref 50), (1, .int (nI s)), (2, .int 6)]) (st' := [.int 0]) (μ' := z_ui μ 50 0 0) (by rfl) ?_
    exact hr 0 122 _ _ _ (some (.int 0)) (by decide +kernel) (z_rx_ok hH (by rfl)) (⟨(by first | with_reducible rfl | (simp only [h1, cond_true, cond_false]; done) | rfl), (by simp only [h1, cond_true, cond_false])⟩)
  · have h1 : (op) = true := nB_n.mp (cn_eq.mp h1)
    refine z_rcs hc hH 2 (pc' := 122) (lv' := [(0, .ref 50), (1, .int (nI s)), (2, .int 6)]) (st' := [.int 1]) (μ' := z_ui μ 50 0 0) (by rfl) ?_
    exact hr 0 122 _ _ _ (some (.int 1)) (by decide +kernel) (z_rx_ok hH (by rfl)) (⟨(by first | with_reducible rfl | (simp only [h1, cond_true, cond_false]; done) | rfl), (by simp only [h1, cond_true, cond_false])⟩)
theorem gm_seat7 (d : Nat) (hd : 4 ≤ d) (μ : zM) (s : Nat) (hs4 : s < 4) : z_C d mi_X7_seat [.ref 50, .int (nI s), .int 7] μ (fun r μ' => r = some ((bif decide ((μ.1 71 s) = 0) then .int 0 else .int 1)) ∧ μ' = z_ui μ 50 0 0) := by
  refine z_C_in (by decide) (by omega) (fun d' Z ed hc hr => ?_)
  have hH : zH mi_X7_seat zt_X7_seat 79 7 3 := hh_X7_seat
  refine z_rcs hc hH 2 (pc' := 2) (lv' := [(0, .ref 50), (1, .int (nI s)), (2, .int 7)]) (st' := [.int 0, .ref 50]) (μ' := μ) (by rfl) ?_
  refine zq_pfi hc hH (by rfl) (ci := 6) (f := 0) (by rfl) (by decide +kernel) (by rfl) ?_
  show Z 0 5 [(0, .ref 50), (1, .int (nI s)), (2, .int 7)] [] (z_ui μ 50 0 0)
  refine z_rcs hc hH 1 (pc' := 6) (lv' := [(0, .ref 50), (1, .int (nI s)), (2, .int 7)]) (st' := [.int (nI s)]) (μ' := z_ui μ 50 0 0) (by rfl) ?_
  refine zq_call hc (z_cx_ok hH (by rfl)) (gm_isSeatN d' (by omega) (z_ui μ 50 0 0) s hs4) (by decide +kernel) (fun r9 μ9 hq => ?_)
  obtain ⟨hμ9, rfl⟩ := hq
  rw [hμ9]
  clear hμ9 μ9
  show Z 0 9 [(0, .ref 50), (1, .int (nI s)), (2, .int 7)] [.int 1] (z_ui μ 50 0 0)
  refine z_rcs hc hH 4 (pc' := 124) (lv' := [(0, .ref 50), (1, .int (nI s)), (2, .int 7)]) (st' := [.ref 50]) (μ' := z_ui μ 50 0 0) (by rfl) ?_
  refine zq_gfr hc hH (by rfl) (ci := 6) (f := 39) (q := 71) (by rfl) (by decide +kernel) (by rfl) (by decide +kernel) ?_
  refine z_rcs hc hH 1 (pc' := 128) (lv' := [(0, .ref 50), (1, .int (nI s)), (2, .int 7)]) (st' := [.int (nI s), .ref 71]) (μ' := z_ui μ 50 0 0) (by rfl) ?_
  refine zq_bald hc hH (by rfl) 4 (by decide +kernel) (vp_in_nI (by omega) (by decide)) ?_
  rw [nI_clamp (by omega)]
  refine zV1 (Z := Z) (ui_o (by first | decide | omega)) ?_
  refine zq_if hc hH (by rfl) (tg := 136) (by rfl) (fun h1 => ?_) (fun h1 => ?_)
  · have h1 : (decide ((μ.1 71 s) = 0)) = true := decide_eq_true (cm_eq9.mp h1)
    refine z_rcs hc hH 1 (pc' := 137) (lv' := [(0, .ref 50), (1, .int (nI s)), (2, .int 7)]) (st' := [.int 0]) (μ' := z_ui μ 50 0 0) (by rfl) ?_
    exact hr 0 137 _ _ _ (some (.int 0)) (by decide +kernel) (z_rx_ok hH (by rfl)) (⟨(by first | with_reducible rfl | (simp only [h1, cond_true, cond_false]; done) | rfl), (by simp only [h1, cond_true, cond_false])⟩)
  · have h1 : (decide ((μ.1 71 s) = 0)) = false := decide_eq_false (cn_eq.mp h1)
    refine z_rcs hc hH 2 (pc' := 137) (lv' := [(0, .ref 50), (1, .int (nI s)), (2, .int 7)]) (st' := [.int 1]) (μ' := z_ui μ 50 0 0) (by rfl) ?_
    exact hr 0 137 _ _ _ (some (.int 1)) (by decide +kernel) (z_rx_ok hH (by rfl)) (⟨(by first | with_reducible rfl | (simp only [h1, cond_true, cond_false]; done) | rfl), (by simp only [h1, cond_true, cond_false])⟩)
theorem gm_seatd (d : Nat) (hd : 4 ≤ d) (μ : zM) (s : Nat) (hs4 : s < 4) (x : Int32) (hx : (decide (x.toInt < 0) || decide (7 < x.toInt)) = true) : z_C d mi_X7_seat [.ref 50, .int (nI s), .int x] μ (fun r μ' => r = some (.int (-1)) ∧ μ' = z_ui μ 50 0 0) := by
  refine z_C_in (by decide) (by omega) (fun d' Z ed hc hr => ?_)
  have hH : zH mi_X7_seat zt_X7_seat 79 7 3 := hh_X7_seat
  refine z_rcs hc hH 2 (pc' := 2) (lv' := [(0, .ref 50), (1, .int (nI s)), (2, .int x)]) (st' := [.int 0, .ref 50]) (μ' := μ) (by rfl) ?_
  refine zq_pfi hc hH (by rfl) (ci := 6) (f := 0) (by rfl) (by decide +kernel) (by rfl) ?_
  show Z 0 5 [(0, .ref 50), (1, .int (nI s)), (2, .int x)] [] (z_ui μ 50 0 0)
  refine z_rcs hc hH 1 (pc' := 6) (lv' := [(0, .ref 50), (1, .int (nI s)), (2, .int x)]) (st' := [.int (nI s)]) (μ' := z_ui μ 50 0 0) (by rfl) ?_
  refine zq_call hc (z_cx_ok hH (by rfl)) (gm_isSeatN d' (by omega) (z_ui μ 50 0 0) s hs4) (by decide +kernel) (fun r9 μ9 hq => ?_)
  obtain ⟨hμ9, rfl⟩ := hq
  rw [hμ9]
  clear hμ9 μ9
  show Z 0 9 [(0, .ref 50), (1, .int (nI s)), (2, .int x)] [.int 1] (z_ui μ 50 0 0)
  refine z_rcs hc hH 2 (pc' := 15) (lv' := [(0, .ref 50), (1, .int (nI s)), (2, .int x)]) (st' := [.int x]) (μ' := z_ui μ 50 0 0) (by rfl) ?_
  refine zq_tsd hc hH (by rfl) (tg := 138) (by rfl) hx ?_
  refine z_rcs hc hH 1 (pc' := 139) (lv' := [(0, .ref 50), (1, .int (nI s)), (2, .int x)]) (st' := [.int (-1)]) (μ' := z_ui μ 50 0 0) (by rfl) ?_
  exact hr 0 139 _ _ _ (some (.int (-1))) (by decide +kernel) (z_rx_ok hH (by rfl)) (⟨rfl, rfl⟩)
theorem gm_seatS (d : Nat) (hd : 4 ≤ d) (μ : zM) (y x : Int32) (hs : ∀ d, 1 ≤ d → z_C d mi_X7_isSeat [.int y] (z_ui μ 50 0 0) (zR (z_ui μ 50 0 0) (.int 0))) : z_C d mi_X7_seat [.ref 50, .int y, .int x] μ (fun r μ' => r = some (.int (-1)) ∧ μ' = z_ui μ 50 0 0) := by
  refine z_C_in (by decide) (by omega) (fun d' Z ed hc hr => ?_)
  have hH : zH mi_X7_seat zt_X7_seat 79 7 3 := hh_X7_seat
  refine z_rcs hc hH 2 (pc' := 2) (lv' := [(0, .ref 50), (1, .int y), (2, .int x)]) (st' := [.int 0, .ref 50]) (μ' := μ) (by rfl) ?_
  refine zq_pfi hc hH (by rfl) (ci := 6) (f := 0) (by rfl) (by decide +kernel) (by rfl) ?_
  show Z 0 5 [(0, .ref 50), (1, .int y), (2, .int x)] [] (z_ui μ 50 0 0)
  refine z_rcs hc hH 1 (pc' := 6) (lv' := [(0, .ref 50), (1, .int y), (2, .int x)]) (st' := [.int y]) (μ' := z_ui μ 50 0 0) (by rfl) ?_
  refine zq_call hc (z_cx_ok hH (by rfl)) (hs d' (by omega)) (by decide +kernel) (fun r9 μ9 hq => ?_)
  obtain ⟨hμ9, rfl⟩ := hq
  rw [hμ9]
  clear hμ9 μ9
  show Z 0 9 [(0, .ref 50), (1, .int y), (2, .int x)] [.int 0] (z_ui μ 50 0 0)
  refine z_rcs hc hH 2 (pc' := 13) (lv' := [(0, .ref 50), (1, .int y), (2, .int x)]) (st' := [.int (-1)]) (μ' := z_ui μ 50 0 0) (by rfl) ?_
  exact hr 0 13 _ _ _ (some (.int (-1))) (by decide +kernel) (z_rx_ok hH (by rfl)) (⟨rfl, rfl⟩)
theorem gm_count0 (d : Nat) (hd : 4 ≤ d) (μ : zM) : z_C d mi_X7_count [.ref 50, .int 0] μ (fun r μ' => r = some (.int (μ.1 50 44)) ∧ μ' = z_ui μ 50 0 0) := by
  refine z_C_in (by decide) (by omega) (fun d' Z ed hc hr => ?_)
  have hH : zH mi_X7_count zt_X7_count 79 7 2 := hh_X7_count
  refine z_rcs hc hH 2 (pc' := 2) (lv' := [(0, .ref 50), (1, .int 0)]) (st' := [.int 0, .ref 50]) (μ' := μ) (by rfl) ?_
  refine zq_pfi hc hH (by rfl) (ci := 6) (f := 0) (by rfl) (by decide +kernel) (by rfl) ?_
  show Z 0 5 [(0, .ref 50), (1, .int 0)] [] (z_ui μ 50 0 0)
  refine z_rcs hc hH 3 (pc' := 73) (lv' := [(0, .ref 50), (1, .int 0)]) (st' := [.ref 50]) (μ' := z_ui μ 50 0 0) (by rfl) ?_
  refine zq_gfi hc hH (by rfl) (ci := 6) (f := 44) (by rfl) (by decide +kernel) (by rfl) ?_
  refine zV1 (Z := Z) (ui_k (by first | decide | omega)) ?_
  exact hr 0 76 _ _ _ (some (.int (μ.1 50 44))) (by decide +kernel) (z_rx_ok hH (by rfl)) (⟨rfl, rfl⟩)
theorem gm_count1 (d : Nat) (hd : 4 ≤ d) (μ : zM) : z_C d mi_X7_count [.ref 50, .int 1] μ (fun r μ' => r = some ((bif decide ((μ.1 50 44) = 0) then .int (-1) else .int (μ.1 50 45))) ∧ μ' = z_ui μ 50 0 0) := by
  refine z_C_in (by decide) (by omega) (fun d' Z ed hc hr => ?_)
  have hH : zH mi_X7_count zt_X7_count 79 7 2 := hh_X7_count
  refine z_rcs hc hH 2 (pc' := 2) (lv' := [(0, .ref 50), (1, .int 1)]) (st' := [.int 0, .ref 50]) (μ' := μ) (by rfl) ?_
  refine zq_pfi hc hH (by rfl) (ci := 6) (f := 0) (by rfl) (by decide +kernel) (by rfl) ?_
  show Z 0 5 [(0, .ref 50), (1, .int 1)] [] (z_ui μ 50 0 0)
  refine z_rcs hc hH 3 (pc' := 78) (lv' := [(0, .ref 50), (1, .int 1)]) (st' := [.ref 50]) (μ' := z_ui μ 50 0 0) (by rfl) ?_
  refine zq_gfi hc hH (by rfl) (ci := 6) (f := 44) (by rfl) (by decide +kernel) (by rfl) ?_
  refine zV1 (Z := Z) (ui_k (by first | decide | omega)) ?_
  refine zq_if hc hH (by rfl) (tg := 88) (by rfl) (fun h1 => ?_) (fun h1 => ?_)
  · have h1 : (decide ((μ.1 50 44) = 0)) = false := decide_eq_false (cm_ne.mp h1)
    refine z_rcs hc hH 1 (pc' := 89) (lv' := [(0, .ref 50), (1, .int 1)]) (st' := [.ref 50]) (μ' := z_ui μ 50 0 0) (by rfl) ?_
    refine zq_gfi hc hH (by rfl) (ci := 6) (f := 45) (by rfl) (by decide +kernel) (by rfl) ?_
    refine zV1 (Z := Z) (ui_k (by first | decide | omega)) ?_
    exact hr 0 92 _ _ _ (some (.int (μ.1 50 45))) (by decide +kernel) (z_rx_ok hH (by rfl)) (⟨(by first | with_reducible rfl | (simp only [h1, cond_true, cond_false]; done) | rfl), (by simp only [h1, cond_true, cond_false])⟩)
  · have h1 : (decide ((μ.1 50 44) = 0)) = true := decide_eq_true (cn_ne.mp h1)
    refine z_rcs hc hH 2 (pc' := 92) (lv' := [(0, .ref 50), (1, .int 1)]) (st' := [.int (-1)]) (μ' := z_ui μ 50 0 0) (by rfl) ?_
    exact hr 0 92 _ _ _ (some (.int (-1))) (by decide +kernel) (z_rx_ok hH (by rfl)) (⟨(by first | with_reducible rfl | (simp only [h1, cond_true, cond_false]; done) | rfl), (by simp only [h1, cond_true, cond_false])⟩)
theorem gm_count2 (d : Nat) (hd : 4 ≤ d) (μ : zM) : z_C d mi_X7_count [.ref 50, .int 2] μ (fun r μ' => r = some (.int (μ.1 50 40)) ∧ μ' = z_ui μ 50 0 0) := by
  refine z_C_in (by decide) (by omega) (fun d' Z ed hc hr => ?_)
  have hH : zH mi_X7_count zt_X7_count 79 7 2 := hh_X7_count
  refine z_rcs hc hH 2 (pc' := 2) (lv' := [(0, .ref 50), (1, .int 2)]) (st' := [.int 0, .ref 50]) (μ' := μ) (by rfl) ?_
  refine zq_pfi hc hH (by rfl) (ci := 6) (f := 0) (by rfl) (by decide +kernel) (by rfl) ?_
  show Z 0 5 [(0, .ref 50), (1, .int 2)] [] (z_ui μ 50 0 0)
  refine z_rcs hc hH 3 (pc' := 94) (lv' := [(0, .ref 50), (1, .int 2)]) (st' := [.ref 50]) (μ' := z_ui μ 50 0 0) (by rfl) ?_
  refine zq_gfi hc hH (by rfl) (ci := 6) (f := 40) (by rfl) (by decide +kernel) (by rfl) ?_
  refine zV1 (Z := Z) (ui_k (by first | decide | omega)) ?_
  exact hr 0 97 _ _ _ (some (.int (μ.1 50 40))) (by decide +kernel) (z_rx_ok hH (by rfl)) (⟨rfl, rfl⟩)
theorem gm_count3 (d : Nat) (hd : 4 ≤ d) (μ : zM) : z_C d mi_X7_count [.ref 50, .int 3] μ (fun r μ' => r = some (.int (μ.1 50 41)) ∧ μ' = z_ui μ 50 0 0) := by
  refine z_C_in (by decide) (by omega) (fun d' Z ed hc hr => ?_)
  have hH : zH mi_X7_count zt_X7_count 79 7 2 := hh_X7_count
  refine z_rcs hc hH 2 (pc' := 2) (lv' := [(0, .ref 50), (1, .int 3)]) (st' := [.int 0, .ref 50]) (μ' := μ) (by rfl) ?_
  refine zq_pfi hc hH (by rfl) (ci := 6) (f := 0) (by rfl) (by decide +kernel) (by rfl) ?_
  show Z 0 5 [(0, .ref 50), (1, .int 3)] [] (z_ui μ 50 0 0)
  refine z_rcs hc hH 3 (pc' := 99) (lv' := [(0, .ref 50), (1, .int 3)]) (st' := [.ref 50]) (μ' := z_ui μ 50 0 0) (by rfl) ?_
  refine zq_gfi hc hH (by rfl) (ci := 6) (f := 41) (by rfl) (by decide +kernel) (by rfl) ?_
  refine zV1 (Z := Z) (ui_k (by first | decide | omega)) ?_
  exact hr 0 102 _ _ _ (some (.int (μ.1 50 41))) (by decide +kernel) (z_rx_ok hH (by rfl)) (⟨rfl, rfl⟩)
theorem gm_count4 (d : Nat) (hd : 4 ≤ d) (μ : zM) : z_C d mi_X7_count [.ref 50, .int 4] μ (fun r μ' => r = some (.int (μ.1 50 42)) ∧ μ' = z_ui μ 50 0 0) := by
  refine z_C_in (by decide) (by omega) (fun d' Z ed hc hr => ?_)
  have hH : zH mi_X7_count zt_X7_count 79 7 2 := hh_X7_count
  refine z_rcs hc hH 2 (pc' := 2) (lv' := [(0, .ref 50), (1, .int 4)]) (st' := [.int 0, .ref 50]) (μ' := μ) (by rfl) ?_
  refine zq_pfi hc hH (by rfl) (ci := 6) (f := 0) (by rfl) (by decide +kernel) (by rfl) ?_
  show Z 0 5 [(0, .ref 50), (1, .int 4)] [] (z_ui μ 50 0 0)
  refine z_rcs hc hH 3 (pc' := 104) (lv' := [(0, .ref 50), (1, .int 4)]) (st' := [.ref 50]) (μ' := z_ui μ 50 0 0) (by rfl) ?_
  refine zq_gfi hc hH (by rfl) (ci := 6) (f := 42) (by rfl) (by decide +kernel) (by rfl) ?_
  refine zV1 (Z := Z) (ui_k (by first | decide | omega)) ?_
  exact hr 0 107 _ _ _ (some (.int (μ.1 50 42))) (by decide +kernel) (z_rx_ok hH (by rfl)) (⟨rfl, rfl⟩)
theorem gm_count5 (d : Nat) (hd : 4 ≤ d) (μ : zM) : z_C d mi_X7_count [.ref 50, .int 5] μ (fun r μ' => r = some (.int (μ.1 50 43)) ∧ μ' = z_ui μ 50 0 0) := by
  refine z_C_in (by decide) (by omega) (fun d' Z ed hc hr => ?_)
  have hH : zH mi_X7_count zt_X7_count 79 7 2 := hh_X7_count
  refine z_rcs hc hH 2 (pc' := 2) (lv' := [(0, .ref 50), (1, .int 5)]) (st' := [.int 0, .ref 50]) (μ' := μ) (by rfl) ?_
  refine zq_pfi hc hH (by rfl) (ci := 6) (f := 0) (by rfl) (by decide +kernel) (by rfl) ?_
  show Z 0 5 [(0, .ref 50), (1, .int 5)] [] (z_ui μ 50 0 0)
  refine z_rcs hc hH 3 (pc' := 109) (lv' := [(0, .ref 50), (1, .int 5)]) (st' := [.ref 50]) (μ' := z_ui μ 50 0 0) (by rfl) ?_
  refine zq_gfi hc hH (by rfl) (ci := 6) (f := 43) (by rfl) (by decide +kernel) (by rfl) ?_
  refine zV1 (Z := Z) (ui_k (by first | decide | omega)) ?_
  exact hr 0 112 _ _ _ (some (.int (μ.1 50 43))) (by decide +kernel) (z_rx_ok hH (by rfl)) (⟨rfl, rfl⟩)
theorem gm_count6 (d : Nat) (hd : 4 ≤ d) (μ : zM) : z_C d mi_X7_count [.ref 50, .int 6] μ (fun r μ' => r = some ((bif decide ((μ.1 50 55) = 0) then .int 0 else .int ((122 - (μ.1 50 47)) - (μ.1 50 46)))) ∧ μ' = z_ui μ 50 0 0) := by
  refine z_C_in (by decide) (by omega) (fun d' Z ed hc hr => ?_)
  have hH : zH mi_X7_count zt_X7_count 79 7 2 := hh_X7_count
  refine z_rcs hc hH 2 (pc' := 2) (lv' := [(0, .ref 50), (1, .int 6)]) (st' := [.int 0, .ref 50]) (μ' := μ) (by rfl) ?_
  refine zq_pfi hc hH (by rfl) (ci := 6) (f := 0) (by rfl) (by decide +kernel) (by rfl) ?_
  show Z 0 5 [(0, .ref 50), (1, .int 6)] [] (z_ui μ 50 0 0)
  refine z_rcs hc hH 3 (pc' := 114) (lv' := [(0, .ref 50), (1, .int 6)]) (st' := [.ref 50]) (μ' := z_ui μ 50 0 0) (by rfl) ?_
  refine zq_gfi hc hH (by rfl) (ci := 6) (f := 55) (by rfl) (by decide +kernel) (by rfl) ?_
  refine zV1 (Z := Z) (ui_k (by first | decide | omega)) ?_
  refine zq_if hc hH (by rfl) (tg := 127) (by rfl) (fun h1 => ?_) (fun h1 => ?_)
  · have h1 : (decide ((μ.1 50 55) = 0)) = true := decide_eq_true (cm_eq9.mp h1)
    refine z_rcs hc hH 1 (pc' := 128) (lv' := [(0, .ref 50), (1, .int 6)]) (st' := [.int 0]) (μ' := z_ui μ 50 0 0) (by rfl) ?_
    exact hr 0 128 _ _ _ (some (.int 0)) (by decide +kernel) (z_rx_ok hH (by rfl)) (⟨(by first | with_reducible rfl | (simp only [h1, cond_true, cond_false]; done) | rfl), (by simp only [h1, cond_true, cond_false])⟩)
  · have h1 : (decide ((μ.1 50 55) = 0)) = false := decide_eq_false (cn_eq.mp h1)
    refine z_rcs hc hH 1 (pc' := 121) (lv' := [(0, .ref 50), (1, .int 6)]) (st' := [.ref 50]) (μ' := z_ui μ 50 0 0) (by rfl) ?_
    refine zq_call hc (z_cx_ok hH (by rfl)) (fx_left d' (by omega) (z_ui μ 50 0 0) (μ.1 50 47) (μ.1 50 46) (by rw [ui_k (by first | decide | omega)]) (by rw [ui_k (by first | decide | omega)])) (by decide +kernel) (fun r9 μ9 hq => ?_)
    obtain ⟨hμ9, rfl⟩ := hq
    rw [hμ9]
    clear hμ9 μ9
    show Z 0 124 [(0, .ref 50), (1, .int 6)] [.int ((122 - (μ.1 50 47)) - (μ.1 50 46))] (z_ui μ 50 0 0)
    refine z_rcs hc hH 1 (pc' := 128) (lv' := [(0, .ref 50), (1, .int 6)]) (st' := [.int ((122 - (μ.1 50 47)) - (μ.1 50 46))]) (μ' := z_ui μ 50 0 0) (by rfl) ?_
    exact hr 0 128 _ _ _ (some (.int ((122 - (μ.1 50 47)) - (μ.1 50 46)))) (by decide +kernel) (z_rx_ok hH (by rfl)) (⟨(by first | with_reducible rfl | (simp only [h1, cond_true, cond_false]; done) | rfl), (by simp only [h1, cond_true, cond_false])⟩)
theorem gm_count7 (d : Nat) (hd : 4 ≤ d) (μ : zM) : z_C d mi_X7_count [.ref 50, .int 7] μ (fun r μ' => r = some (.int (μ.1 50 47)) ∧ μ' = z_ui μ 50 0 0) := by
  refine z_C_in (by decide) (by omega) (fun d' Z ed hc hr => ?_)
  have hH : zH mi_X7_count zt_X7_count 79 7 2 := hh_X7_count
  refine z_rcs hc hH 2 (pc' := 2) (lv' := [(0, .ref 50), (1, .int 7)]) (st' := [.int 0, .ref 50]) (μ' := μ) (by rfl) ?_
  refine zq_pfi hc hH (by rfl) (ci := 6) (f := 0) (by rfl) (by decide +kernel) (by rfl) ?_
  show Z 0 5 [(0, .ref 50), (1, .int 7)] [] (z_ui μ 50 0 0)
  refine z_rcs hc hH 3 (pc' := 130) (lv' := [(0, .ref 50), (1, .int 7)]) (st' := [.ref 50]) (μ' := z_ui μ 50 0 0) (by rfl) ?_
  refine zq_gfi hc hH (by rfl) (ci := 6) (f := 47) (by rfl) (by decide +kernel) (by rfl) ?_
  refine zV1 (Z := Z) (ui_k (by first | decide | omega)) ?_
  exact hr 0 133 _ _ _ (some (.int (μ.1 50 47))) (by decide +kernel) (z_rx_ok hH (by rfl)) (⟨rfl, rfl⟩)
theorem gm_count8 (d : Nat) (hd : 4 ≤ d) (μ : zM) : z_C d mi_X7_count [.ref 50, .int 8] μ (fun r μ' => r = some ((bif decide ((μ.1 50 55) = 0) then .int 0 else .int (1 + (μ.1 50 47)))) ∧ μ' = z_ui μ 50 0 0) := by
  refine z_C_in (by decide) (by omega) (fun d' Z ed hc hr => ?_)
  have hH : zH mi_X7_count zt_X7_count 79 7 2 := hh_X7_count
  refine z_rcs hc hH 2 (pc' := 2) (lv' := [(0, .ref 50), (1, .int 8)]) (st' := [.int 0, .ref 50]) (μ' := μ) (by rfl) ?_
  refine zq_pfi hc hH (by rfl) (ci := 6) (f := 0) (by rfl) (by decide +kernel) (by rfl) ?_
  show Z 0 5 [(0, .ref 50), (1, .int 8)] [] (z_ui μ 50 0 0)
  refine z_rcs hc hH 3 (pc' := 135) (lv' := [(0, .ref 50), (1, .int 8)]) (st' := [.ref 50]) (μ' := z_ui μ 50 0 0) (by rfl) ?_
  refine zq_gfi hc hH (by rfl) (ci := 6) (f := 55) (by rfl) (by decide +kernel) (by rfl) ?_
  refine zV1 (Z := Z) (ui_k (by first | decide | omega)) ?_
  refine zq_if hc hH (by rfl) (tg := 150) (by rfl) (fun h1 => ?_) (fun h1 => ?_)
  · have h1 : (decide ((μ.1 50 55) = 0)) = true := decide_eq_true (cm_eq9.mp h1)
    refine z_rcs hc hH 1 (pc' := 151) (lv' := [(0, .ref 50), (1, .int 8)]) (st' := [.int 0]) (μ' := z_ui μ 50 0 0) (by rfl) ?_
    exact hr 0 151 _ _ _ (some (.int 0)) (by decide +kernel) (z_rx_ok hH (by rfl)) (⟨(by first | with_reducible rfl | (simp only [h1, cond_true, cond_false]; done) | rfl), (by simp only [h1, cond_true, cond_false])⟩)
  · have h1 : (decide ((μ.1 50 55) = 0)) = false := decide_eq_false (cn_eq.mp h1)
    refine z_rcs hc hH 2 (pc' := 143) (lv' := [(0, .ref 50), (1, .int 8)]) (st' := [.ref 50, .int 1]) (μ' := z_ui μ 50 0 0) (by rfl) ?_
    refine zq_gfi hc hH (by rfl) (ci := 6) (f := 47) (by rfl) (by decide +kernel) (by rfl) ?_
    refine zV1 (Z := Z) (ui_k (by first | decide | omega)) ?_
    refine z_rcs hc hH 2 (pc' := 151) (lv' := [(0, .ref 50), (1, .int 8)]) (st' := [.int (1 + (μ.1 50 47))]) (μ' := z_ui μ 50 0 0) (by rfl) ?_
    exact hr 0 151 _ _ _ (some (.int (1 + (μ.1 50 47)))) (by decide +kernel) (z_rx_ok hH (by rfl)) (⟨(by first | with_reducible rfl | (simp only [h1, cond_true, cond_false]; done) | rfl), (by simp only [h1, cond_true, cond_false])⟩)
theorem gm_count9 (d : Nat) (hd : 4 ≤ d) (μ : zM) : z_C d mi_X7_count [.ref 50, .int 9] μ (fun r μ' => r = some ((bif decide ((μ.1 50 54) = 0) then .int 0 else .int 1)) ∧ μ' = z_ui μ 50 0 0) := by
  refine z_C_in (by decide) (by omega) (fun d' Z ed hc hr => ?_)
  have hH : zH mi_X7_count zt_X7_count 79 7 2 := hh_X7_count
  refine z_rcs hc hH 2 (pc' := 2) (lv' := [(0, .ref 50), (1, .int 9)]) (st' := [.int 0, .ref 50]) (μ' := μ) (by rfl) ?_
  refine zq_pfi hc hH (by rfl) (ci := 6) (f := 0) (by rfl) (by decide +kernel) (by rfl) ?_
  show Z 0 5 [(0, .ref 50), (1, .int 9)] [] (z_ui μ 50 0 0)
  refine z_rcs hc hH 3 (pc' := 153) (lv' := [(0, .ref 50), (1, .int 9)]) (st' := [.ref 50]) (μ' := z_ui μ 50 0 0) (by rfl) ?_
  refine zq_gfi hc hH (by rfl) (ci := 6) (f := 54) (by rfl) (by decide +kernel) (by rfl) ?_
  refine zV1 (Z := Z) (ui_k (by first | decide | omega)) ?_
  refine zq_if hc hH (by rfl) (tg := 163) (by rfl) (fun h1 => ?_) (fun h1 => ?_)
  · have h1 : (decide ((μ.1 50 54) = 0)) = true := decide_eq_true (cm_eq9.mp h1)
    refine z_rcs hc hH 1 (pc' := 164) (lv' := [(0, .ref 50), (1, .int 9)]) (st' := [.int 0]) (μ' := z_ui μ 50 0 0) (by rfl) ?_
    exact hr 0 164 _ _ _ (some (.int 0)) (by decide +kernel) (z_rx_ok hH (by rfl)) (⟨(by first | with_reducible rfl | (simp only [h1, cond_true, cond_false]; done) | rfl), (by simp only [h1, cond_true, cond_false])⟩)
  · have h1 : (decide ((μ.1 50 54) = 0)) = false := decide_eq_false (cn_eq.mp h1)
    refine z_rcs hc hH 2 (pc' := 164) (lv' := [(0, .ref 50), (1, .int 9)]) (st' := [.int 1]) (μ' := z_ui μ 50 0 0) (by rfl) ?_
    exact hr 0 164 _ _ _ (some (.int 1)) (by decide +kernel) (z_rx_ok hH (by rfl)) (⟨(by first | with_reducible rfl | (simp only [h1, cond_true, cond_false]; done) | rfl), (by simp only [h1, cond_true, cond_false])⟩)
theorem gm_count10 (d : Nat) (hd : 4 ≤ d) (μ : zM) : z_C d mi_X7_count [.ref 50, .int 10] μ (fun r μ' => r = some (.int (μ.1 50 52)) ∧ μ' = z_ui μ 50 0 0) := by
  refine z_C_in (by decide) (by omega) (fun d' Z ed hc hr => ?_)
  have hH : zH mi_X7_count zt_X7_count 79 7 2 := hh_X7_count
  refine z_rcs hc hH 2 (pc' := 2) (lv' := [(0, .ref 50), (1, .int 10)]) (st' := [.int 0, .ref 50]) (μ' := μ) (by rfl) ?_
  refine zq_pfi hc hH (by rfl) (ci := 6) (f := 0) (by rfl) (by decide +kernel) (by rfl) ?_
  show Z 0 5 [(0, .ref 50), (1, .int 10)] [] (z_ui μ 50 0 0)
  refine z_rcs hc hH 3 (pc' := 166) (lv' := [(0, .ref 50), (1, .int 10)]) (st' := [.ref 50]) (μ' := z_ui μ 50 0 0) (by rfl) ?_
  refine zq_gfi hc hH (by rfl) (ci := 6) (f := 52) (by rfl) (by decide +kernel) (by rfl) ?_
  refine zV1 (Z := Z) (ui_k (by first | decide | omega)) ?_
  exact hr 0 169 _ _ _ (some (.int (μ.1 50 52))) (by decide +kernel) (z_rx_ok hH (by rfl)) (⟨rfl, rfl⟩)
theorem gm_count11 (d : Nat) (hd : 4 ≤ d) (μ : zM) : z_C d mi_X7_count [.ref 50, .int 11] μ (fun r μ' => r = some (.int (μ.1 50 53)) ∧ μ' = z_ui μ 50 0 0) := by
  refine z_C_in (by decide) (by omega) (fun d' Z ed hc hr => ?_)
  have hH : zH mi_X7_count zt_X7_count 79 7 2 := hh_X7_count
  refine z_rcs hc hH 2 (pc' := 2) (lv' := [(0, .ref 50), (1, .int 11)]) (st' := [.int 0, .ref 50]) (μ' := μ) (by rfl) ?_
  refine zq_pfi hc hH (by rfl) (ci := 6) (f := 0) (by rfl) (by decide +kernel) (by rfl) ?_
  show Z 0 5 [(0, .ref 50), (1, .int 11)] [] (z_ui μ 50 0 0)
  refine z_rcs hc hH 3 (pc' := 171) (lv' := [(0, .ref 50), (1, .int 11)]) (st' := [.ref 50]) (μ' := z_ui μ 50 0 0) (by rfl) ?_
  refine zq_gfi hc hH (by rfl) (ci := 6) (f := 53) (by rfl) (by decide +kernel) (by rfl) ?_
  refine zV1 (Z := Z) (ui_k (by first | decide | omega)) ?_
  exact hr 0 174 _ _ _ (some (.int (μ.1 50 53))) (by decide +kernel) (z_rx_ok hH (by rfl)) (⟨rfl, rfl⟩)
theorem gm_count12 (d : Nat) (hd : 4 ≤ d) (μ : zM) : z_C d mi_X7_count [.ref 50, .int 12] μ (fun r μ' => r = some (.int (μ.1 50 49)) ∧ μ' = z_ui μ 50 0 0) := by
  refine z_C_in (by decide) (by omega) (fun d' Z ed hc hr => ?_)
  have hH : zH mi_X7_count zt_X7_count 79 7 2 := hh_X7_count
  refine z_rcs hc hH 2 (pc' := 2) (lv' := [(0, .ref 50), (1, .int 12)]) (st' := [.int 0, .ref 50]) (μ' := μ) (by rfl) ?_
  refine zq_pfi hc hH (by rfl) (ci := 6) (f := 0) (by rfl) (by decide +kernel) (by rfl) ?_
  show Z 0 5 [(0, .ref 50), (1, .int 12)] [] (z_ui μ 50 0 0)
  refine z_rcs hc hH 3 (pc' := 176) (lv' := [(0, .ref 50), (1, .int 12)]) (st' := [.ref 50]) (μ' := z_ui μ 50 0 0) (by rfl) ?_
  refine zq_gfi hc hH (by rfl) (ci := 6) (f := 49) (by rfl) (by decide +kernel) (by rfl) ?_
  refine zV1 (Z := Z) (ui_k (by first | decide | omega)) ?_
  exact hr 0 179 _ _ _ (some (.int (μ.1 50 49))) (by decide +kernel) (z_rx_ok hH (by rfl)) (⟨rfl, rfl⟩)
theorem gm_countd (d : Nat) (hd : 4 ≤ d) (μ : zM) (x : Int32) (hx : (decide (x.toInt < 0) || decide (12 < x.toInt)) = true) : z_C d mi_X7_count [.ref 50, .int x] μ (fun r μ' => r = some (.int (-1)) ∧ μ' = z_ui μ 50 0 0) := by
  refine z_C_in (by decide) (by omega) (fun d' Z ed hc hr => ?_)
  have hH : zH mi_X7_count zt_X7_count 79 7 2 := hh_X7_count
  refine z_rcs hc hH 2 (pc' := 2) (lv' := [(0, .ref 50), (1, .int x)]) (st' := [.int 0, .ref 50]) (μ' := μ) (by rfl) ?_
  refine zq_pfi hc hH (by rfl) (ci := 6) (f := 0) (by rfl) (by decide +kernel) (by rfl) ?_
  show Z 0 5 [(0, .ref 50), (1, .int x)] [] (z_ui μ 50 0 0)
  refine z_rcs hc hH 1 (pc' := 6) (lv' := [(0, .ref 50), (1, .int x)]) (st' := [.int x]) (μ' := z_ui μ 50 0 0) (by rfl) ?_
  refine zq_tsd hc hH (by rfl) (tg := 180) (by rfl) hx ?_
  refine z_rcs hc hH 1 (pc' := 181) (lv' := [(0, .ref 50), (1, .int x)]) (st' := [.int (-1)]) (μ' := z_ui μ 50 0 0) (by rfl) ?_
  exact hr 0 181 _ _ _ (some (.int (-1))) (by decide +kernel) (z_rx_ok hH (by rfl)) (⟨rfl, rfl⟩)
/-! questions: hand, count, seat answer alike -/
set_option maxRecDepth 8000
theorem q_go {d j j' : Nat} {As As' : List Value} {μ : zM} (h : LGm μ) {v : Int32} (c1 : z_C d j As μ (fun r μ' => r = some (.int v) ∧ μ' = μ)) (kq : z_C d j' As' μ (fun _ μ' => LJ μ')) (c2 : z_C d j' As' μ (fun r μ' => r = some (.int v) ∧ μ' = z_ui μ 50 0 0)) : z_C d j As μ (fun r μ1 => LJ μ1 ∧ ∃ y, r = some (.int y) ∧ z_C d j' As' μ1 (fun r2 μ2 => LGm μ2 ∧ r2 = some (.int y))) := z_C_mono c1 (fun r μ1 q => by
  obtain ⟨q1, rfl⟩ := q
  exact ⟨h.1, v, q1, z_C_mono (zC_and d kq c2) (fun r2 μ2 z => ⟨lg_no h.2 z.2.2 z.1, z.2.1⟩)⟩)
theorem sI_no {y : Int32} (h : ¬ vp_in y 4) : sI y = false := by
  unfold sI
  cases e1 : decide (y < 0) with
  | true => rfl
  | false =>
    cases e2 : decide (4 ≤ y) with
    | true => rfl
    | false => exact absurd (inOf2 (n := 4) (m := 4) rfl e1 e2) h
theorem isS_no {μ : zM} {y : Int32} (h : ¬ vp_in y 4) : ∀ d, 1 ≤ d → z_C d mi_X7_isSeat [.int y] μ (zR μ (.int 0)) := fun d hd => z_C_mono (fc_X7_isSeat d hd μ y) (fun r m z => ⟨z.1, by
  rcases z.2 with ⟨_, q⟩ | ⟨q, _⟩
  · exact absurd q h
  · exact q⟩)
theorem lg_hand {d : Nat} (hd : 705 ≤ d) {μ : zM} (h : LGm μ) (y x : Int32) : z_C d mi_X6_hand [.ref 0, .int y, .int x] μ (fun r μ1 => LJ μ1 ∧ ∃ v, r = some (.int v) ∧ z_C d mi_X7_hand [.ref 50, .int y, .int x] μ1 (fun r2 μ2 => LGm μ2 ∧ r2 = some (.int v))) := by
  have kq : z_C d mi_X7_hand [.ref 50, .int y, .int x] μ (fun _ μ' => LJ μ') := z_C_mono (lj_k (i := 126) (K := ak_126) rfl (by omega) (by decide +kernel) (by decide +kernel) rfl [.ref 50, .int y, .int x] μ h.1 ⟨⟨50, by decide, rfl⟩, ⟨_, rfl, bI_top _⟩, ⟨_, rfl, bI_top _⟩, trivial⟩) (fun _ _ q => q.1)
  by_cases hy : vp_in y 4
  · obtain ⟨s, hs, rfl⟩ := vp_in_of hy (by decide)
    by_cases hx : vp_in x 34
    · obtain ⟨k, hk, rfl⟩ := vp_in_of hx (by decide)
      refine q_go h (v := μ.1 60 (34 * s + k)) ?_ kq (gm_hand d (by omega) μ s hs k hk)
      have z := gq_hand d (by omega) μ s hs (nI k)
      rw [fr_yes hk, h.2.1.hd s k hs hk] at z
      exact z
    · refine q_go h (v := 0) ?_ kq (gm_handK d (by omega) μ s hs x (isK_no hx))
      have z := gq_hand d (by omega) μ s hs x
      rw [fr_no hx] at z
      exact z
  · exact q_go h (v := 0) (gq_hand0 d (by omega) μ x y (sI_no hy)) kq (gm_handS d (by omega) μ y x (isS_no hy))
/-! count answers alike -/
set_option maxRecDepth 8000
theorem rg_ph {x m : zM} (h : RG x m) : x.1 0 7 = m.1 50 44 ∧ x.1 0 8 = m.1 50 45 ∧ x.1 2 3 = m.1 50 47 := by
  rcases h.2 with ⟨p1, p2, p3, p4, p5⟩ | ⟨p, t, c, P⟩
  · exact ⟨p1.trans p2.symm, p5, p4⟩
  · exact ⟨P.px.trans P.pm.symm, P.tx.trans P.tm.symm, P.fo⟩
theorem rg_ti {x m : zM} (h : RG x m) : (bif decide (x.1 0 7 = 0) then (-1 : Int32) else x.1 0 15) = m.1 50 49 := by
  rcases h.2 with ⟨p1, p2, p3, p4, p5⟩ | ⟨p, t, c, P⟩
  · rw [p1, p3]; rfl
  · rw [P.px, P.cx, P.cm]
    rcases P.p3 with e | e | e <;> (subst e; rfl)
theorem bif_i {c : Bool} {a b : Int32} : (bif c then Value.int a else Value.int b) = Value.int (bif c then a else b) := by cases c <;> rfl
theorem k_count {d : Nat} (hd : 705 ≤ d) {μ : zM} (h : LJ μ) (x : Int32) : z_C d mi_X7_count [.ref 50, .int x] μ (fun _ μ' => LJ μ') := z_C_mono (lj_k (i := 133) (K := ak_133) rfl (by omega) (by decide +kernel) (by decide +kernel) rfl [.ref 50, .int x] μ h ⟨⟨50, by decide, rfl⟩, ⟨_, rfl, bI_top _⟩, trivial⟩) (fun _ _ q => q.1)
theorem lg_count0 {d : Nat} (hd : 705 ≤ d) {μ : zM} (h : LGm μ) : z_C d mi_X6_count [.ref 0, .int 0] μ (fun r μ1 => LJ μ1 ∧ ∃ v, r = some (.int v) ∧ z_C d mi_X7_count [.ref 50, .int 0] μ1 (fun r2 μ2 => LGm μ2 ∧ r2 = some (.int v))) := by
  have R := h.2.1
  obtain ⟨e7, e8, e3⟩ := rg_ph h.2
  have z1 := gq_count0 d (by omega) μ
  have z2 := gm_count0 d (by omega) μ
  rw [e7] at z1
  exact q_go h (v := μ.1 50 44) z1 (k_count hd h.1 _) z2
theorem lg_count1 {d : Nat} (hd : 705 ≤ d) {μ : zM} (h : LGm μ) : z_C d mi_X6_count [.ref 0, .int 1] μ (fun r μ1 => LJ μ1 ∧ ∃ v, r = some (.int v) ∧ z_C d mi_X7_count [.ref 50, .int 1] μ1 (fun r2 μ2 => LGm μ2 ∧ r2 = some (.int v))) := by
  have R := h.2.1
  obtain ⟨e7, e8, e3⟩ := rg_ph h.2
  have z1 := gq_count1 d (by omega) μ
  have z2 := gm_count1 d (by omega) μ
  rw [bif_i] at z1 z2
  rw [e7, e8] at z1
  exact q_go h (v := bif decide (μ.1 50 44 = 0) then (-1 : Int32) else μ.1 50 45) z1 (k_count hd h.1 _) z2
theorem lg_count2 {d : Nat} (hd : 705 ≤ d) {μ : zM} (h : LGm μ) : z_C d mi_X6_count [.ref 0, .int 2] μ (fun r μ1 => LJ μ1 ∧ ∃ v, r = some (.int v) ∧ z_C d mi_X7_count [.ref 50, .int 2] μ1 (fun r2 μ2 => LGm μ2 ∧ r2 = some (.int v))) := by
  have R := h.2.1
  obtain ⟨e7, e8, e3⟩ := rg_ph h.2
  have z1 := gq_count2 d (by omega) μ
  have z2 := gm_count2 d (by omega) μ
  rw [R.dl] at z1
  exact q_go h (v := μ.1 50 40) z1 (k_count hd h.1 _) z2
theorem lg_count3 {d : Nat} (hd : 705 ≤ d) {μ : zM} (h : LGm μ) : z_C d mi_X6_count [.ref 0, .int 3] μ (fun r μ1 => LJ μ1 ∧ ∃ v, r = some (.int v) ∧ z_C d mi_X7_count [.ref 50, .int 3] μ1 (fun r2 μ2 => LGm μ2 ∧ r2 = some (.int v))) := by
  have R := h.2.1
  obtain ⟨e7, e8, e3⟩ := rg_ph h.2
  have z1 := gq_count3 d (by omega) μ
  have z2 := gm_count3 d (by omega) μ
  rw [R.rn] at z1
  exact q_go h (v := μ.1 50 41) z1 (k_count hd h.1 _) z2
theorem lg_count4 {d : Nat} (hd : 705 ≤ d) {μ : zM} (h : LGm μ) : z_C d mi_X6_count [.ref 0, .int 4] μ (fun r μ1 => LJ μ1 ∧ ∃ v, r = some (.int v) ∧ z_C d mi_X7_count [.ref 50, .int 4] μ1 (fun r2 μ2 => LGm μ2 ∧ r2 = some (.int v))) := by
  have R := h.2.1
  obtain ⟨e7, e8, e3⟩ := rg_ph h.2
  have z1 := gq_count4 d (by omega) μ
  have z2 := gm_count4 d (by omega) μ
  rw [R.st] at z1
  exact q_go h (v := μ.1 50 42) z1 (k_count hd h.1 _) z2
theorem lg_count5 {d : Nat} (hd : 705 ≤ d) {μ : zM} (h : LGm μ) : z_C d mi_X6_count [.ref 0, .int 5] μ (fun r μ1 => LJ μ1 ∧ ∃ v, r = some (.int v) ∧ z_C d mi_X7_count [.ref 50, .int 5] μ1 (fun r2 μ2 => LGm μ2 ∧ r2 = some (.int v))) := by
  have R := h.2.1
  obtain ⟨e7, e8, e3⟩ := rg_ph h.2
  have z1 := gq_count5 d (by omega) μ
  have z2 := gm_count5 d (by omega) μ
  rw [R.bt] at z1
  exact q_go h (v := μ.1 50 43) z1 (k_count hd h.1 _) z2
theorem lg_count6 {d : Nat} (hd : 705 ≤ d) {μ : zM} (h : LGm μ) : z_C d mi_X6_count [.ref 0, .int 6] μ (fun r μ1 => LJ μ1 ∧ ∃ v, r = some (.int v) ∧ z_C d mi_X7_count [.ref 50, .int 6] μ1 (fun r2 μ2 => LGm μ2 ∧ r2 = some (.int v))) := by
  have R := h.2.1
  obtain ⟨e7, e8, e3⟩ := rg_ph h.2
  have z1 := gq_count6 d (by omega) μ
  have z2 := gm_count6 d (by omega) μ
  rw [bif_i] at z2
  unfold xLf at z1
  rw [R.sd, e3, R.nx] at z1
  exact q_go h (v := bif decide (μ.1 50 55 = 0) then (0 : Int32) else (122 - μ.1 50 47) - μ.1 50 46) z1 (k_count hd h.1 _) z2
theorem lg_count7 {d : Nat} (hd : 705 ≤ d) {μ : zM} (h : LGm μ) : z_C d mi_X6_count [.ref 0, .int 7] μ (fun r μ1 => LJ μ1 ∧ ∃ v, r = some (.int v) ∧ z_C d mi_X7_count [.ref 50, .int 7] μ1 (fun r2 μ2 => LGm μ2 ∧ r2 = some (.int v))) := by
  have R := h.2.1
  obtain ⟨e7, e8, e3⟩ := rg_ph h.2
  have z1 := gq_count7 d (by omega) μ
  have z2 := gm_count7 d (by omega) μ
  rw [e3] at z1
  exact q_go h (v := μ.1 50 47) z1 (k_count hd h.1 _) z2
theorem lg_count8 {d : Nat} (hd : 705 ≤ d) {μ : zM} (h : LGm μ) : z_C d mi_X6_count [.ref 0, .int 8] μ (fun r μ1 => LJ μ1 ∧ ∃ v, r = some (.int v) ∧ z_C d mi_X7_count [.ref 50, .int 8] μ1 (fun r2 μ2 => LGm μ2 ∧ r2 = some (.int v))) := by
  have R := h.2.1
  obtain ⟨e7, e8, e3⟩ := rg_ph h.2
  have z1 := gq_count8 d (by omega) μ
  have z2 := gm_count8 d (by omega) μ
  rw [bif_i] at z2
  unfold xSg at z1
  rw [R.sd, e3] at z1
  exact q_go h (v := bif decide (μ.1 50 55 = 0) then (0 : Int32) else 1 + μ.1 50 47) z1 (k_count hd h.1 _) z2
theorem lg_count9 {d : Nat} (hd : 705 ≤ d) {μ : zM} (h : LGm μ) : z_C d mi_X6_count [.ref 0, .int 9] μ (fun r μ1 => LJ μ1 ∧ ∃ v, r = some (.int v) ∧ z_C d mi_X7_count [.ref 50, .int 9] μ1 (fun r2 μ2 => LGm μ2 ∧ r2 = some (.int v))) := by
  have R := h.2.1
  obtain ⟨e7, e8, e3⟩ := rg_ph h.2
  have z1 := gq_count9 d (by omega) μ
  have z2 := gm_count9 d (by omega) μ
  rw [bif_i] at z1 z2
  rw [R.en] at z1
  exact q_go h (v := bif decide (μ.1 50 54 = 0) then (0 : Int32) else 1) z1 (k_count hd h.1 _) z2
theorem lg_count10 {d : Nat} (hd : 705 ≤ d) {μ : zM} (h : LGm μ) : z_C d mi_X6_count [.ref 0, .int 10] μ (fun r μ1 => LJ μ1 ∧ ∃ v, r = some (.int v) ∧ z_C d mi_X7_count [.ref 50, .int 10] μ1 (fun r2 μ2 => LGm μ2 ∧ r2 = some (.int v))) := by
  have R := h.2.1
  obtain ⟨e7, e8, e3⟩ := rg_ph h.2
  have z1 := gq_count10 d (by omega) μ
  have z2 := gm_count10 d (by omega) μ
  rw [R.he] at z1
  exact q_go h (v := μ.1 50 52) z1 (k_count hd h.1 _) z2
theorem lg_count11 {d : Nat} (hd : 705 ≤ d) {μ : zM} (h : LGm μ) : z_C d mi_X6_count [.ref 0, .int 11] μ (fun r μ1 => LJ μ1 ∧ ∃ v, r = some (.int v) ∧ z_C d mi_X7_count [.ref 50, .int 11] μ1 (fun r2 μ2 => LGm μ2 ∧ r2 = some (.int v))) := by
  have R := h.2.1
  obtain ⟨e7, e8, e3⟩ := rg_ph h.2
  have z1 := gq_count11 d (by omega) μ
  have z2 := gm_count11 d (by omega) μ
  rw [R.wc] at z1
  exact q_go h (v := μ.1 50 53) z1 (k_count hd h.1 _) z2
theorem lg_count12 {d : Nat} (hd : 705 ≤ d) {μ : zM} (h : LGm μ) : z_C d mi_X6_count [.ref 0, .int 12] μ (fun r μ1 => LJ μ1 ∧ ∃ v, r = some (.int v) ∧ z_C d mi_X7_count [.ref 50, .int 12] μ1 (fun r2 μ2 => LGm μ2 ∧ r2 = some (.int v))) := by
  have R := h.2.1
  obtain ⟨e7, e8, e3⟩ := rg_ph h.2
  have z1 := gq_count12 d (by omega) μ
  have z2 := gm_count12 d (by omega) μ
  rw [bif_i, rg_ti h.2] at z1
  exact q_go h (v := μ.1 50 49) z1 (k_count hd h.1 _) z2
theorem lg_count {d : Nat} (hd : 705 ≤ d) {μ : zM} (h : LGm μ) (x : Int32) : z_C d mi_X6_count [.ref 0, .int x] μ (fun r μ1 => LJ μ1 ∧ ∃ v, r = some (.int v) ∧ z_C d mi_X7_count [.ref 50, .int x] μ1 (fun r2 μ2 => LGm μ2 ∧ r2 = some (.int v))) := by
  by_cases hx : vp_in x 13
  · obtain ⟨k, hk, rfl⟩ := vp_in_of hx (by decide)
    match k, hk with
    | 0, _ => exact lg_count0 hd h
    | 1, _ => exact lg_count1 hd h
    | 2, _ => exact lg_count2 hd h
    | 3, _ => exact lg_count3 hd h
    | 4, _ => exact lg_count4 hd h
    | 5, _ => exact lg_count5 hd h
    | 6, _ => exact lg_count6 hd h
    | 7, _ => exact lg_count7 hd h
    | 8, _ => exact lg_count8 hd h
    | 9, _ => exact lg_count9 hd h
    | 10, _ => exact lg_count10 hd h
    | 11, _ => exact lg_count11 hd h
    | 12, _ => exact lg_count12 hd h
    | k + 13, h9 => exact absurd h9 (by omega)
  · have e : (decide (x.toInt < 0) || decide (12 < x.toInt)) = true := by
      cases e1 : decide (x.toInt < 0) with
      | true => rfl
      | false =>
        cases e2 : decide (12 < x.toInt) with
        | true => rfl
        | false =>
          have h1 := of_decide_eq_false e1
          have h2 := of_decide_eq_false e2
          exact absurd (vp_in_iff.mpr ⟨by omega, by omega⟩) hx
    exact q_go h (v := -1) (gq_countd d (by omega) μ x e) (k_count hd h.1 x) (gm_countd d (by omega) μ x e)
/-! seat answers alike -/
set_option maxRecDepth 8000
theorem wind_eq : ∀ s, s < 4 → ∀ dl, dl < 4 → (nI s - nI dl) &&& 3 = wdM (nI dl) (nI s) := by decide +kernel
theorem open_eq {x m : zM} (R : RCl x m) {s : Nat} (hs : s < 4) : ∀ q, q ≤ 4 → xOr (x.1 (22 + 8 * s)) q = kA (ioF m s) q
  | 0, _ => rfl
  | q + 1, h => by
    show (xOr (x.1 (22 + 8 * s)) q || !decide (x.1 (22 + 8 * s) q = 3)) = (kA (ioF m s) q || ioF m s q)
    rw [open_eq R hs q (by omega), R.so s q hs (by omega)]
    rfl
theorem k_seat {d : Nat} (hd : 705 ≤ d) {μ : zM} (h : LJ μ) (y x : Int32) : z_C d mi_X7_seat [.ref 50, .int y, .int x] μ (fun _ μ' => LJ μ') := z_C_mono (lj_k (i := 130) (K := ak_130) rfl (by omega) (by decide +kernel) (by decide +kernel) rfl [.ref 50, .int y, .int x] μ h ⟨⟨50, by decide, rfl⟩, ⟨_, rfl, bI_top _⟩, ⟨_, rfl, bI_top _⟩, trivial⟩) (fun _ _ q => q.1)
theorem lg_seat0 {d : Nat} (hd : 705 ≤ d) {μ : zM} (h : LGm μ) {s : Nat} (hs : s < 4) : z_C d mi_X6_seat [.ref 0, .int (nI s), .int 0] μ (fun r μ1 => LJ μ1 ∧ ∃ v, r = some (.int v) ∧ z_C d mi_X7_seat [.ref 50, .int (nI s), .int 0] μ1 (fun r2 μ2 => LGm μ2 ∧ r2 = some (.int v))) := by
  have R := h.2.1
  have z1 := gq_seat0 d (by omega) μ s hs
  have z2 := gm_seat0 d (by omega) μ s hs
  rw [R.pt s hs] at z1
  exact q_go h (v := μ.1 61 s) z1 (k_seat hd h.1 _ _) z2
theorem lg_seat1 {d : Nat} (hd : 705 ≤ d) {μ : zM} (h : LGm μ) {s : Nat} (hs : s < 4) : z_C d mi_X6_seat [.ref 0, .int (nI s), .int 1] μ (fun r μ1 => LJ μ1 ∧ ∃ v, r = some (.int v) ∧ z_C d mi_X7_seat [.ref 50, .int (nI s), .int 1] μ1 (fun r2 μ2 => LGm μ2 ∧ r2 = some (.int v))) := by
  have R := h.2.1
  have z1 := gq_seat1 d (by omega) μ s hs
  have z2 := gm_seat1 d (by omega) μ s hs
  rw [R.be s hs] at z1
  exact q_go h (v := μ.1 67 s) z1 (k_seat hd h.1 _ _) z2
theorem lg_seat2 {d : Nat} (hd : 705 ≤ d) {μ : zM} (h : LGm μ) {s : Nat} (hs : s < 4) : z_C d mi_X6_seat [.ref 0, .int (nI s), .int 2] μ (fun r μ1 => LJ μ1 ∧ ∃ v, r = some (.int v) ∧ z_C d mi_X7_seat [.ref 50, .int (nI s), .int 2] μ1 (fun r2 μ2 => LGm μ2 ∧ r2 = some (.int v))) := by
  have R := h.2.1
  have z1 := gq_seat2 d (by omega) μ s hs
  have z2 := gm_seat2 d (by omega) μ s hs
  rw [bif_i] at z1 z2
  rw [R.lg s hs] at z1
  exact q_go h (v := bif decide (μ.1 70 s = 0) then (0 : Int32) else 1) z1 (k_seat hd h.1 _ _) z2
theorem lg_seat3 {d : Nat} (hd : 705 ≤ d) {μ : zM} (h : LGm μ) {s : Nat} (hs : s < 4) : z_C d mi_X6_seat [.ref 0, .int (nI s), .int 3] μ (fun r μ1 => LJ μ1 ∧ ∃ v, r = some (.int v) ∧ z_C d mi_X7_seat [.ref 50, .int (nI s), .int 3] μ1 (fun r2 μ2 => LGm μ2 ∧ r2 = some (.int v))) := by
  have R := h.2.1
  have z1 := gq_seat3 d (by omega) μ s hs
  have z2 := gm_seat3 d (by omega) μ s hs
  obtain ⟨dl, hdl4, hdl⟩ := dealer_nI h.1.1.1
  rw [R.dl, hdl, wind_eq s hs dl hdl4, ← hdl] at z1
  exact q_go h (v := wdM (μ.1 50 40) (nI s)) z1 (k_seat hd h.1 _ _) z2
theorem lg_seat4 {d : Nat} (hd : 705 ≤ d) {μ : zM} (h : LGm μ) {s : Nat} (hs : s < 4) : z_C d mi_X6_seat [.ref 0, .int (nI s), .int 4] μ (fun r μ1 => LJ μ1 ∧ ∃ v, r = some (.int v) ∧ z_C d mi_X7_seat [.ref 50, .int (nI s), .int 4] μ1 (fun r2 μ2 => LGm μ2 ∧ r2 = some (.int v))) := by
  have R := h.2.1
  have z1 := gq_seat4 d (by omega) μ s hs
  have z2 := gm_seat4 d (by omega) μ s hs
  rw [R.ds s hs] at z1
  exact q_go h (v := μ.1 66 s) z1 (k_seat hd h.1 _ _) z2
theorem lg_seat5 {d : Nat} (hd : 705 ≤ d) {μ : zM} (h : LGm μ) {s : Nat} (hs : s < 4) : z_C d mi_X6_seat [.ref 0, .int (nI s), .int 5] μ (fun r μ1 => LJ μ1 ∧ ∃ v, r = some (.int v) ∧ z_C d mi_X7_seat [.ref 50, .int (nI s), .int 5] μ1 (fun r2 μ2 => LGm μ2 ∧ r2 = some (.int v))) := by
  have R := h.2.1
  have z1 := gq_seat5 d (by omega) μ s hs
  have z2 := gm_seat5 d (by omega) μ s hs
  rw [R.lm s hs] at z1
  exact q_go h (v := μ.1 64 s) z1 (k_seat hd h.1 _ _) z2
theorem lg_seat6 {d : Nat} (hd : 705 ≤ d) {μ : zM} (h : LGm μ) {s : Nat} (hs : s < 4) : z_C d mi_X6_seat [.ref 0, .int (nI s), .int 6] μ (fun r μ1 => LJ μ1 ∧ ∃ v, r = some (.int v) ∧ z_C d mi_X7_seat [.ref 50, .int (nI s), .int 6] μ1 (fun r2 μ2 => LGm μ2 ∧ r2 = some (.int v))) := by
  have R := h.2.1
  obtain ⟨q, hq4, hq⟩ : ∃ q, q ≤ 4 ∧ μ.1 64 s = nI q := i_nat (h.1.1.1 64 s).1 (h.1.1.1 64 s).2 (by decide)
  have z1 := gq_seat6 d (by omega) μ s hs (kA (ioF μ s) q) (fun d' hd' => by rw [← open_eq R hs q hq4]; exact gc_isOpen d' hd' μ s hs q hq4 ((R.lm s hs).trans hq))
  have z2 := gm_seat6 d (by omega) μ s hs (kA (ioF μ s) q) (fun d' hd' => by
    have z := gm_isOpenS d' hd' (z_ui μ 50 0 0) s q hs hq4 (by rw [ui_o (by decide)]; exact hq)
    rw [show kA (ioF (z_ui μ 50 0 0) s) q = kA (ioF μ s) q from kA_cg (fun i _ => by unfold ioF; rw [ui_o (by decide)])] at z
    exact z)
  rw [bif_i] at z1 z2
  exact q_go h (v := bif kA (ioF μ s) q then (1 : Int32) else 0) z1 (k_seat hd h.1 _ _) z2
theorem lg_seat7 {d : Nat} (hd : 705 ≤ d) {μ : zM} (h : LGm μ) {s : Nat} (hs : s < 4) : z_C d mi_X6_seat [.ref 0, .int (nI s), .int 7] μ (fun r μ1 => LJ μ1 ∧ ∃ v, r = some (.int v) ∧ z_C d mi_X7_seat [.ref 50, .int (nI s), .int 7] μ1 (fun r2 μ2 => LGm μ2 ∧ r2 = some (.int v))) := by
  have R := h.2.1
  have z1 := gq_seat7 d (by omega) μ s hs
  have z2 := gm_seat7 d (by omega) μ s hs
  rw [bif_i] at z1 z2
  rw [R.sy s hs] at z1
  exact q_go h (v := bif decide (μ.1 71 s = 0) then (0 : Int32) else 1) z1 (k_seat hd h.1 _ _) z2
theorem lg_seat {d : Nat} (hd : 705 ≤ d) {μ : zM} (h : LGm μ) (y x : Int32) : z_C d mi_X6_seat [.ref 0, .int y, .int x] μ (fun r μ1 => LJ μ1 ∧ ∃ v, r = some (.int v) ∧ z_C d mi_X7_seat [.ref 50, .int y, .int x] μ1 (fun r2 μ2 => LGm μ2 ∧ r2 = some (.int v))) := by
  by_cases hy : vp_in y 4
  · obtain ⟨s, hs, rfl⟩ := vp_in_of hy (by decide)
    by_cases hx : vp_in x 8
    · obtain ⟨k, hk, rfl⟩ := vp_in_of hx (by decide)
      match k, hk with
      | 0, _ => exact lg_seat0 hd h hs
      | 1, _ => exact lg_seat1 hd h hs
      | 2, _ => exact lg_seat2 hd h hs
      | 3, _ => exact lg_seat3 hd h hs
      | 4, _ => exact lg_seat4 hd h hs
      | 5, _ => exact lg_seat5 hd h hs
      | 6, _ => exact lg_seat6 hd h hs
      | 7, _ => exact lg_seat7 hd h hs
      | k + 8, h9 => exact absurd h9 (by omega)
    · have e : (decide (x.toInt < 0) || decide (7 < x.toInt)) = true := by
        cases e1 : decide (x.toInt < 0) with
        | true => rfl
        | false =>
          cases e2 : decide (7 < x.toInt) with
          | true => rfl
          | false =>
            have h1 := of_decide_eq_false e1
            have h2 := of_decide_eq_false e2
            exact absurd (vp_in_iff.mpr ⟨by omega, by omega⟩) hx
      exact q_go h (v := -1) (gq_seatd d (by omega) μ s hs x e) (k_seat hd h.1 _ x) (gm_seatd d (by omega) μ s hs x e)
  · exact q_go h (v := -1) (gq_seat0y d (by omega) μ y x (sI_no hy)) (k_seat hd h.1 y x) (gm_seatS d (by omega) μ y x (isS_no hy))
/-! a SET is claimed: both games behind it -/
set_option maxRecDepth 8000
theorem h56_t (m : zM) : (toM m).1 50 56 = 0 := by unfold toM; rw [ui_o (by decide), ui_o (by decide), ui_o (by decide), ui_o (by decide), ui_s]
theorem t64_t (m : zM) (j : Nat) : (toM m).1 64 j = m.1 64 j := toM_o ⟨by decide, Or.inl (by decide)⟩
theorem t50_t (m : zM) {k : Nat} (h : k ≠ 56) : (toM m).1 50 k = m.1 50 k := toM_o ⟨by decide, Or.inr h⟩
theorem rg_three {x m : zM} {s c q : Nat} (R : RCl x m) (Q : RQ x m c) (hfo : x.1 2 3 = m.1 50 47) (hs : s < 4) (hc : c < 34) (hq : q ≤ 3) (e64 : m.1 64 s = nI q) (hm4 : ∀ j, j < 4 → (m.1 64 j).toNatClampNeg ≤ 4) {bs : Int64} (hbs : bs = (((1 : Int64) <<< ((m.1 50 50).toInt64 &&& 63)) ||| (bif decide (m.1 50 51 = -1) then (0 : Int64) else 1 <<< ((m.1 50 51).toInt64 &&& 63)))) (hbn : BN m) : RG (clX (ldS (pS (bkH x) s c 1) s 1 c q) s bs) (clN (toM (z_lys (z_giv m s c (-2)) s q 1 (nI c))) s) := by
  rw [toM_lys, toM_giv]
  obtain ⟨Q1, f1, f2, f3⟩ := rq_brk Q
  have A := lay_three (x := bkH x) (m := toM m) (s := s) (c := c) (q := q) hs hc hq
  have R1 := rc_lay (rc_brk R) A hs hq ((t64_t m s).trans e64) (svd_n ⟨by decide, by decide⟩ (by decide) hc) (fun j hj => by rw [t64_t]; exact hm4 j hj)
  obtain ⟨Q2, g1, g2⟩ := rq_lay Q1 A hs f3 (fun j hj => by
    rw [ct_n9 (by decide) hc hj]
    show (if j = c then (-2 : Int32) else 0) + _ = _
    by_cases e : j = c
    · rw [if_pos e, if_pos e, if_pos e]; decide
    · rw [if_neg e, if_neg e, if_neg e]; decide)
  have e50 : ∀ k, k ≠ 56 → (z_lys (z_giv (toM m) s c (-2)) s q 1 (nI c)).1 50 k = m.1 50 k := fun k hk => by
    rw [A.fm 50 k (by decide) (by decide) (by decide) (by decide)]; exact t50_t m hk
  refine ⟨rc_claimed R1, Or.inr ⟨1, s, 34, rp_claimed Q2 hs ?_ ?_ ?_ (by unfold BN; rw [e50 50 (by decide), e50 51 (by decide)]; exact hbn)⟩⟩
  · rw [g1, g2, f1, f2]; exact hfo
  · rw [A.fm 50 56 (by decide) (by decide) (by decide) (by decide)]; exact f3
  · rw [e50 50 (by decide), e50 51 (by decide)]; exact hbs
theorem rg_run0 {x m : zM} {s l q : Nat} (R : RCl x m) (Q : RQ x m l) (hfo : x.1 2 3 = m.1 50 47) (hs : s < 4) (hl : l + 2 < 34) (hsr : sr (nI l)) (hq : q ≤ 3) (e64 : m.1 64 s = nI q) (hm4 : ∀ j, j < 4 → (m.1 64 j).toNatClampNeg ≤ 4) {bs : Int64} (hbs : bs = (((1 : Int64) <<< ((m.1 50 50).toInt64 &&& 63)) ||| (bif decide (m.1 50 51 = -1) then (0 : Int64) else 1 <<< ((m.1 50 51).toInt64 &&& 63)))) (hbn : BN m) : RG (clX (ldS (pS (bkH x) s l 1) s 0 l q) s bs) (clN (toM (z_lys (z_giv (z_giv m s (l + 1) (-1)) s (l + 2) (-1)) s q 0 (nI l))) s) := by
  rw [toM_lys, toM_giv, toM_giv]
  obtain ⟨Q1, f1, f2, f3⟩ := rq_brk Q
  have A := lay_run0 (x := bkH x) (m := toM m) (s := s) (l := l) (q := q) hs hl hq
  have R1 := rc_lay (rc_brk R) A hs hq ((t64_t m s).trans e64) (⟨⟨by decide, by decide⟩, bd_nI (by omega) ⟨by omega, by omega⟩, fun _ => hsr⟩) (fun j hj => by rw [t64_t]; exact hm4 j hj)
  obtain ⟨Q2, g1, g2⟩ := rq_lay Q1 A hs f3 (fun j hj => by
    rw [ct_r hl hj]
    show (if j = (l + 1) ∨ j = (l + 2) then (-1 : Int32) else 0) + _ = _
    by_cases e : j = l
    · rw [if_neg (by omega), if_pos (by omega), if_pos e]; decide
    · by_cases e2 : j = (l + 1) ∨ j = (l + 2)
      · rw [if_pos e2, if_pos (by omega), if_neg e]; decide
      · rw [if_neg e2, if_neg (by omega), if_neg e]; decide)
  have e50 : ∀ k, k ≠ 56 → (z_lys (z_giv (z_giv (toM m) s (l + 1) (-1)) s (l + 2) (-1)) s q 0 (nI l)).1 50 k = m.1 50 k := fun k hk => by
    rw [A.fm 50 k (by decide) (by decide) (by decide) (by decide)]; exact t50_t m hk
  refine ⟨rc_claimed R1, Or.inr ⟨1, s, 34, rp_claimed Q2 hs ?_ ?_ ?_ (by unfold BN; rw [e50 50 (by decide), e50 51 (by decide)]; exact hbn)⟩⟩
  · rw [g1, g2, f1, f2]; exact hfo
  · rw [A.fm 50 56 (by decide) (by decide) (by decide) (by decide)]; exact f3
  · rw [e50 50 (by decide), e50 51 (by decide)]; exact hbs
theorem rg_run1 {x m : zM} {s l q : Nat} (R : RCl x m) (Q : RQ x m (l + 1)) (hfo : x.1 2 3 = m.1 50 47) (hs : s < 4) (hl : l + 2 < 34) (hsr : sr (nI l)) (hq : q ≤ 3) (e64 : m.1 64 s = nI q) (hm4 : ∀ j, j < 4 → (m.1 64 j).toNatClampNeg ≤ 4) {bs : Int64} (hbs : bs = (((1 : Int64) <<< ((m.1 50 50).toInt64 &&& 63)) ||| (bif decide (m.1 50 51 = -1) then (0 : Int64) else 1 <<< ((m.1 50 51).toInt64 &&& 63)))) (hbn : BN m) : RG (clX (ldS (pS (bkH x) s (l + 1) 1) s 0 l q) s bs) (clN (toM (z_lys (z_giv (z_giv m s l (-1)) s (l + 2) (-1)) s q 0 (nI l))) s) := by
  rw [toM_lys, toM_giv, toM_giv]
  obtain ⟨Q1, f1, f2, f3⟩ := rq_brk Q
  have A := lay_run1 (x := bkH x) (m := toM m) (s := s) (l := l) (q := q) hs hl hq
  have R1 := rc_lay (rc_brk R) A hs hq ((t64_t m s).trans e64) (⟨⟨by decide, by decide⟩, bd_nI (by omega) ⟨by omega, by omega⟩, fun _ => hsr⟩) (fun j hj => by rw [t64_t]; exact hm4 j hj)
  obtain ⟨Q2, g1, g2⟩ := rq_lay Q1 A hs f3 (fun j hj => by
    rw [ct_r hl hj]
    show (if j = l ∨ j = (l + 2) then (-1 : Int32) else 0) + _ = _
    by_cases e : j = (l + 1)
    · rw [if_neg (by omega), if_pos (by omega), if_pos e]; decide
    · by_cases e2 : j = l ∨ j = (l + 2)
      · rw [if_pos e2, if_pos (by omega), if_neg e]; decide
      · rw [if_neg e2, if_neg (by omega), if_neg e]; decide)
  have e50 : ∀ k, k ≠ 56 → (z_lys (z_giv (z_giv (toM m) s l (-1)) s (l + 2) (-1)) s q 0 (nI l)).1 50 k = m.1 50 k := fun k hk => by
    rw [A.fm 50 k (by decide) (by decide) (by decide) (by decide)]; exact t50_t m hk
  refine ⟨rc_claimed R1, Or.inr ⟨1, s, 34, rp_claimed Q2 hs ?_ ?_ ?_ (by unfold BN; rw [e50 50 (by decide), e50 51 (by decide)]; exact hbn)⟩⟩
  · rw [g1, g2, f1, f2]; exact hfo
  · rw [A.fm 50 56 (by decide) (by decide) (by decide) (by decide)]; exact f3
  · rw [e50 50 (by decide), e50 51 (by decide)]; exact hbs
theorem rg_run2 {x m : zM} {s l q : Nat} (R : RCl x m) (Q : RQ x m (l + 2)) (hfo : x.1 2 3 = m.1 50 47) (hs : s < 4) (hl : l + 2 < 34) (hsr : sr (nI l)) (hq : q ≤ 3) (e64 : m.1 64 s = nI q) (hm4 : ∀ j, j < 4 → (m.1 64 j).toNatClampNeg ≤ 4) {bs : Int64} (hbs : bs = (((1 : Int64) <<< ((m.1 50 50).toInt64 &&& 63)) ||| (bif decide (m.1 50 51 = -1) then (0 : Int64) else 1 <<< ((m.1 50 51).toInt64 &&& 63)))) (hbn : BN m) : RG (clX (ldS (pS (bkH x) s (l + 2) 1) s 0 l q) s bs) (clN (toM (z_lys (z_giv (z_giv m s l (-1)) s (l + 1) (-1)) s q 0 (nI l))) s) := by
  rw [toM_lys, toM_giv, toM_giv]
  obtain ⟨Q1, f1, f2, f3⟩ := rq_brk Q
  have A := lay_run2 (x := bkH x) (m := toM m) (s := s) (l := l) (q := q) hs hl hq
  have R1 := rc_lay (rc_brk R) A hs hq ((t64_t m s).trans e64) (⟨⟨by decide, by decide⟩, bd_nI (by omega) ⟨by omega, by omega⟩, fun _ => hsr⟩) (fun j hj => by rw [t64_t]; exact hm4 j hj)
  obtain ⟨Q2, g1, g2⟩ := rq_lay Q1 A hs f3 (fun j hj => by
    rw [ct_r hl hj]
    show (if j = l ∨ j = (l + 1) then (-1 : Int32) else 0) + _ = _
    by_cases e : j = (l + 2)
    · rw [if_neg (by omega), if_pos (by omega), if_pos e]; decide
    · by_cases e2 : j = l ∨ j = (l + 1)
      · rw [if_pos e2, if_pos (by omega), if_neg e]; decide
      · rw [if_neg e2, if_neg (by omega), if_neg e]; decide)
  have e50 : ∀ k, k ≠ 56 → (z_lys (z_giv (z_giv (toM m) s l (-1)) s (l + 1) (-1)) s q 0 (nI l)).1 50 k = m.1 50 k := fun k hk => by
    rw [A.fm 50 k (by decide) (by decide) (by decide) (by decide)]; exact t50_t m hk
  refine ⟨rc_claimed R1, Or.inr ⟨1, s, 34, rp_claimed Q2 hs ?_ ?_ ?_ (by unfold BN; rw [e50 50 (by decide), e50 51 (by decide)]; exact hbn)⟩⟩
  · rw [g1, g2, f1, f2]; exact hfo
  · rw [A.fm 50 56 (by decide) (by decide) (by decide) (by decide)]; exact f3
  · rw [e50 50 (by decide), e50 51 (by decide)]; exact hbs
/-! four, pass, add: both games behind them -/
set_option maxRecDepth 8000
theorem toM_tt (m : zM) : toM (toM m) = toM m := by
  refine Prod.ext (funext fun r => funext fun k => ?_) rfl
  by_cases e : r = 69
  · subst e
    by_cases e3 : k = 3
    · subst e3; unfold toM; rw [ui_s, ui_s]
    · by_cases e2 : k = 2
      · subst e2; unfold toM; simp (disch := first | decide | exact ad_ne (by decide) | exact ad_m (by decide) | exact ad_l (by decide) | exact ad_g (by decide) | exact ad_lt (by decide) | exact ad_o (by decide) | omega) only [↓ui_s, ↓ui_k, ui_s, ui_k]
      · by_cases e1 : k = 1
        · subst e1; unfold toM; simp (disch := first | decide | exact ad_ne (by decide) | exact ad_m (by decide) | exact ad_l (by decide) | exact ad_g (by decide) | exact ad_lt (by decide) | exact ad_o (by decide) | omega) only [↓ui_s, ↓ui_k, ui_s, ui_k]
        · by_cases e0 : k = 0
          · subst e0; unfold toM; simp (disch := first | decide | exact ad_ne (by decide) | exact ad_m (by decide) | exact ad_l (by decide) | exact ad_g (by decide) | exact ad_lt (by decide) | exact ad_o (by decide) | omega) only [↓ui_s, ↓ui_k, ui_s, ui_k]
          · unfold toM; simp (disch := first | decide | exact ad_ne (by decide) | exact ad_m (by decide) | exact ad_l (by decide) | exact ad_g (by decide) | exact ad_lt (by decide) | exact ad_o (by decide) | omega) only [↓ui_s, ↓ui_k, ↓ui_o, ui_s, ui_k, ui_o]
  · by_cases e5 : r = 50 ∧ k = 56
    · obtain ⟨rfl, rfl⟩ := e5
      rw [h56_t, h56_t]
    · exact toM_o ⟨e, by omega⟩
noncomputable def tkW (y : zM) (s : Nat) : zM := z_ui (z_ui (z_ui y 0 8 (nI s)) 0 7 1) 0 15 (-1)
theorem rc_tkW {x m : zM} (R : RCl x m) (s : Nat) : RCl (tkW x s) m := RCl.cg2 (x := x) (x' := tkW x s) (m := m) (m' := m) (q2_xu (q2_xu (q2_xu (q2_x _) (by unfold gX2; omega)) (by unfold gX2; omega)) (by unfold gX2; omega)) (q2_m _) R
theorem rq_tkW {x m : zM} {lb : Nat} (Q : RQ x m lb) (s : Nat) : RQ (tkW x s) m lb ∧ (tkW x s).1 2 3 = x.1 2 3 := by
  unfold tkW
  refine ⟨⟨(by rw [ui_k (by decide), ui_k (by decide), ui_k (by decide)]; exact Q.br), Q.us, fun j h => by rw [ui_o (by first | decide | omega), ui_o (by first | decide | omega), ui_o (by first | decide | omega)]; exact Q.ow j h, Q.o1, Q.is, Q.s1, Q.w0, Q.dn, Q.dr, Q.tc.cg (fun j k _ _ => by rw [ui_o (by first | decide | omega), ui_o (by first | decide | omega), ui_o (by first | decide | omega)]) (fun _ => rfl) rfl rfl⟩, by rw [ui_o (by decide), ui_o (by decide), ui_o (by decide)]⟩
theorem rg_four {x m : zM} {s c q n k2 : Nat} (R : RCl x m) (Q : RQ x m c) (hs : s < 4) (hc : c < 34) (hq : q ≤ 3) (e64 : m.1 64 s = nI q) (hm4 : ∀ j, j < 4 → (m.1 64 j).toNatClampNeg ≤ 4) (hn : n < 4) (e47 : m.1 50 47 = nI n) (e48 : m.1 50 48 = nI n) (hk2 : k2 < 34) (hw : m.1 59 (122 + n) = nI k2) (hnx : bI 0 122 (m.1 50 46)) (hh : ¬ (z_giv m s c (-3)).1 60 (34 * s + k2) = -1) : RG (dT1 (bkH (tkW (ldS (pS (bkH x) s c 1) s 2 c q) s)) s n k2) (dM1 (z_ui (toM (z_lys (z_giv m s c (-3)) s q 2 (nI c))) 50 47 (m.1 50 47 + 1)) s n k2) := by
  rw [toM_lys, toM_giv]
  obtain ⟨Q1, f1, f2, f3⟩ := rq_brk Q
  have A := lay_four (x := bkH x) (m := toM m) (s := s) (c := c) (q := q) hs hc hq
  have R1 := rc_lay (rc_brk R) A hs hq ((t64_t m s).trans e64) (svd_n ⟨by decide, by decide⟩ (by decide) hc) (fun j hj => by rw [t64_t]; exact hm4 j hj)
  obtain ⟨Q2, g1, g2⟩ := rq_lay Q1 A hs f3 (fun j hj => by
    rw [ct_n9 (by decide) hc hj]
    show (if j = c then (-3 : Int32) else 0) + _ = _
    by_cases e : j = c
    · rw [if_pos e, if_pos e, if_pos e]; decide
    · rw [if_neg e, if_neg e, if_neg e]; decide)
  have R2 := rc_brk (rc_tkW R1 s)
  obtain ⟨Q3, -⟩ := rq_tkW Q2 s
  obtain ⟨Q4, -, -, -⟩ := rq_brk Q3
  have eT : toM (z_lys (z_giv (toM m) s c (-3)) s q 2 (nI c)) = z_lys (z_giv (toM m) s c (-3)) s q 2 (nI c) := by rw [toM_lys, toM_giv, toM_tt]
  rw [eT] at R2 Q4
  have R5 := rc_47 R2 (m.1 50 47 + 1)
  have Q5 := rq_47 Q4 (m.1 50 47 + 1)
  have g : ∀ r k', r ≠ 60 → r ≠ 62 → r ≠ 63 → r ≠ 64 → r ≠ 69 → (r ≠ 50 ∨ (k' ≠ 56 ∧ k' ≠ 47)) → (z_ui (z_lys (z_giv (toM m) s c (-3)) s q 2 (nI c)) 50 47 (m.1 50 47 + 1)).1 r k' = m.1 r k' := fun r k' h1 h2 h3 h4 h5 h6 => by
    have z : (z_lys (z_giv (toM m) s c (-3)) s q 2 (nI c)).1 r k' = m.1 r k' := by rw [lys_o ⟨h2, h3, h4⟩, giv_o h1, toM_o ⟨h5, by omega⟩]
    by_cases e : r = 50
    · rw [ui_k (by first | decide | omega)]; exact z
    · rw [ui_o e]; exact z
  refine ⟨rc_draw1 R5 hs hk2, Or.inr ⟨1, s, k2, rp_draw1 R5 Q5 hs hk2 ?_ hn ?_ ?_ ?_ (by rw [ui_o (by decide), lys_o ⟨by decide, by decide, by decide⟩, ← toM_giv, toM_o ⟨by decide, Or.inl (by decide)⟩]; exact hh)⟩⟩
  · rw [g 50 48 (by omega) (by omega) (by omega) (by omega) (by omega) (by omega)]; exact e48
  · rw [g 50 46 (by omega) (by omega) (by omega) (by omega) (by omega) (by omega)]; exact hnx
  · rw [g 59 _ (by omega) (by omega) (by omega) (by omega) (by omega) (by omega)]; exact hw
  · rw [ui_s, e47, nI_s1]
/-- a FOUR by an added tile goes through -/
theorem rg_pass3 {x m : zM} {t n k2 : Nat} (R : RCl x m) (Q : RQ x m 34) (ht : t < 4) (hn : n < 4) (e47 : m.1 50 47 = nI n) (e48 : m.1 50 48 = nI n) (hk2 : k2 < 34) (hw : m.1 59 (122 + n) = nI k2) (hnx : bI 0 122 (m.1 50 46)) (hh : ¬ m.1 60 (34 * t + k2) = -1) : RG (dT1 (bkH x) t n k2) (dM1 (toM (z_ui m 50 47 (m.1 50 47 + 1))) t n k2) := by
  rw [toM_47]
  obtain ⟨Q1, -, -, -⟩ := rq_brk Q
  have R5 := rc_47 (rc_brk R) (m.1 50 47 + 1)
  have Q5 := rq_47 Q1 (m.1 50 47 + 1)
  have g : ∀ r k', r ≠ 69 → (r ≠ 50 ∨ (k' ≠ 56 ∧ k' ≠ 47)) → (z_ui (toM m) 50 47 (m.1 50 47 + 1)).1 r k' = m.1 r k' := fun r k' h5 h6 => by
    have z : (toM m).1 r k' = m.1 r k' := toM_o ⟨h5, by omega⟩
    by_cases e : r = 50
    · rw [ui_k (by first | decide | omega)]; exact z
    · rw [ui_o e]; exact z
  refine ⟨rc_draw1 R5 ht hk2, Or.inr ⟨1, t, k2, rp_draw1 R5 Q5 ht hk2 ?_ hn ?_ ?_ ?_ (by rw [g 60 _ (by omega) (by omega)]; exact hh)⟩⟩
  · rw [g 50 48 (by omega) (by omega)]; exact e48
  · rw [g 50 46 (by omega) (by omega)]; exact hnx
  · rw [g 59 _ (by omega) (by omega)]; exact hw
  · rw [ui_s, e47, nI_s1]
/-- the next draws -/
theorem rg_pass2 {x m : zM} {u n k : Nat} (R : RCl x m) (Q : RQ x m 34) (hu : u < 4) (hk : k < 34) (hn : m.1 50 46 = nI n) (hn2 : n < 122) (hbk : bI 0 4 (m.1 50 48)) (hw : m.1 59 n = nI k) (hfo : x.1 2 3 = m.1 50 47) (hh : ¬ m.1 60 (34 * u + k) = -1) : RG (dT0 x u n k) (dM0 m u n k) := ⟨rc_draw0 R hu hk hn, Or.inr ⟨1, u, k, rp_draw0 R Q hu hk hn hn2 hbk hw hfo hh⟩⟩
/-- the tile that nobody wanted lies no more between -/
theorem rq_34 {x m : zM} {c : Nat} (Q : RQ x m c) : RQ x m 34 := ⟨Q.br, Q.us, Q.ow, Q.o1, Q.is, Q.s1, Q.w0, Q.dn, Q.dr, Q.tc.elim fun a z => ⟨a, z.1, fun k hk => by have y := z.2 k hk; simp only [show ¬ 34 = k by omega, if_false]; omega⟩⟩
/-! ends: both games behind them -/
set_option maxRecDepth 8000
theorem rg_ends {x m : zM} (R : RCl x m) (hfo : x.1 2 3 = m.1 50 47) (htu : x.1 0 8 = m.1 50 45) {dl e : Nat} (hdl : m.1 50 40 = nI dl) (hdl4 : dl < 4) (he : (dl + 1) % 4 = e) (ds ow : Bool) : RG (eHB x ds ow (xBk x) dl e (rcM x)) (eMB m ds (!ow) dl e) := by
  obtain ⟨h1, p1, p2, p3, p4, p5, p6, p7⟩ := rc_ends R hdl hdl4 he ds ow
  exact ⟨h1, Or.inl ⟨p1, p2, p3, p4.trans (hfo.trans p5.symm), p6.trans (htu.trans p7.symm)⟩⟩
theorem rg_win0_1 {x m W : zM} (R : RCl x m) (hfo : x.1 2 3 = m.1 50 47) (htu : x.1 0 8 = m.1 50 45) {dl e c : Nat} (hdl : m.1 50 40 = nI dl) (hdl4 : dl < 4) (he : (dl + 1) % 4 = e) (hb : x.1 4 0 = W.1 50 13) (hh : x.1 4 1 = W.1 50 14) (hf : x.2.1 4 3 = W.2.1 50 17) (hc : x.1 0 15 = nI c) : RG (wn1 x 0 dl e 1 2 3) (wM0_1 m W dl e c) := by
  rw [wn1_p, wM0_1p]
  have R1 := rc_win0_1 (dl := dl) R hb hh hf hc
  refine rg_ends R1 ?_ ?_ ?_ hdl4 he true false
  · unfold wp1 wq0_1 rcW; simp (disch := first | decide | exact ad_ne (by decide) | exact ad_m (by decide) | exact ad_l (by decide) | exact ad_g (by decide) | exact ad_lt (by decide) | exact ad_o (by decide) | omega) only [↓ui_s, ↓uj_s, ↓ui_o, ↓ui_k, ↓uj_o, ↓uj_k, ↓ui_j, ↓uj_i, ui_s, uj_s, ui_o, ui_k, uj_o, uj_k, ui_j, uj_i]; exact hfo
  · unfold wp1 wq0_1 rcW; simp (disch := first | decide | exact ad_ne (by decide) | exact ad_m (by decide) | exact ad_l (by decide) | exact ad_g (by decide) | exact ad_lt (by decide) | exact ad_o (by decide) | omega) only [↓ui_s, ↓uj_s, ↓ui_o, ↓ui_k, ↓uj_o, ↓uj_k, ↓ui_j, ↓uj_i, ui_s, uj_s, ui_o, ui_k, uj_o, uj_k, ui_j, uj_i]; exact htu
  · unfold wq0_1; simp (disch := first | decide | exact ad_ne (by decide) | exact ad_m (by decide) | exact ad_l (by decide) | exact ad_g (by decide) | exact ad_lt (by decide) | exact ad_o (by decide) | omega) only [↓ui_s, ↓uj_s, ↓ui_o, ↓ui_k, ↓uj_o, ↓uj_k, ↓ui_j, ↓uj_i, ui_s, uj_s, ui_o, ui_k, uj_o, uj_k, ui_j, uj_i]; exact hdl
theorem rg_win0_0 {x m W : zM} (R : RCl x m) (hfo : x.1 2 3 = m.1 50 47) (htu : x.1 0 8 = m.1 50 45) {dl e c : Nat} (hdl : m.1 50 40 = nI dl) (hdl4 : dl < 4) (he : (dl + 1) % 4 = e) (hb : x.1 4 0 = W.1 50 13) (hh : x.1 4 1 = W.1 50 14) (hf : x.2.1 4 3 = W.2.1 50 17) (hc : x.1 0 15 = nI c) : RG (wn0 x 0 dl e 1 2 3) (wM0_0 m W dl e c) := by
  rw [wn0_p, wM0_0p]
  have R1 := rc_win0_0 (dl := dl) R hb hh hf hc
  refine rg_ends R1 ?_ ?_ ?_ hdl4 he false true
  · unfold wp0 wq0_0 rcW; simp (disch := first | decide | exact ad_ne (by decide) | exact ad_m (by decide) | exact ad_l (by decide) | exact ad_g (by decide) | exact ad_lt (by decide) | exact ad_o (by decide) | omega) only [↓ui_s, ↓uj_s, ↓ui_o, ↓ui_k, ↓uj_o, ↓uj_k, ↓ui_j, ↓uj_i, ui_s, uj_s, ui_o, ui_k, uj_o, uj_k, ui_j, uj_i]; exact hfo
  · unfold wp0 wq0_0 rcW; simp (disch := first | decide | exact ad_ne (by decide) | exact ad_m (by decide) | exact ad_l (by decide) | exact ad_g (by decide) | exact ad_lt (by decide) | exact ad_o (by decide) | omega) only [↓ui_s, ↓uj_s, ↓ui_o, ↓ui_k, ↓uj_o, ↓uj_k, ↓ui_j, ↓uj_i, ui_s, uj_s, ui_o, ui_k, uj_o, uj_k, ui_j, uj_i]; exact htu
  · unfold wq0_0; simp (disch := first | decide | exact ad_ne (by decide) | exact ad_m (by decide) | exact ad_l (by decide) | exact ad_g (by decide) | exact ad_lt (by decide) | exact ad_o (by decide) | omega) only [↓ui_s, ↓uj_s, ↓ui_o, ↓ui_k, ↓uj_o, ↓uj_k, ↓ui_j, ↓uj_i, ui_s, uj_s, ui_o, ui_k, uj_o, uj_k, ui_j, uj_i]; exact hdl
theorem rg_win1_1 {x m W : zM} (R : RCl x m) (hfo : x.1 2 3 = m.1 50 47) (htu : x.1 0 8 = m.1 50 45) {dl e c : Nat} (hdl : m.1 50 40 = nI dl) (hdl4 : dl < 4) (he : (dl + 1) % 4 = e) (hb : x.1 4 0 = W.1 50 13) (hh : x.1 4 1 = W.1 50 14) (hf : x.2.1 4 3 = W.2.1 50 17) (hc : x.1 0 15 = nI c) : RG (wn1 x 1 dl e 2 3 0) (wM1_1 m W dl e c) := by
  rw [wn1_p, wM1_1p]
  have R1 := rc_win1_1 (dl := dl) R hb hh hf hc
  refine rg_ends R1 ?_ ?_ ?_ hdl4 he true false
  · unfold wp1 wq1_1 rcW; simp (disch := first | decide | exact ad_ne (by decide) | exact ad_m (by decide) | exact ad_l (by decide) | exact ad_g (by decide) | exact ad_lt (by decide) | exact ad_o (by decide) | omega) only [↓ui_s, ↓uj_s, ↓ui_o, ↓ui_k, ↓uj_o, ↓uj_k, ↓ui_j, ↓uj_i, ui_s, uj_s, ui_o, ui_k, uj_o, uj_k, ui_j, uj_i]; exact hfo
  · unfold wp1 wq1_1 rcW; simp (disch := first | decide | exact ad_ne (by decide) | exact ad_m (by decide) | exact ad_l (by decide) | exact ad_g (by decide) | exact ad_lt (by decide) | exact ad_o (by decide) | omega) only [↓ui_s, ↓uj_s, ↓ui_o, ↓ui_k, ↓uj_o, ↓uj_k, ↓ui_j, ↓uj_i, ui_s, uj_s, ui_o, ui_k, uj_o, uj_k, ui_j, uj_i]; exact htu
  · unfold wq1_1; simp (disch := first | decide | exact ad_ne (by decide) | exact ad_m (by decide) | exact ad_l (by decide) | exact ad_g (by decide) | exact ad_lt (by decide) | exact ad_o (by decide) | omega) only [↓ui_s, ↓uj_s, ↓ui_o, ↓ui_k, ↓uj_o, ↓uj_k, ↓ui_j, ↓uj_i, ui_s, uj_s, ui_o, ui_k, uj_o, uj_k, ui_j, uj_i]; exact hdl
theorem rg_win1_0 {x m W : zM} (R : RCl x m) (hfo : x.1 2 3 = m.1 50 47) (htu : x.1 0 8 = m.1 50 45) {dl e c : Nat} (hdl : m.1 50 40 = nI dl) (hdl4 : dl < 4) (he : (dl + 1) % 4 = e) (hb : x.1 4 0 = W.1 50 13) (hh : x.1 4 1 = W.1 50 14) (hf : x.2.1 4 3 = W.2.1 50 17) (hc : x.1 0 15 = nI c) : RG (wn0 x 1 dl e 2 3 0) (wM1_0 m W dl e c) := by
  rw [wn0_p, wM1_0p]
  have R1 := rc_win1_0 (dl := dl) R hb hh hf hc
  refine rg_ends R1 ?_ ?_ ?_ hdl4 he false true
  · unfold wp0 wq1_0 rcW; simp (disch := first | decide | exact ad_ne (by decide) | exact ad_m (by decide) | exact ad_l (by decide) | exact ad_g (by decide) | exact ad_lt (by decide) | exact ad_o (by decide) | omega) only [↓ui_s, ↓uj_s, ↓ui_o, ↓ui_k, ↓uj_o, ↓uj_k, ↓ui_j, ↓uj_i, ui_s, uj_s, ui_o, ui_k, uj_o, uj_k, ui_j, uj_i]; exact hfo
  · unfold wp0 wq1_0 rcW; simp (disch := first | decide | exact ad_ne (by decide) | exact ad_m (by decide) | exact ad_l (by decide) | exact ad_g (by decide) | exact ad_lt (by decide) | exact ad_o (by decide) | omega) only [↓ui_s, ↓uj_s, ↓ui_o, ↓ui_k, ↓uj_o, ↓uj_k, ↓ui_j, ↓uj_i, ui_s, uj_s, ui_o, ui_k, uj_o, uj_k, ui_j, uj_i]; exact htu
  · unfold wq1_0; simp (disch := first | decide | exact ad_ne (by decide) | exact ad_m (by decide) | exact ad_l (by decide) | exact ad_g (by decide) | exact ad_lt (by decide) | exact ad_o (by decide) | omega) only [↓ui_s, ↓uj_s, ↓ui_o, ↓ui_k, ↓uj_o, ↓uj_k, ↓ui_j, ↓uj_i, ui_s, uj_s, ui_o, ui_k, uj_o, uj_k, ui_j, uj_i]; exact hdl
theorem rg_win2_1 {x m W : zM} (R : RCl x m) (hfo : x.1 2 3 = m.1 50 47) (htu : x.1 0 8 = m.1 50 45) {dl e c : Nat} (hdl : m.1 50 40 = nI dl) (hdl4 : dl < 4) (he : (dl + 1) % 4 = e) (hb : x.1 4 0 = W.1 50 13) (hh : x.1 4 1 = W.1 50 14) (hf : x.2.1 4 3 = W.2.1 50 17) (hc : x.1 0 15 = nI c) : RG (wn1 x 2 dl e 3 0 1) (wM2_1 m W dl e c) := by
  rw [wn1_p, wM2_1p]
  have R1 := rc_win2_1 (dl := dl) R hb hh hf hc
  refine rg_ends R1 ?_ ?_ ?_ hdl4 he true false
  · unfold wp1 wq2_1 rcW; simp (disch := first | decide | exact ad_ne (by decide) | exact ad_m (by decide) | exact ad_l (by decide) | exact ad_g (by decide) | exact ad_lt (by decide) | exact ad_o (by decide) | omega) only [↓ui_s, ↓uj_s, ↓ui_o, ↓ui_k, ↓uj_o, ↓uj_k, ↓ui_j, ↓uj_i, ui_s, uj_s, ui_o, ui_k, uj_o, uj_k, ui_j, uj_i]; exact hfo
  · unfold wp1 wq2_1 rcW; simp (disch := first | decide | exact ad_ne (by decide) | exact ad_m (by decide) | exact ad_l (by decide) | exact ad_g (by decide) | exact ad_lt (by decide) | exact ad_o (by decide) | omega) only [↓ui_s, ↓uj_s, ↓ui_o, ↓ui_k, ↓uj_o, ↓uj_k, ↓ui_j, ↓uj_i, ui_s, uj_s, ui_o, ui_k, uj_o, uj_k, ui_j, uj_i]; exact htu
  · unfold wq2_1; simp (disch := first | decide | exact ad_ne (by decide) | exact ad_m (by decide) | exact ad_l (by decide) | exact ad_g (by decide) | exact ad_lt (by decide) | exact ad_o (by decide) | omega) only [↓ui_s, ↓uj_s, ↓ui_o, ↓ui_k, ↓uj_o, ↓uj_k, ↓ui_j, ↓uj_i, ui_s, uj_s, ui_o, ui_k, uj_o, uj_k, ui_j, uj_i]; exact hdl
theorem rg_win2_0 {x m W : zM} (R : RCl x m) (hfo : x.1 2 3 = m.1 50 47) (htu : x.1 0 8 = m.1 50 45) {dl e c : Nat} (hdl : m.1 50 40 = nI dl) (hdl4 : dl < 4) (he : (dl + 1) % 4 = e) (hb : x.1 4 0 = W.1 50 13) (hh : x.1 4 1 = W.1 50 14) (hf : x.2.1 4 3 = W.2.1 50 17) (hc : x.1 0 15 = nI c) : RG (wn0 x 2 dl e 3 0 1) (wM2_0 m W dl e c) := by
  rw [wn0_p, wM2_0p]
  have R1 := rc_win2_0 (dl := dl) R hb hh hf hc
  refine rg_ends R1 ?_ ?_ ?_ hdl4 he false true
  · unfold wp0 wq2_0 rcW; simp (disch := first | decide | exact ad_ne (by decide) | exact ad_m (by decide) | exact ad_l (by decide) | exact ad_g (by decide) | exact ad_lt (by decide) | exact ad_o (by decide) | omega) only [↓ui_s, ↓uj_s, ↓ui_o, ↓ui_k, ↓uj_o, ↓uj_k, ↓ui_j, ↓uj_i, ui_s, uj_s, ui_o, ui_k, uj_o, uj_k, ui_j, uj_i]; exact hfo
  · unfold wp0 wq2_0 rcW; simp (disch := first | decide | exact ad_ne (by decide) | exact ad_m (by decide) | exact ad_l (by decide) | exact ad_g (by decide) | exact ad_lt (by decide) | exact ad_o (by decide) | omega) only [↓ui_s, ↓uj_s, ↓ui_o, ↓ui_k, ↓uj_o, ↓uj_k, ↓ui_j, ↓uj_i, ui_s, uj_s, ui_o, ui_k, uj_o, uj_k, ui_j, uj_i]; exact htu
  · unfold wq2_0; simp (disch := first | decide | exact ad_ne (by decide) | exact ad_m (by decide) | exact ad_l (by decide) | exact ad_g (by decide) | exact ad_lt (by decide) | exact ad_o (by decide) | omega) only [↓ui_s, ↓uj_s, ↓ui_o, ↓ui_k, ↓uj_o, ↓uj_k, ↓ui_j, ↓uj_i, ui_s, uj_s, ui_o, ui_k, uj_o, uj_k, ui_j, uj_i]; exact hdl
theorem rg_win3_1 {x m W : zM} (R : RCl x m) (hfo : x.1 2 3 = m.1 50 47) (htu : x.1 0 8 = m.1 50 45) {dl e c : Nat} (hdl : m.1 50 40 = nI dl) (hdl4 : dl < 4) (he : (dl + 1) % 4 = e) (hb : x.1 4 0 = W.1 50 13) (hh : x.1 4 1 = W.1 50 14) (hf : x.2.1 4 3 = W.2.1 50 17) (hc : x.1 0 15 = nI c) : RG (wn1 x 3 dl e 0 1 2) (wM3_1 m W dl e c) := by
  rw [wn1_p, wM3_1p]
  have R1 := rc_win3_1 (dl := dl) R hb hh hf hc
  refine rg_ends R1 ?_ ?_ ?_ hdl4 he true false
  · unfold wp1 wq3_1 rcW; simp (disch := first | decide | exact ad_ne (by decide) | exact ad_m (by decide) | exact ad_l (by decide) | exact ad_g (by decide) | exact ad_lt (by decide) | exact ad_o (by decide) | omega) only [↓ui_s, ↓uj_s, ↓ui_o, ↓ui_k, ↓uj_o, ↓uj_k, ↓ui_j, ↓uj_i, ui_s, uj_s, ui_o, ui_k, uj_o, uj_k, ui_j, uj_i]; exact hfo
  · unfold wp1 wq3_1 rcW; simp (disch := first | decide | exact ad_ne (by decide) | exact ad_m (by decide) | exact ad_l (by decide) | exact ad_g (by decide) | exact ad_lt (by decide) | exact ad_o (by decide) | omega) only [↓ui_s, ↓uj_s, ↓ui_o, ↓ui_k, ↓uj_o, ↓uj_k, ↓ui_j, ↓uj_i, ui_s, uj_s, ui_o, ui_k, uj_o, uj_k, ui_j, uj_i]; exact htu
  · unfold wq3_1; simp (disch := first | decide | exact ad_ne (by decide) | exact ad_m (by decide) | exact ad_l (by decide) | exact ad_g (by decide) | exact ad_lt (by decide) | exact ad_o (by decide) | omega) only [↓ui_s, ↓uj_s, ↓ui_o, ↓ui_k, ↓uj_o, ↓uj_k, ↓ui_j, ↓uj_i, ui_s, uj_s, ui_o, ui_k, uj_o, uj_k, ui_j, uj_i]; exact hdl
theorem rg_win3_0 {x m W : zM} (R : RCl x m) (hfo : x.1 2 3 = m.1 50 47) (htu : x.1 0 8 = m.1 50 45) {dl e c : Nat} (hdl : m.1 50 40 = nI dl) (hdl4 : dl < 4) (he : (dl + 1) % 4 = e) (hb : x.1 4 0 = W.1 50 13) (hh : x.1 4 1 = W.1 50 14) (hf : x.2.1 4 3 = W.2.1 50 17) (hc : x.1 0 15 = nI c) : RG (wn0 x 3 dl e 0 1 2) (wM3_0 m W dl e c) := by
  rw [wn0_p, wM3_0p]
  have R1 := rc_win3_0 (dl := dl) R hb hh hf hc
  refine rg_ends R1 ?_ ?_ ?_ hdl4 he false true
  · unfold wp0 wq3_0 rcW; simp (disch := first | decide | exact ad_ne (by decide) | exact ad_m (by decide) | exact ad_l (by decide) | exact ad_g (by decide) | exact ad_lt (by decide) | exact ad_o (by decide) | omega) only [↓ui_s, ↓uj_s, ↓ui_o, ↓ui_k, ↓uj_o, ↓uj_k, ↓ui_j, ↓uj_i, ui_s, uj_s, ui_o, ui_k, uj_o, uj_k, ui_j, uj_i]; exact hfo
  · unfold wp0 wq3_0 rcW; simp (disch := first | decide | exact ad_ne (by decide) | exact ad_m (by decide) | exact ad_l (by decide) | exact ad_g (by decide) | exact ad_lt (by decide) | exact ad_o (by decide) | omega) only [↓ui_s, ↓uj_s, ↓ui_o, ↓ui_k, ↓uj_o, ↓uj_k, ↓ui_j, ↓uj_i, ui_s, uj_s, ui_o, ui_k, uj_o, uj_k, ui_j, uj_i]; exact htu
  · unfold wq3_0; simp (disch := first | decide | exact ad_ne (by decide) | exact ad_m (by decide) | exact ad_l (by decide) | exact ad_g (by decide) | exact ad_lt (by decide) | exact ad_o (by decide) | omega) only [↓ui_s, ↓uj_s, ↓ui_o, ↓ui_k, ↓uj_o, ↓uj_k, ↓ui_j, ↓uj_i, ui_s, uj_s, ui_o, ui_k, uj_o, uj_k, ui_j, uj_i]; exact hdl
/-! all that said so win: both games behind it -/
set_option maxRecDepth 8000
theorem rg_aw001 {x m W3 N3 : zM} {v3 : Q4} (R : RCl x m) {t dl e c u1 u2 u3 : Nat} (hfo : x.1 2 3 = m.1 50 47) (htu : x.1 0 8 = m.1 50 45) (hdl : m.1 50 40 = nI dl) (hdl4 : dl < 4) (he : (dl + 1) % 4 = e) (ht : t < 4) (hu1 : (t + 1) % 4 = u1) (hu2 : (t + 2) % 4 = u2) (hu3 : (t + 3) % 4 = u3) (hc : x.1 0 15 = nI c) (hO3 : WOj (x) W3) (hv3 : bqJ W3 = v3) (hb3 : v3.1 = N3.1 50 13) (hh3 : v3.2.1 = N3.1 50 14) (hf3 : v3.2.2.2 = N3.2.1 50 17) : RG (wA001 W3 t dl e u1 u2 u3 v3 x) (aM001 m N3 t dl e c u1 u2 u3) := by
  rw [wA001_p, aM001_p]
  have R1 := rc_aw001 (dl := dl) R ht hu1 hu2 hu3 hc hO3 hv3 hb3 hh3 hf3
  have o3 := fun r k h => (hO3 r k h).1
  have h1 : u1 < 4 := by omega
  have h2 : u2 < 4 := by omega
  have h3 : u3 < 4 := by omega
  have g := rg_ends R1 (dl := dl) (e := e) ?_ ?_ ?_ hdl4 he ((decide ((nI u3) = (nI dl)))) (!((decide ((nI u3) = (nI dl)))))
  · rw [Bool.not_not] at g; exact g
  · unfold wa001 aq001; unfold rcW at *; simp (disch := first | decide | exact ad_ne (by decide) | exact ad_m (by decide) | exact ad_l (by decide) | exact ad_g (by decide) | exact ad_lt (by decide) | exact ad_o (by decide) | omega) only [↓ui_s, ↓uj_s, ↓ui_o, ↓ui_k, ↓uj_o, ↓uj_k, ↓ui_j, ↓uj_i, ↓o3, ui_s, uj_s, ui_o, ui_k, uj_o, uj_k, ui_j, uj_i, o3]; exact hfo
  · unfold wa001 aq001; unfold rcW at *; simp (disch := first | decide | exact ad_ne (by decide) | exact ad_m (by decide) | exact ad_l (by decide) | exact ad_g (by decide) | exact ad_lt (by decide) | exact ad_o (by decide) | omega) only [↓ui_s, ↓uj_s, ↓ui_o, ↓ui_k, ↓uj_o, ↓uj_k, ↓ui_j, ↓uj_i, ↓o3, ui_s, uj_s, ui_o, ui_k, uj_o, uj_k, ui_j, uj_i, o3]; exact htu
  · unfold aq001; simp (disch := first | decide | exact ad_ne (by decide) | exact ad_m (by decide) | exact ad_l (by decide) | exact ad_g (by decide) | exact ad_lt (by decide) | exact ad_o (by decide) | omega) only [↓ui_s, ↓uj_s, ↓ui_o, ↓ui_k, ↓uj_o, ↓uj_k, ↓ui_j, ↓uj_i, ui_s, uj_s, ui_o, ui_k, uj_o, uj_k, ui_j, uj_i]; exact hdl
theorem rg_aw010 {x m W2 N2 : zM} {v2 : Q4} (R : RCl x m) {t dl e c u1 u2 u3 : Nat} (hfo : x.1 2 3 = m.1 50 47) (htu : x.1 0 8 = m.1 50 45) (hdl : m.1 50 40 = nI dl) (hdl4 : dl < 4) (he : (dl + 1) % 4 = e) (ht : t < 4) (hu1 : (t + 1) % 4 = u1) (hu2 : (t + 2) % 4 = u2) (hu3 : (t + 3) % 4 = u3) (hc : x.1 0 15 = nI c) (hO2 : WOj (x) W2) (hv2 : bqJ W2 = v2) (hb2 : v2.1 = N2.1 50 13) (hh2 : v2.2.1 = N2.1 50 14) (hf2 : v2.2.2.2 = N2.2.1 50 17) : RG (wA010 W2 t dl e u1 u2 u3 v2 x) (aM010 m N2 t dl e c u1 u2 u3) := by
  rw [wA010_p, aM010_p]
  have R1 := rc_aw010 (dl := dl) R ht hu1 hu2 hu3 hc hO2 hv2 hb2 hh2 hf2
  have o2 := fun r k h => (hO2 r k h).1
  have h1 : u1 < 4 := by omega
  have h2 : u2 < 4 := by omega
  have h3 : u3 < 4 := by omega
  have g := rg_ends R1 (dl := dl) (e := e) ?_ ?_ ?_ hdl4 he ((decide ((nI u2) = (nI dl)))) (!((decide ((nI u2) = (nI dl)))))
  · rw [Bool.not_not] at g; exact g
  · unfold wa010 aq010; unfold rcW at *; simp (disch := first | decide | exact ad_ne (by decide) | exact ad_m (by decide) | exact ad_l (by decide) | exact ad_g (by decide) | exact ad_lt (by decide) | exact ad_o (by decide) | omega) only [↓ui_s, ↓uj_s, ↓ui_o, ↓ui_k, ↓uj_o, ↓uj_k, ↓ui_j, ↓uj_i, ↓o2, ui_s, uj_s, ui_o, ui_k, uj_o, uj_k, ui_j, uj_i, o2]; exact hfo
  · unfold wa010 aq010; unfold rcW at *; simp (disch := first | decide | exact ad_ne (by decide) | exact ad_m (by decide) | exact ad_l (by decide) | exact ad_g (by decide) | exact ad_lt (by decide) | exact ad_o (by decide) | omega) only [↓ui_s, ↓uj_s, ↓ui_o, ↓ui_k, ↓uj_o, ↓uj_k, ↓ui_j, ↓uj_i, ↓o2, ui_s, uj_s, ui_o, ui_k, uj_o, uj_k, ui_j, uj_i, o2]; exact htu
  · unfold aq010; simp (disch := first | decide | exact ad_ne (by decide) | exact ad_m (by decide) | exact ad_l (by decide) | exact ad_g (by decide) | exact ad_lt (by decide) | exact ad_o (by decide) | omega) only [↓ui_s, ↓uj_s, ↓ui_o, ↓ui_k, ↓uj_o, ↓uj_k, ↓ui_j, ↓uj_i, ui_s, uj_s, ui_o, ui_k, uj_o, uj_k, ui_j, uj_i]; exact hdl
theorem rg_aw011 {x m W2 W3 N2 N3 : zM} {v2 v3 : Q4} (R : RCl x m) {t dl e c u1 u2 u3 : Nat} (hfo : x.1 2 3 = m.1 50 47) (htu : x.1 0 8 = m.1 50 45) (hdl : m.1 50 40 = nI dl) (hdl4 : dl < 4) (he : (dl + 1) % 4 = e) (ht : t < 4) (hu1 : (t + 1) % 4 = u1) (hu2 : (t + 2) % 4 = u2) (hu3 : (t + 3) % 4 = u3) (hc : x.1 0 15 = nI c) (hO2 : WOj (x) W2) (hv2 : bqJ W2 = v2) (hb2 : v2.1 = N2.1 50 13) (hh2 : v2.2.1 = N2.1 50 14) (hf2 : v2.2.2.2 = N2.2.1 50 17) (hO3 : WOj (z_ui (rcW (z_ui (z_ui W2 (18 + 8 * t) 4 ((x.1 (18 + 8 * t) 4) - ((hnd (v2.1 * (bif decide ((nI u2) = (nI dl)) then (6 : Int32) else 4))) + (300 * (x.1 0 11))))) (18 + 8 * u2) 4 ((x.1 (18 + 8 * u2) 4) + (((hnd (v2.1 * (bif decide ((nI u2) = (nI dl)) then (6 : Int32) else 4))) + (300 * (x.1 0 11))) + ((x.1 0 12) * 1000)))) 0 (nI u2) (nI t) (((hnd (v2.1 * (bif decide ((nI u2) = (nI dl)) then (6 : Int32) else 4))) + (300 * (x.1 0 11))) + ((x.1 0 12) * 1000))) 0 12 0) W3) (hv3 : bqJ W3 = v3) (hb3 : v3.1 = N3.1 50 13) (hh3 : v3.2.1 = N3.1 50 14) (hf3 : v3.2.2.2 = N3.2.1 50 17) : RG (wA011 W3 t dl e u1 u2 u3 v2 v3 x) (aM011 m N2 N3 t dl e c u1 u2 u3) := by
  rw [wA011_p, aM011_p]
  have R1 := rc_aw011 (dl := dl) R ht hu1 hu2 hu3 hc hO2 hv2 hb2 hh2 hf2 hO3 hv3 hb3 hh3 hf3
  have o2 := fun r k h => (hO2 r k h).1
  have o3 := fun r k h => (hO3 r k h).1
  have h1 : u1 < 4 := by omega
  have h2 : u2 < 4 := by omega
  have h3 : u3 < 4 := by omega
  have g := rg_ends R1 (dl := dl) (e := e) ?_ ?_ ?_ hdl4 he ((decide ((nI u2) = (nI dl))) || (decide ((nI u3) = (nI dl)))) (!((decide ((nI u2) = (nI dl))) || (decide ((nI u3) = (nI dl)))))
  · rw [Bool.not_not] at g; exact g
  · unfold wa011 aq011; unfold rcW at *; simp (disch := first | decide | exact ad_ne (by decide) | exact ad_m (by decide) | exact ad_l (by decide) | exact ad_g (by decide) | exact ad_lt (by decide) | exact ad_o (by decide) | omega) only [↓ui_s, ↓uj_s, ↓ui_o, ↓ui_k, ↓uj_o, ↓uj_k, ↓ui_j, ↓uj_i, ↓o2, ↓o3, ui_s, uj_s, ui_o, ui_k, uj_o, uj_k, ui_j, uj_i, o2, o3]; exact hfo
  · unfold wa011 aq011; unfold rcW at *; simp (disch := first | decide | exact ad_ne (by decide) | exact ad_m (by decide) | exact ad_l (by decide) | exact ad_g (by decide) | exact ad_lt (by decide) | exact ad_o (by decide) | omega) only [↓ui_s, ↓uj_s, ↓ui_o, ↓ui_k, ↓uj_o, ↓uj_k, ↓ui_j, ↓uj_i, ↓o2, ↓o3, ui_s, uj_s, ui_o, ui_k, uj_o, uj_k, ui_j, uj_i, o2, o3]; exact htu
  · unfold aq011; simp (disch := first | decide | exact ad_ne (by decide) | exact ad_m (by decide) | exact ad_l (by decide) | exact ad_g (by decide) | exact ad_lt (by decide) | exact ad_o (by decide) | omega) only [↓ui_s, ↓uj_s, ↓ui_o, ↓ui_k, ↓uj_o, ↓uj_k, ↓ui_j, ↓uj_i, ui_s, uj_s, ui_o, ui_k, uj_o, uj_k, ui_j, uj_i]; exact hdl
theorem rg_aw100 {x m W1 N1 : zM} {v1 : Q4} (R : RCl x m) {t dl e c u1 u2 u3 : Nat} (hfo : x.1 2 3 = m.1 50 47) (htu : x.1 0 8 = m.1 50 45) (hdl : m.1 50 40 = nI dl) (hdl4 : dl < 4) (he : (dl + 1) % 4 = e) (ht : t < 4) (hu1 : (t + 1) % 4 = u1) (hu2 : (t + 2) % 4 = u2) (hu3 : (t + 3) % 4 = u3) (hc : x.1 0 15 = nI c) (hO1 : WOj (x) W1) (hv1 : bqJ W1 = v1) (hb1 : v1.1 = N1.1 50 13) (hh1 : v1.2.1 = N1.1 50 14) (hf1 : v1.2.2.2 = N1.2.1 50 17) : RG (wA100 W1 t dl e u1 u2 u3 v1 x) (aM100 m N1 t dl e c u1 u2 u3) := by
  rw [wA100_p, aM100_p]
  have R1 := rc_aw100 (dl := dl) R ht hu1 hu2 hu3 hc hO1 hv1 hb1 hh1 hf1
  have o1 := fun r k h => (hO1 r k h).1
  have h1 : u1 < 4 := by omega
  have h2 : u2 < 4 := by omega
  have h3 : u3 < 4 := by omega
  have g := rg_ends R1 (dl := dl) (e := e) ?_ ?_ ?_ hdl4 he ((decide ((nI u1) = (nI dl)))) (!((decide ((nI u1) = (nI dl)))))
  · rw [Bool.not_not] at g; exact g
  · unfold wa100 aq100; unfold rcW at *; simp (disch := first | decide | exact ad_ne (by decide) | exact ad_m (by decide) | exact ad_l (by decide) | exact ad_g (by decide) | exact ad_lt (by decide) | exact ad_o (by decide) | omega) only [↓ui_s, ↓uj_s, ↓ui_o, ↓ui_k, ↓uj_o, ↓uj_k, ↓ui_j, ↓uj_i, ↓o1, ui_s, uj_s, ui_o, ui_k, uj_o, uj_k, ui_j, uj_i, o1]; exact hfo
  · unfold wa100 aq100; unfold rcW at *; simp (disch := first | decide | exact ad_ne (by decide) | exact ad_m (by decide) | exact ad_l (by decide) | exact ad_g (by decide) | exact ad_lt (by decide) | exact ad_o (by decide) | omega) only [↓ui_s, ↓uj_s, ↓ui_o, ↓ui_k, ↓uj_o, ↓uj_k, ↓ui_j, ↓uj_i, ↓o1, ui_s, uj_s, ui_o, ui_k, uj_o, uj_k, ui_j, uj_i, o1]; exact htu
  · unfold aq100; simp (disch := first | decide | exact ad_ne (by decide) | exact ad_m (by decide) | exact ad_l (by decide) | exact ad_g (by decide) | exact ad_lt (by decide) | exact ad_o (by decide) | omega) only [↓ui_s, ↓uj_s, ↓ui_o, ↓ui_k, ↓uj_o, ↓uj_k, ↓ui_j, ↓uj_i, ui_s, uj_s, ui_o, ui_k, uj_o, uj_k, ui_j, uj_i]; exact hdl
theorem rg_aw101 {x m W1 W3 N1 N3 : zM} {v1 v3 : Q4} (R : RCl x m) {t dl e c u1 u2 u3 : Nat} (hfo : x.1 2 3 = m.1 50 47) (htu : x.1 0 8 = m.1 50 45) (hdl : m.1 50 40 = nI dl) (hdl4 : dl < 4) (he : (dl + 1) % 4 = e) (ht : t < 4) (hu1 : (t + 1) % 4 = u1) (hu2 : (t + 2) % 4 = u2) (hu3 : (t + 3) % 4 = u3) (hc : x.1 0 15 = nI c) (hO1 : WOj (x) W1) (hv1 : bqJ W1 = v1) (hb1 : v1.1 = N1.1 50 13) (hh1 : v1.2.1 = N1.1 50 14) (hf1 : v1.2.2.2 = N1.2.1 50 17) (hO3 : WOj (z_ui (rcW (z_ui (z_ui W1 (18 + 8 * t) 4 ((x.1 (18 + 8 * t) 4) - ((hnd (v1.1 * (bif decide ((nI u1) = (nI dl)) then (6 : Int32) else 4))) + (300 * (x.1 0 11))))) (18 + 8 * u1) 4 ((x.1 (18 + 8 * u1) 4) + (((hnd (v1.1 * (bif decide ((nI u1) = (nI dl)) then (6 : Int32) else 4))) + (300 * (x.1 0 11))) + ((x.1 0 12) * 1000)))) 0 (nI u1) (nI t) (((hnd (v1.1 * (bif decide ((nI u1) = (nI dl)) then (6 : Int32) else 4))) + (300 * (x.1 0 11))) + ((x.1 0 12) * 1000))) 0 12 0) W3) (hv3 : bqJ W3 = v3) (hb3 : v3.1 = N3.1 50 13) (hh3 : v3.2.1 = N3.1 50 14) (hf3 : v3.2.2.2 = N3.2.1 50 17) : RG (wA101 W3 t dl e u1 u2 u3 v1 v3 x) (aM101 m N1 N3 t dl e c u1 u2 u3) := by
  rw [wA101_p, aM101_p]
  have R1 := rc_aw101 (dl := dl) R ht hu1 hu2 hu3 hc hO1 hv1 hb1 hh1 hf1 hO3 hv3 hb3 hh3 hf3
  have o1 := fun r k h => (hO1 r k h).1
  have o3 := fun r k h => (hO3 r k h).1
  have h1 : u1 < 4 := by omega
  have h2 : u2 < 4 := by omega
  have h3 : u3 < 4 := by omega
  have g := rg_ends R1 (dl := dl) (e := e) ?_ ?_ ?_ hdl4 he ((decide ((nI u1) = (nI dl))) || (decide ((nI u3) = (nI dl)))) (!((decide ((nI u1) = (nI dl))) || (decide ((nI u3) = (nI dl)))))
  · rw [Bool.not_not] at g; exact g
  · unfold wa101 aq101; unfold rcW at *; simp (disch := first | decide | exact ad_ne (by decide) | exact ad_m (by decide) | exact ad_l (by decide) | exact ad_g (by decide) | exact ad_lt (by decide) | exact ad_o (by decide) | omega) only [↓ui_s, ↓uj_s, ↓ui_o, ↓ui_k, ↓uj_o, ↓uj_k, ↓ui_j, ↓uj_i, ↓o1, ↓o3, ui_s, uj_s, ui_o, ui_k, uj_o, uj_k, ui_j, uj_i, o1, o3]; exact hfo
  · unfold wa101 aq101; unfold rcW at *; simp (disch := first | decide | exact ad_ne (by decide) | exact ad_m (by decide) | exact ad_l (by decide) | exact ad_g (by decide) | exact ad_lt (by decide) | exact ad_o (by decide) | omega) only [↓ui_s, ↓uj_s, ↓ui_o, ↓ui_k, ↓uj_o, ↓uj_k, ↓ui_j, ↓uj_i, ↓o1, ↓o3, ui_s, uj_s, ui_o, ui_k, uj_o, uj_k, ui_j, uj_i, o1, o3]; exact htu
  · unfold aq101; simp (disch := first | decide | exact ad_ne (by decide) | exact ad_m (by decide) | exact ad_l (by decide) | exact ad_g (by decide) | exact ad_lt (by decide) | exact ad_o (by decide) | omega) only [↓ui_s, ↓uj_s, ↓ui_o, ↓ui_k, ↓uj_o, ↓uj_k, ↓ui_j, ↓uj_i, ui_s, uj_s, ui_o, ui_k, uj_o, uj_k, ui_j, uj_i]; exact hdl
theorem rg_aw110 {x m W1 W2 N1 N2 : zM} {v1 v2 : Q4} (R : RCl x m) {t dl e c u1 u2 u3 : Nat} (hfo : x.1 2 3 = m.1 50 47) (htu : x.1 0 8 = m.1 50 45) (hdl : m.1 50 40 = nI dl) (hdl4 : dl < 4) (he : (dl + 1) % 4 = e) (ht : t < 4) (hu1 : (t + 1) % 4 = u1) (hu2 : (t + 2) % 4 = u2) (hu3 : (t + 3) % 4 = u3) (hc : x.1 0 15 = nI c) (hO1 : WOj (x) W1) (hv1 : bqJ W1 = v1) (hb1 : v1.1 = N1.1 50 13) (hh1 : v1.2.1 = N1.1 50 14) (hf1 : v1.2.2.2 = N1.2.1 50 17) (hO2 : WOj (z_ui (rcW (z_ui (z_ui W1 (18 + 8 * t) 4 ((x.1 (18 + 8 * t) 4) - ((hnd (v1.1 * (bif decide ((nI u1) = (nI dl)) then (6 : Int32) else 4))) + (300 * (x.1 0 11))))) (18 + 8 * u1) 4 ((x.1 (18 + 8 * u1) 4) + (((hnd (v1.1 * (bif decide ((nI u1) = (nI dl)) then (6 : Int32) else 4))) + (300 * (x.1 0 11))) + ((x.1 0 12) * 1000)))) 0 (nI u1) (nI t) (((hnd (v1.1 * (bif decide ((nI u1) = (nI dl)) then (6 : Int32) else 4))) + (300 * (x.1 0 11))) + ((x.1 0 12) * 1000))) 0 12 0) W2) (hv2 : bqJ W2 = v2) (hb2 : v2.1 = N2.1 50 13) (hh2 : v2.2.1 = N2.1 50 14) (hf2 : v2.2.2.2 = N2.2.1 50 17) : RG (wA110 W2 t dl e u1 u2 u3 v1 v2 x) (aM110 m N1 N2 t dl e c u1 u2 u3) := by
  rw [wA110_p, aM110_p]
  have R1 := rc_aw110 (dl := dl) R ht hu1 hu2 hu3 hc hO1 hv1 hb1 hh1 hf1 hO2 hv2 hb2 hh2 hf2
  have o1 := fun r k h => (hO1 r k h).1
  have o2 := fun r k h => (hO2 r k h).1
  have h1 : u1 < 4 := by omega
  have h2 : u2 < 4 := by omega
  have h3 : u3 < 4 := by omega
  have g := rg_ends R1 (dl := dl) (e := e) ?_ ?_ ?_ hdl4 he ((decide ((nI u1) = (nI dl))) || (decide ((nI u2) = (nI dl)))) (!((decide ((nI u1) = (nI dl))) || (decide ((nI u2) = (nI dl)))))
  · rw [Bool.not_not] at g; exact g
  · unfold wa110 aq110; unfold rcW at *; simp (disch := first | decide | exact ad_ne (by decide) | exact ad_m (by decide) | exact ad_l (by decide) | exact ad_g (by decide) | exact ad_lt (by decide) | exact ad_o (by decide) | omega) only [↓ui_s, ↓uj_s, ↓ui_o, ↓ui_k, ↓uj_o, ↓uj_k, ↓ui_j, ↓uj_i, ↓o1, ↓o2, ui_s, uj_s, ui_o, ui_k, uj_o, uj_k, ui_j, uj_i, o1, o2]; exact hfo
  · unfold wa110 aq110; unfold rcW at *; simp (disch := first | decide | exact ad_ne (by decide) | exact ad_m (by decide) | exact ad_l (by decide) | exact ad_g (by decide) | exact ad_lt (by decide) | exact ad_o (by decide) | omega) only [↓ui_s, ↓uj_s, ↓ui_o, ↓ui_k, ↓uj_o, ↓uj_k, ↓ui_j, ↓uj_i, ↓o1, ↓o2, ui_s, uj_s, ui_o, ui_k, uj_o, uj_k, ui_j, uj_i, o1, o2]; exact htu
  · unfold aq110; simp (disch := first | decide | exact ad_ne (by decide) | exact ad_m (by decide) | exact ad_l (by decide) | exact ad_g (by decide) | exact ad_lt (by decide) | exact ad_o (by decide) | omega) only [↓ui_s, ↓uj_s, ↓ui_o, ↓ui_k, ↓uj_o, ↓uj_k, ↓ui_j, ↓uj_i, ui_s, uj_s, ui_o, ui_k, uj_o, uj_k, ui_j, uj_i]; exact hdl
theorem rg_aw111 {x m W1 W2 W3 N1 N2 N3 : zM} {v1 v2 v3 : Q4} (R : RCl x m) {t dl e c u1 u2 u3 : Nat} (hfo : x.1 2 3 = m.1 50 47) (htu : x.1 0 8 = m.1 50 45) (hdl : m.1 50 40 = nI dl) (hdl4 : dl < 4) (he : (dl + 1) % 4 = e) (ht : t < 4) (hu1 : (t + 1) % 4 = u1) (hu2 : (t + 2) % 4 = u2) (hu3 : (t + 3) % 4 = u3) (hc : x.1 0 15 = nI c) (hO1 : WOj (x) W1) (hv1 : bqJ W1 = v1) (hb1 : v1.1 = N1.1 50 13) (hh1 : v1.2.1 = N1.1 50 14) (hf1 : v1.2.2.2 = N1.2.1 50 17) (hO2 : WOj (z_ui (rcW (z_ui (z_ui W1 (18 + 8 * t) 4 ((x.1 (18 + 8 * t) 4) - ((hnd (v1.1 * (bif decide ((nI u1) = (nI dl)) then (6 : Int32) else 4))) + (300 * (x.1 0 11))))) (18 + 8 * u1) 4 ((x.1 (18 + 8 * u1) 4) + (((hnd (v1.1 * (bif decide ((nI u1) = (nI dl)) then (6 : Int32) else 4))) + (300 * (x.1 0 11))) + ((x.1 0 12) * 1000)))) 0 (nI u1) (nI t) (((hnd (v1.1 * (bif decide ((nI u1) = (nI dl)) then (6 : Int32) else 4))) + (300 * (x.1 0 11))) + ((x.1 0 12) * 1000))) 0 12 0) W2) (hv2 : bqJ W2 = v2) (hb2 : v2.1 = N2.1 50 13) (hh2 : v2.2.1 = N2.1 50 14) (hf2 : v2.2.2.2 = N2.2.1 50 17) (hO3 : WOj (z_ui (rcW (z_ui (z_ui W2 (18 + 8 * t) 4 (((x.1 (18 + 8 * t) 4) - ((hnd (v1.1 * (bif decide ((nI u1) = (nI dl)) then (6 : Int32) else 4))) + (300 * (x.1 0 11)))) - ((hnd (v2.1 * (bif decide ((nI u2) = (nI dl)) then (6 : Int32) else 4))) + 0))) (18 + 8 * u2) 4 ((x.1 (18 + 8 * u2) 4) + (((hnd (v2.1 * (bif decide ((nI u2) = (nI dl)) then (6 : Int32) else 4))) + 0) + 0))) 1 (nI u2) (nI t) (((hnd (v2.1 * (bif decide ((nI u2) = (nI dl)) then (6 : Int32) else 4))) + 0) + 0)) 0 12 0) W3) (hv3 : bqJ W3 = v3) (hb3 : v3.1 = N3.1 50 13) (hh3 : v3.2.1 = N3.1 50 14) (hf3 : v3.2.2.2 = N3.2.1 50 17) : RG (wA111 W3 t dl e u1 u2 u3 v1 v2 v3 x) (aM111 m N1 N2 N3 t dl e c u1 u2 u3) := by
  rw [wA111_p, aM111_p]
  have R1 := rc_aw111 (dl := dl) R ht hu1 hu2 hu3 hc hO1 hv1 hb1 hh1 hf1 hO2 hv2 hb2 hh2 hf2 hO3 hv3 hb3 hh3 hf3
  have o1 := fun r k h => (hO1 r k h).1
  have o2 := fun r k h => (hO2 r k h).1
  have o3 := fun r k h => (hO3 r k h).1
  have h1 : u1 < 4 := by omega
  have h2 : u2 < 4 := by omega
  have h3 : u3 < 4 := by omega
  have g := rg_ends R1 (dl := dl) (e := e) ?_ ?_ ?_ hdl4 he (((decide ((nI u1) = (nI dl))) || (decide ((nI u2) = (nI dl)))) || (decide ((nI u3) = (nI dl)))) (!(((decide ((nI u1) = (nI dl))) || (decide ((nI u2) = (nI dl)))) || (decide ((nI u3) = (nI dl)))))
  · rw [Bool.not_not] at g; exact g
  · unfold wa111 aq111; unfold rcW at *; simp (disch := first | decide | exact ad_ne (by decide) | exact ad_m (by decide) | exact ad_l (by decide) | exact ad_g (by decide) | exact ad_lt (by decide) | exact ad_o (by decide) | omega) only [↓ui_s, ↓uj_s, ↓ui_o, ↓ui_k, ↓uj_o, ↓uj_k, ↓ui_j, ↓uj_i, ↓o1, ↓o2, ↓o3, ui_s, uj_s, ui_o, ui_k, uj_o, uj_k, ui_j, uj_i, o1, o2, o3]; exact hfo
  · unfold wa111 aq111; unfold rcW at *; simp (disch := first | decide | exact ad_ne (by decide) | exact ad_m (by decide) | exact ad_l (by decide) | exact ad_g (by decide) | exact ad_lt (by decide) | exact ad_o (by decide) | omega) only [↓ui_s, ↓uj_s, ↓ui_o, ↓ui_k, ↓uj_o, ↓uj_k, ↓ui_j, ↓uj_i, ↓o1, ↓o2, ↓o3, ui_s, uj_s, ui_o, ui_k, uj_o, uj_k, ui_j, uj_i, o1, o2, o3]; exact htu
  · unfold aq111; simp (disch := first | decide | exact ad_ne (by decide) | exact ad_m (by decide) | exact ad_l (by decide) | exact ad_g (by decide) | exact ad_lt (by decide) | exact ad_o (by decide) | omega) only [↓ui_s, ↓uj_s, ↓ui_o, ↓ui_k, ↓uj_o, ↓uj_k, ↓ui_j, ↓uj_i, ui_s, uj_s, ui_o, ui_k, uj_o, uj_k, ui_j, uj_i]; exact hdl
/-! a hand without a winner: both games behind it -/
set_option maxRecDepth 8000
theorem rg_nob0000 {x m : zM} (R : RCl x m) (hfo : x.1 2 3 = m.1 50 47) (htu : x.1 0 8 = m.1 50 45) {dl e : Nat} (hdl : m.1 50 40 = nI dl) (hdl4 : dl < 4) (he : (dl + 1) % 4 = e) (ds : Bool) : RG (eHB (x) ds false (xBk (x)) dl e (rcM (x))) (eMB (nM0000 m) ds true dl e) := by
  refine rg_ends (rc_nob0000 R) ?_ ?_ ?_ hdl4 he ds false
  · unfold nM0000; simp (disch := first | decide | exact ad_ne (by decide) | exact ad_m (by decide) | exact ad_l (by decide) | exact ad_g (by decide) | exact ad_lt (by decide) | exact ad_o (by decide) | omega) only [↓ui_s, ↓uj_s, ↓ui_o, ↓ui_k, ↓uj_o, ↓uj_k, ↓ui_j, ↓uj_i, ↓z_zero_o, ↓z_zero_j, ui_s, uj_s, ui_o, ui_k, uj_o, uj_k, ui_j, uj_i, z_zero_o, z_zero_j]; exact hfo
  · unfold nM0000; simp (disch := first | decide | exact ad_ne (by decide) | exact ad_m (by decide) | exact ad_l (by decide) | exact ad_g (by decide) | exact ad_lt (by decide) | exact ad_o (by decide) | omega) only [↓ui_s, ↓uj_s, ↓ui_o, ↓ui_k, ↓uj_o, ↓uj_k, ↓ui_j, ↓uj_i, ↓z_zero_o, ↓z_zero_j, ui_s, uj_s, ui_o, ui_k, uj_o, uj_k, ui_j, uj_i, z_zero_o, z_zero_j]; exact htu
  · unfold nM0000; simp (disch := first | decide | exact ad_ne (by decide) | exact ad_m (by decide) | exact ad_l (by decide) | exact ad_g (by decide) | exact ad_lt (by decide) | exact ad_o (by decide) | omega) only [↓ui_s, ↓uj_s, ↓ui_o, ↓ui_k, ↓uj_o, ↓uj_k, ↓ui_j, ↓uj_i, ↓z_zero_o, ↓z_zero_j, ui_s, uj_s, ui_o, ui_k, uj_o, uj_k, ui_j, uj_i, z_zero_o, z_zero_j]; exact hdl
theorem rg_nob0001 {x m : zM} (R : RCl x m) (hfo : x.1 2 3 = m.1 50 47) (htu : x.1 0 8 = m.1 50 45) {dl e : Nat} (hdl : m.1 50 40 = nI dl) (hdl4 : dl < 4) (he : (dl + 1) % 4 = e) (ds : Bool) : RG (eHB (z_ui (z_ui (z_ui (z_ui x 18 4 ((x.1 18 4) + (-1000))) 26 4 ((x.1 26 4) + (-1000))) 34 4 ((x.1 34 4) + (-1000))) 42 4 ((x.1 42 4) + 3000)) ds false (xBk (z_ui (z_ui (z_ui (z_ui x 18 4 ((x.1 18 4) + (-1000))) 26 4 ((x.1 26 4) + (-1000))) 34 4 ((x.1 34 4) + (-1000))) 42 4 ((x.1 42 4) + 3000))) dl e (rcM (z_ui (z_ui (z_ui (z_ui x 18 4 ((x.1 18 4) + (-1000))) 26 4 ((x.1 26 4) + (-1000))) 34 4 ((x.1 34 4) + (-1000))) 42 4 ((x.1 42 4) + 3000)))) (eMB (nM0001 m) ds true dl e) := by
  refine rg_ends (rc_nob0001 R) ?_ ?_ ?_ hdl4 he ds false
  · unfold nM0001; simp (disch := first | decide | exact ad_ne (by decide) | exact ad_m (by decide) | exact ad_l (by decide) | exact ad_g (by decide) | exact ad_lt (by decide) | exact ad_o (by decide) | omega) only [↓ui_s, ↓uj_s, ↓ui_o, ↓ui_k, ↓uj_o, ↓uj_k, ↓ui_j, ↓uj_i, ↓z_zero_o, ↓z_zero_j, ui_s, uj_s, ui_o, ui_k, uj_o, uj_k, ui_j, uj_i, z_zero_o, z_zero_j]; exact hfo
  · unfold nM0001; simp (disch := first | decide | exact ad_ne (by decide) | exact ad_m (by decide) | exact ad_l (by decide) | exact ad_g (by decide) | exact ad_lt (by decide) | exact ad_o (by decide) | omega) only [↓ui_s, ↓uj_s, ↓ui_o, ↓ui_k, ↓uj_o, ↓uj_k, ↓ui_j, ↓uj_i, ↓z_zero_o, ↓z_zero_j, ui_s, uj_s, ui_o, ui_k, uj_o, uj_k, ui_j, uj_i, z_zero_o, z_zero_j]; exact htu
  · unfold nM0001; simp (disch := first | decide | exact ad_ne (by decide) | exact ad_m (by decide) | exact ad_l (by decide) | exact ad_g (by decide) | exact ad_lt (by decide) | exact ad_o (by decide) | omega) only [↓ui_s, ↓uj_s, ↓ui_o, ↓ui_k, ↓uj_o, ↓uj_k, ↓ui_j, ↓uj_i, ↓z_zero_o, ↓z_zero_j, ui_s, uj_s, ui_o, ui_k, uj_o, uj_k, ui_j, uj_i, z_zero_o, z_zero_j]; exact hdl
theorem rg_nob0010 {x m : zM} (R : RCl x m) (hfo : x.1 2 3 = m.1 50 47) (htu : x.1 0 8 = m.1 50 45) {dl e : Nat} (hdl : m.1 50 40 = nI dl) (hdl4 : dl < 4) (he : (dl + 1) % 4 = e) (ds : Bool) : RG (eHB (z_ui (z_ui (z_ui (z_ui x 18 4 ((x.1 18 4) + (-1000))) 26 4 ((x.1 26 4) + (-1000))) 34 4 ((x.1 34 4) + 3000)) 42 4 ((x.1 42 4) + (-1000))) ds false (xBk (z_ui (z_ui (z_ui (z_ui x 18 4 ((x.1 18 4) + (-1000))) 26 4 ((x.1 26 4) + (-1000))) 34 4 ((x.1 34 4) + 3000)) 42 4 ((x.1 42 4) + (-1000)))) dl e (rcM (z_ui (z_ui (z_ui (z_ui x 18 4 ((x.1 18 4) + (-1000))) 26 4 ((x.1 26 4) + (-1000))) 34 4 ((x.1 34 4) + 3000)) 42 4 ((x.1 42 4) + (-1000))))) (eMB (nM0010 m) ds true dl e) := by
  refine rg_ends (rc_nob0010 R) ?_ ?_ ?_ hdl4 he ds false
  · unfold nM0010; simp (disch := first | decide | exact ad_ne (by decide) | exact ad_m (by decide) | exact ad_l (by decide) | exact ad_g (by decide) | exact ad_lt (by decide) | exact ad_o (by decide) | omega) only [↓ui_s, ↓uj_s, ↓ui_o, ↓ui_k, ↓uj_o, ↓uj_k, ↓ui_j, ↓uj_i, ↓z_zero_o, ↓z_zero_j, ui_s, uj_s, ui_o, ui_k, uj_o, uj_k, ui_j, uj_i, z_zero_o, z_zero_j]; exact hfo
  · unfold nM0010; simp (disch := first | decide | exact ad_ne (by decide) | exact ad_m (by decide) | exact ad_l (by decide) | exact ad_g (by decide) | exact ad_lt (by decide) | exact ad_o (by decide) | omega) only [↓ui_s, ↓uj_s, ↓ui_o, ↓ui_k, ↓uj_o, ↓uj_k, ↓ui_j, ↓uj_i, ↓z_zero_o, ↓z_zero_j, ui_s, uj_s, ui_o, ui_k, uj_o, uj_k, ui_j, uj_i, z_zero_o, z_zero_j]; exact htu
  · unfold nM0010; simp (disch := first | decide | exact ad_ne (by decide) | exact ad_m (by decide) | exact ad_l (by decide) | exact ad_g (by decide) | exact ad_lt (by decide) | exact ad_o (by decide) | omega) only [↓ui_s, ↓uj_s, ↓ui_o, ↓ui_k, ↓uj_o, ↓uj_k, ↓ui_j, ↓uj_i, ↓z_zero_o, ↓z_zero_j, ui_s, uj_s, ui_o, ui_k, uj_o, uj_k, ui_j, uj_i, z_zero_o, z_zero_j]; exact hdl
theorem rg_nob0011 {x m : zM} (R : RCl x m) (hfo : x.1 2 3 = m.1 50 47) (htu : x.1 0 8 = m.1 50 45) {dl e : Nat} (hdl : m.1 50 40 = nI dl) (hdl4 : dl < 4) (he : (dl + 1) % 4 = e) (ds : Bool) : RG (eHB (z_ui (z_ui (z_ui (z_ui x 18 4 ((x.1 18 4) + (-1500))) 26 4 ((x.1 26 4) + (-1500))) 34 4 ((x.1 34 4) + 1500)) 42 4 ((x.1 42 4) + 1500)) ds false (xBk (z_ui (z_ui (z_ui (z_ui x 18 4 ((x.1 18 4) + (-1500))) 26 4 ((x.1 26 4) + (-1500))) 34 4 ((x.1 34 4) + 1500)) 42 4 ((x.1 42 4) + 1500))) dl e (rcM (z_ui (z_ui (z_ui (z_ui x 18 4 ((x.1 18 4) + (-1500))) 26 4 ((x.1 26 4) + (-1500))) 34 4 ((x.1 34 4) + 1500)) 42 4 ((x.1 42 4) + 1500)))) (eMB (nM0011 m) ds true dl e) := by
  refine rg_ends (rc_nob0011 R) ?_ ?_ ?_ hdl4 he ds false
  · unfold nM0011; simp (disch := first | decide | exact ad_ne (by decide) | exact ad_m (by decide) | exact ad_l (by decide) | exact ad_g (by decide) | exact ad_lt (by decide) | exact ad_o (by decide) | omega) only [↓ui_s, ↓uj_s, ↓ui_o, ↓ui_k, ↓uj_o, ↓uj_k, ↓ui_j, ↓uj_i, ↓z_zero_o, ↓z_zero_j, ui_s, uj_s, ui_o, ui_k, uj_o, uj_k, ui_j, uj_i, z_zero_o, z_zero_j]; exact hfo
  · unfold nM0011; simp (disch := first | decide | exact ad_ne (by decide) | exact ad_m (by decide) | exact ad_l (by decide) | exact ad_g (by decide) | exact ad_lt (by decide) | exact ad_o (by decide) | omega) only [↓ui_s, ↓uj_s, ↓ui_o, ↓ui_k, ↓uj_o, ↓uj_k, ↓ui_j, ↓uj_i, ↓z_zero_o, ↓z_zero_j, ui_s, uj_s, ui_o, ui_k, uj_o, uj_k, ui_j, uj_i, z_zero_o, z_zero_j]; exact htu
  · unfold nM0011; simp (disch := first | decide | exact ad_ne (by decide) | exact ad_m (by decide) | exact ad_l (by decide) | exact ad_g (by decide) | exact ad_lt (by decide) | exact ad_o (by decide) | omega) only [↓ui_s, ↓uj_s, ↓ui_o, ↓ui_k, ↓uj_o, ↓uj_k, ↓ui_j, ↓uj_i, ↓z_zero_o, ↓z_zero_j, ui_s, uj_s, ui_o, ui_k, uj_o, uj_k, ui_j, uj_i, z_zero_o, z_zero_j]; exact hdl
theorem rg_nob0100 {x m : zM} (R : RCl x m) (hfo : x.1 2 3 = m.1 50 47) (htu : x.1 0 8 = m.1 50 45) {dl e : Nat} (hdl : m.1 50 40 = nI dl) (hdl4 : dl < 4) (he : (dl + 1) % 4 = e) (ds : Bool) : RG (eHB (z_ui (z_ui (z_ui (z_ui x 18 4 ((x.1 18 4) + (-1000))) 26 4 ((x.1 26 4) + 3000)) 34 4 ((x.1 34 4) + (-1000))) 42 4 ((x.1 42 4) + (-1000))) ds false (xBk (z_ui (z_ui (z_ui (z_ui x 18 4 ((x.1 18 4) + (-1000))) 26 4 ((x.1 26 4) + 3000)) 34 4 ((x.1 34 4) + (-1000))) 42 4 ((x.1 42 4) + (-1000)))) dl e (rcM (z_ui (z_ui (z_ui (z_ui x 18 4 ((x.1 18 4) + (-1000))) 26 4 ((x.1 26 4) + 3000)) 34 4 ((x.1 34 4) + (-1000))) 42 4 ((x.1 42 4) + (-1000))))) (eMB (nM0100 m) ds true dl e) := by
  refine rg_ends (rc_nob0100 R) ?_ ?_ ?_ hdl4 he ds false
  · unfold nM0100; simp (disch := first | decide | exact ad_ne (by decide) | exact ad_m (by decide) | exact ad_l (by decide) | exact ad_g (by decide) | exact ad_lt (by decide) | exact ad_o (by decide) | omega) only [↓ui_s, ↓uj_s, ↓ui_o, ↓ui_k, ↓uj_o, ↓uj_k, ↓ui_j, ↓uj_i, ↓z_zero_o, ↓z_zero_j, ui_s, uj_s, ui_o, ui_k, uj_o, uj_k, ui_j, uj_i, z_zero_o, z_zero_j]; exact hfo
  · unfold nM0100; simp (disch := first | decide | exact ad_ne (by decide) | exact ad_m (by decide) | exact ad_l (by decide) | exact ad_g (by decide) | exact ad_lt (by decide) | exact ad_o (by decide) | omega) only [↓ui_s, ↓uj_s, ↓ui_o, ↓ui_k, ↓uj_o, ↓uj_k, ↓ui_j, ↓uj_i, ↓z_zero_o, ↓z_zero_j, ui_s, uj_s, ui_o, ui_k, uj_o, uj_k, ui_j, uj_i, z_zero_o, z_zero_j]; exact htu
  · unfold nM0100; simp (disch := first | decide | exact ad_ne (by decide) | exact ad_m (by decide) | exact ad_l (by decide) | exact ad_g (by decide) | exact ad_lt (by decide) | exact ad_o (by decide) | omega) only [↓ui_s, ↓uj_s, ↓ui_o, ↓ui_k, ↓uj_o, ↓uj_k, ↓ui_j, ↓uj_i, ↓z_zero_o, ↓z_zero_j, ui_s, uj_s, ui_o, ui_k, uj_o, uj_k, ui_j, uj_i, z_zero_o, z_zero_j]; exact hdl
theorem rg_nob0101 {x m : zM} (R : RCl x m) (hfo : x.1 2 3 = m.1 50 47) (htu : x.1 0 8 = m.1 50 45) {dl e : Nat} (hdl : m.1 50 40 = nI dl) (hdl4 : dl < 4) (he : (dl + 1) % 4 = e) (ds : Bool) : RG (eHB (z_ui (z_ui (z_ui (z_ui x 18 4 ((x.1 18 4) + (-1500))) 26 4 ((x.1 26 4) + 1500)) 34 4 ((x.1 34 4) + (-1500))) 42 4 ((x.1 42 4) + 1500)) ds false (xBk (z_ui (z_ui (z_ui (z_ui x 18 4 ((x.1 18 4) + (-1500))) 26 4 ((x.1 26 4) + 1500)) 34 4 ((x.1 34 4) + (-1500))) 42 4 ((x.1 42 4) + 1500))) dl e (rcM (z_ui (z_ui (z_ui (z_ui x 18 4 ((x.1 18 4) + (-1500))) 26 4 ((x.1 26 4) + 1500)) 34 4 ((x.1 34 4) + (-1500))) 42 4 ((x.1 42 4) + 1500)))) (eMB (nM0101 m) ds true dl e) := by
  refine rg_ends (rc_nob0101 R) ?_ ?_ ?_ hdl4 he ds false
  · unfold nM0101; simp (disch := first | decide | exact ad_ne (by decide) | exact ad_m (by decide) | exact ad_l (by decide) | exact ad_g (by decide) | exact ad_lt (by decide) | exact ad_o (by decide) | omega) only [↓ui_s, ↓uj_s, ↓ui_o, ↓ui_k, ↓uj_o, ↓uj_k, ↓ui_j, ↓uj_i, ↓z_zero_o, ↓z_zero_j, ui_s, uj_s, ui_o, ui_k, uj_o, uj_k, ui_j, uj_i, z_zero_o, z_zero_j]; exact hfo
  · unfold nM0101; simp (disch := first | decide | exact ad_ne (by decide) | exact ad_m (by decide) | exact ad_l (by decide) | exact ad_g (by decide) | exact ad_lt (by decide) | exact ad_o (by decide) | omega) only [↓ui_s, ↓uj_s, ↓ui_o, ↓ui_k, ↓uj_o, ↓uj_k, ↓ui_j, ↓uj_i, ↓z_zero_o, ↓z_zero_j, ui_s, uj_s, ui_o, ui_k, uj_o, uj_k, ui_j, uj_i, z_zero_o, z_zero_j]; exact htu
  · unfold nM0101; simp (disch := first | decide | exact ad_ne (by decide) | exact ad_m (by decide) | exact ad_l (by decide) | exact ad_g (by decide) | exact ad_lt (by decide) | exact ad_o (by decide) | omega) only [↓ui_s, ↓uj_s, ↓ui_o, ↓ui_k, ↓uj_o, ↓uj_k, ↓ui_j, ↓uj_i, ↓z_zero_o, ↓z_zero_j, ui_s, uj_s, ui_o, ui_k, uj_o, uj_k, ui_j, uj_i, z_zero_o, z_zero_j]; exact hdl
theorem rg_nob0110 {x m : zM} (R : RCl x m) (hfo : x.1 2 3 = m.1 50 47) (htu : x.1 0 8 = m.1 50 45) {dl e : Nat} (hdl : m.1 50 40 = nI dl) (hdl4 : dl < 4) (he : (dl + 1) % 4 = e) (ds : Bool) : RG (eHB (z_ui (z_ui (z_ui (z_ui x 18 4 ((x.1 18 4) + (-1500))) 26 4 ((x.1 26 4) + 1500)) 34 4 ((x.1 34 4) + 1500)) 42 4 ((x.1 42 4) + (-1500))) ds false (xBk (z_ui (z_ui (z_ui (z_ui x 18 4 ((x.1 18 4) + (-1500))) 26 4 ((x.1 26 4) + 1500)) 34 4 ((x.1 34 4) + 1500)) 42 4 ((x.1 42 4) + (-1500)))) dl e (rcM (z_ui (z_ui (z_ui (z_ui x 18 4 ((x.1 18 4) + (-1500))) 26 4 ((x.1 26 4) + 1500)) 34 4 ((x.1 34 4) + 1500)) 42 4 ((x.1 42 4) + (-1500))))) (eMB (nM0110 m) ds true dl e) := by
  refine rg_ends (rc_nob0110 R) ?_ ?_ ?_ hdl4 he ds false
  · unfold nM0110; simp (disch := first | decide | exact ad_ne (by decide) | exact ad_m (by decide) | exact ad_l (by decide) | exact ad_g (by decide) | exact ad_lt (by decide) | exact ad_o (by decide) | omega) only [↓ui_s, ↓uj_s, ↓ui_o, ↓ui_k, ↓uj_o, ↓uj_k, ↓ui_j, ↓uj_i, ↓z_zero_o, ↓z_zero_j, ui_s, uj_s, ui_o, ui_k, uj_o, uj_k, ui_j, uj_i, z_zero_o, z_zero_j]; exact hfo
  · unfold nM0110; simp (disch := first | decide | exact ad_ne (by decide) | exact ad_m (by decide) | exact ad_l (by decide) | exact ad_g (by decide) | exact ad_lt (by decide) | exact ad_o (by decide) | omega) only [↓ui_s, ↓uj_s, ↓ui_o, ↓ui_k, ↓uj_o, ↓uj_k, ↓ui_j, ↓uj_i, ↓z_zero_o, ↓z_zero_j, ui_s, uj_s, ui_o, ui_k, uj_o, uj_k, ui_j, uj_i, z_zero_o, z_zero_j]; exact htu
  · unfold nM0110; simp (disch := first | decide | exact ad_ne (by decide) | exact ad_m (by decide) | exact ad_l (by decide) | exact ad_g (by decide) | exact ad_lt (by decide) | exact ad_o (by decide) | omega) only [↓ui_s, ↓uj_s, ↓ui_o, ↓ui_k, ↓uj_o, ↓uj_k, ↓ui_j, ↓uj_i, ↓z_zero_o, ↓z_zero_j, ui_s, uj_s, ui_o, ui_k, uj_o, uj_k, ui_j, uj_i, z_zero_o, z_zero_j]; exact hdl
theorem rg_nob0111 {x m : zM} (R : RCl x m) (hfo : x.1 2 3 = m.1 50 47) (htu : x.1 0 8 = m.1 50 45) {dl e : Nat} (hdl : m.1 50 40 = nI dl) (hdl4 : dl < 4) (he : (dl + 1) % 4 = e) (ds : Bool) : RG (eHB (z_ui (z_ui (z_ui (z_ui x 18 4 ((x.1 18 4) + (-3000))) 26 4 ((x.1 26 4) + 1000)) 34 4 ((x.1 34 4) + 1000)) 42 4 ((x.1 42 4) + 1000)) ds false (xBk (z_ui (z_ui (z_ui (z_ui x 18 4 ((x.1 18 4) + (-3000))) 26 4 ((x.1 26 4) + 1000)) 34 4 ((x.1 34 4) + 1000)) 42 4 ((x.1 42 4) + 1000))) dl e (rcM (z_ui (z_ui (z_ui (z_ui x 18 4 ((x.1 18 4) + (-3000))) 26 4 ((x.1 26 4) + 1000)) 34 4 ((x.1 34 4) + 1000)) 42 4 ((x.1 42 4) + 1000)))) (eMB (nM0111 m) ds true dl e) := by
  refine rg_ends (rc_nob0111 R) ?_ ?_ ?_ hdl4 he ds false
  · unfold nM0111; simp (disch := first | decide | exact ad_ne (by decide) | exact ad_m (by decide) | exact ad_l (by decide) | exact ad_g (by decide) | exact ad_lt (by decide) | exact ad_o (by decide) | omega) only [↓ui_s, ↓uj_s, ↓ui_o, ↓ui_k, ↓uj_o, ↓uj_k, ↓ui_j, ↓uj_i, ↓z_zero_o, ↓z_zero_j, ui_s, uj_s, ui_o, ui_k, uj_o, uj_k, ui_j, uj_i, z_zero_o, z_zero_j]; exact hfo
  · unfold nM0111; simp (disch := first | decide | exact ad_ne (by decide) | exact ad_m (by decide) | exact ad_l (by decide) | exact ad_g (by decide) | exact ad_lt (by decide) | exact ad_o (by decide) | omega) only [↓ui_s, ↓uj_s, ↓ui_o, ↓ui_k, ↓uj_o, ↓uj_k, ↓ui_j, ↓uj_i, ↓z_zero_o, ↓z_zero_j, ui_s, uj_s, ui_o, ui_k, uj_o, uj_k, ui_j, uj_i, z_zero_o, z_zero_j]; exact htu
  · unfold nM0111; simp (disch := first | decide | exact ad_ne (by decide) | exact ad_m (by decide) | exact ad_l (by decide) | exact ad_g (by decide) | exact ad_lt (by decide) | exact ad_o (by decide) | omega) only [↓ui_s, ↓uj_s, ↓ui_o, ↓ui_k, ↓uj_o, ↓uj_k, ↓ui_j, ↓uj_i, ↓z_zero_o, ↓z_zero_j, ui_s, uj_s, ui_o, ui_k, uj_o, uj_k, ui_j, uj_i, z_zero_o, z_zero_j]; exact hdl
theorem rg_nob1000 {x m : zM} (R : RCl x m) (hfo : x.1 2 3 = m.1 50 47) (htu : x.1 0 8 = m.1 50 45) {dl e : Nat} (hdl : m.1 50 40 = nI dl) (hdl4 : dl < 4) (he : (dl + 1) % 4 = e) (ds : Bool) : RG (eHB (z_ui (z_ui (z_ui (z_ui x 18 4 ((x.1 18 4) + 3000)) 26 4 ((x.1 26 4) + (-1000))) 34 4 ((x.1 34 4) + (-1000))) 42 4 ((x.1 42 4) + (-1000))) ds false (xBk (z_ui (z_ui (z_ui (z_ui x 18 4 ((x.1 18 4) + 3000)) 26 4 ((x.1 26 4) + (-1000))) 34 4 ((x.1 34 4) + (-1000))) 42 4 ((x.1 42 4) + (-1000)))) dl e (rcM (z_ui (z_ui (z_ui (z_ui x 18 4 ((x.1 18 4) + 3000)) 26 4 ((x.1 26 4) + (-1000))) 34 4 ((x.1 34 4) + (-1000))) 42 4 ((x.1 42 4) + (-1000))))) (eMB (nM1000 m) ds true dl e) := by
  refine rg_ends (rc_nob1000 R) ?_ ?_ ?_ hdl4 he ds false
  · unfold nM1000; simp (disch := first | decide | exact ad_ne (by decide) | exact ad_m (by decide) | exact ad_l (by decide) | exact ad_g (by decide) | exact ad_lt (by decide) | exact ad_o (by decide) | omega) only [↓ui_s, ↓uj_s, ↓ui_o, ↓ui_k, ↓uj_o, ↓uj_k, ↓ui_j, ↓uj_i, ↓z_zero_o, ↓z_zero_j, ui_s, uj_s, ui_o, ui_k, uj_o, uj_k, ui_j, uj_i, z_zero_o, z_zero_j]; exact hfo
  · unfold nM1000; simp (disch := first | decide | exact ad_ne (by decide) | exact ad_m (by decide) | exact ad_l (by decide) | exact ad_g (by decide) | exact ad_lt (by decide) | exact ad_o (by decide) | omega) only [↓ui_s, ↓uj_s, ↓ui_o, ↓ui_k, ↓uj_o, ↓uj_k, ↓ui_j, ↓uj_i, ↓z_zero_o, ↓z_zero_j, ui_s, uj_s, ui_o, ui_k, uj_o, uj_k, ui_j, uj_i, z_zero_o, z_zero_j]; exact htu
  · unfold nM1000; simp (disch := first | decide | exact ad_ne (by decide) | exact ad_m (by decide) | exact ad_l (by decide) | exact ad_g (by decide) | exact ad_lt (by decide) | exact ad_o (by decide) | omega) only [↓ui_s, ↓uj_s, ↓ui_o, ↓ui_k, ↓uj_o, ↓uj_k, ↓ui_j, ↓uj_i, ↓z_zero_o, ↓z_zero_j, ui_s, uj_s, ui_o, ui_k, uj_o, uj_k, ui_j, uj_i, z_zero_o, z_zero_j]; exact hdl
theorem rg_nob1001 {x m : zM} (R : RCl x m) (hfo : x.1 2 3 = m.1 50 47) (htu : x.1 0 8 = m.1 50 45) {dl e : Nat} (hdl : m.1 50 40 = nI dl) (hdl4 : dl < 4) (he : (dl + 1) % 4 = e) (ds : Bool) : RG (eHB (z_ui (z_ui (z_ui (z_ui x 18 4 ((x.1 18 4) + 1500)) 26 4 ((x.1 26 4) + (-1500))) 34 4 ((x.1 34 4) + (-1500))) 42 4 ((x.1 42 4) + 1500)) ds false (xBk (z_ui (z_ui (z_ui (z_ui x 18 4 ((x.1 18 4) + 1500)) 26 4 ((x.1 26 4) + (-1500))) 34 4 ((x.1 34 4) + (-1500))) 42 4 ((x.1 42 4) + 1500))) dl e (rcM (z_ui (z_ui (z_ui (z_ui x 18 4 ((x.1 18 4) + 1500)) 26 4 ((x.1 26 4) + (-1500))) 34 4 ((x.1 34 4) + (-1500))) 42 4 ((x.1 42 4) + 1500)))) (eMB (nM1001 m) ds true dl e) := by
  refine rg_ends (rc_nob1001 R) ?_ ?_ ?_ hdl4 he ds false
  · unfold nM1001; simp (disch := first | decide | exact ad_ne (by decide) | exact ad_m (by decide) | exact ad_l (by decide) | exact ad_g (by decide) | exact ad_lt (by decide) | exact ad_o (by decide) | omega) only [↓ui_s, ↓uj_s, ↓ui_o, ↓ui_k, ↓uj_o, ↓uj_k, ↓ui_j, ↓uj_i, ↓z_zero_o, ↓z_zero_j, ui_s, uj_s, ui_o, ui_k, uj_o, uj_k, ui_j, uj_i, z_zero_o, z_zero_j]; exact hfo
  · unfold nM1001; simp (disch := first | decide | exact ad_ne (by decide) | exact ad_m (by decide) | exact ad_l (by decide) | exact ad_g (by decide) | exact ad_lt (by decide) | exact ad_o (by decide) | omega) only [↓ui_s, ↓uj_s, ↓ui_o, ↓ui_k, ↓uj_o, ↓uj_k, ↓ui_j, ↓uj_i, ↓z_zero_o, ↓z_zero_j, ui_s, uj_s, ui_o, ui_k, uj_o, uj_k, ui_j, uj_i, z_zero_o, z_zero_j]; exact htu
  · unfold nM1001; simp (disch := first | decide | exact ad_ne (by decide) | exact ad_m (by decide) | exact ad_l (by decide) | exact ad_g (by decide) | exact ad_lt (by decide) | exact ad_o (by decide) | omega) only [↓ui_s, ↓uj_s, ↓ui_o, ↓ui_k, ↓uj_o, ↓uj_k, ↓ui_j, ↓uj_i, ↓z_zero_o, ↓z_zero_j, ui_s, uj_s, ui_o, ui_k, uj_o, uj_k, ui_j, uj_i, z_zero_o, z_zero_j]; exact hdl
theorem rg_nob1010 {x m : zM} (R : RCl x m) (hfo : x.1 2 3 = m.1 50 47) (htu : x.1 0 8 = m.1 50 45) {dl e : Nat} (hdl : m.1 50 40 = nI dl) (hdl4 : dl < 4) (he : (dl + 1) % 4 = e) (ds : Bool) : RG (eHB (z_ui (z_ui (z_ui (z_ui x 18 4 ((x.1 18 4) + 1500)) 26 4 ((x.1 26 4) + (-1500))) 34 4 ((x.1 34 4) + 1500)) 42 4 ((x.1 42 4) + (-1500))) ds false (xBk (z_ui (z_ui (z_ui (z_ui x 18 4 ((x.1 18 4) + 1500)) 26 4 ((x.1 26 4) + (-1500))) 34 4 ((x.1 34 4) + 1500)) 42 4 ((x.1 42 4) + (-1500)))) dl e (rcM (z_ui (z_ui (z_ui (z_ui x 18 4 ((x.1 18 4) + 1500)) 26 4 ((x.1 26 4) + (-1500))) 34 4 ((x.1 34 4) + 1500)) 42 4 ((x.1 42 4) + (-1500))))) (eMB (nM1010 m) ds true dl e) := by
  refine rg_ends (rc_nob1010 R) ?_ ?_ ?_ hdl4 he ds false
  · unfold nM1010; simp (disch := first | decide | exact ad_ne (by decide) | exact ad_m (by decide) | exact ad_l (by decide) | exact ad_g (by decide) | exact ad_lt (by decide) | exact ad_o (by decide) | omega) only [↓ui_s, ↓uj_s, ↓ui_o, ↓ui_k, ↓uj_o, ↓uj_k, ↓ui_j, ↓uj_i, ↓z_zero_o, ↓z_zero_j, ui_s, uj_s, ui_o, ui_k, uj_o, uj_k, ui_j, uj_i, z_zero_o, z_zero_j]; exact hfo
  · unfold nM1010; simp (disch := first | decide | exact ad_ne (by decide) | exact ad_m (by decide) | exact ad_l (by decide) | exact ad_g (by decide) | exact ad_lt (by decide) | exact ad_o (by decide) | omega) only [↓ui_s, ↓uj_s, ↓ui_o, ↓ui_k, ↓uj_o, ↓uj_k, ↓ui_j, ↓uj_i, ↓z_zero_o, ↓z_zero_j, ui_s, uj_s, ui_o, ui_k, uj_o, uj_k, ui_j, uj_i, z_zero_o, z_zero_j]; exact htu
  · unfold nM1010; simp (disch := first | decide | exact ad_ne (by decide) | exact ad_m (by decide) | exact ad_l (by decide) | exact ad_g (by decide) | exact ad_lt (by decide) | exact ad_o (by decide) | omega) only [↓ui_s, ↓uj_s, ↓ui_o, ↓ui_k, ↓uj_o, ↓uj_k, ↓ui_j, ↓uj_i, ↓z_zero_o, ↓z_zero_j, ui_s, uj_s, ui_o, ui_k, uj_o, uj_k, ui_j, uj_i, z_zero_o, z_zero_j]; exact hdl
theorem rg_nob1011 {x m : zM} (R : RCl x m) (hfo : x.1 2 3 = m.1 50 47) (htu : x.1 0 8 = m.1 50 45) {dl e : Nat} (hdl : m.1 50 40 = nI dl) (hdl4 : dl < 4) (he : (dl + 1) % 4 = e) (ds : Bool) : RG (eHB (z_ui (z_ui (z_ui (z_ui x 18 4 ((x.1 18 4) + 1000)) 26 4 ((x.1 26 4) + (-3000))) 34 4 ((x.1 34 4) + 1000)) 42 4 ((x.1 42 4) + 1000)) ds false (xBk (z_ui (z_ui (z_ui (z_ui x 18 4 ((x.1 18 4) + 1000)) 26 4 ((x.1 26 4) + (-3000))) 34 4 ((x.1 34 4) + 1000)) 42 4 ((x.1 42 4) + 1000))) dl e (rcM (z_ui (z_ui (z_ui (z_ui x 18 4 ((x.1 18 4) + 1000)) 26 4 ((x.1 26 4) + (-3000))) 34 4 ((x.1 34 4) + 1000)) 42 4 ((x.1 42 4) + 1000)))) (eMB (nM1011 m) ds true dl e) := by
  refine rg_ends (rc_nob1011 R) ?_ ?_ ?_ hdl4 he ds false
  · unfold nM1011; simp (disch := first | decide | exact ad_ne (by decide) | exact ad_m (by decide) | exact ad_l (by decide) | exact ad_g (by decide) | exact ad_lt (by decide) | exact ad_o (by decide) | omega) only [↓ui_s, ↓uj_s, ↓ui_o, ↓ui_k, ↓uj_o, ↓uj_k, ↓ui_j, ↓uj_i, ↓z_zero_o, ↓z_zero_j, ui_s, uj_s, ui_o, ui_k, uj_o, uj_k, ui_j, uj_i, z_zero_o, z_zero_j]; exact hfo
  · unfold nM1011; simp (disch := first | decide | exact ad_ne (by decide) | exact ad_m (by decide) | exact ad_l (by decide) | exact ad_g (by decide) | exact ad_lt (by decide) | exact ad_o (by decide) | omega) only [↓ui_s, ↓uj_s, ↓ui_o, ↓ui_k, ↓uj_o, ↓uj_k, ↓ui_j, ↓uj_i, ↓z_zero_o, ↓z_zero_j, ui_s, uj_s, ui_o, ui_k, uj_o, uj_k, ui_j, uj_i, z_zero_o, z_zero_j]; exact htu
  · unfold nM1011; simp (disch := first | decide | exact ad_ne (by decide) | exact ad_m (by decide) | exact ad_l (by decide) | exact ad_g (by decide) | exact ad_lt (by decide) | exact ad_o (by decide) | omega) only [↓ui_s, ↓uj_s, ↓ui_o, ↓ui_k, ↓uj_o, ↓uj_k, ↓ui_j, ↓uj_i, ↓z_zero_o, ↓z_zero_j, ui_s, uj_s, ui_o, ui_k, uj_o, uj_k, ui_j, uj_i, z_zero_o, z_zero_j]; exact hdl
theorem rg_nob1100 {x m : zM} (R : RCl x m) (hfo : x.1 2 3 = m.1 50 47) (htu : x.1 0 8 = m.1 50 45) {dl e : Nat} (hdl : m.1 50 40 = nI dl) (hdl4 : dl < 4) (he : (dl + 1) % 4 = e) (ds : Bool) : RG (eHB (z_ui (z_ui (z_ui (z_ui x 18 4 ((x.1 18 4) + 1500)) 26 4 ((x.1 26 4) + 1500)) 34 4 ((x.1 34 4) + (-1500))) 42 4 ((x.1 42 4) + (-1500))) ds false (xBk (z_ui (z_ui (z_ui (z_ui x 18 4 ((x.1 18 4) + 1500)) 26 4 ((x.1 26 4) + 1500)) 34 4 ((x.1 34 4) + (-1500))) 42 4 ((x.1 42 4) + (-1500)))) dl e (rcM (z_ui (z_ui (z_ui (z_ui x 18 4 ((x.1 18 4) + 1500)) 26 4 ((x.1 26 4) + 1500)) 34 4 ((x.1 34 4) + (-1500))) 42 4 ((x.1 42 4) + (-1500))))) (eMB (nM1100 m) ds true dl e) := by
  refine rg_ends (rc_nob1100 R) ?_ ?_ ?_ hdl4 he ds false
  · unfold nM1100; simp (disch := first | decide | exact ad_ne (by decide) | exact ad_m (by decide) | exact ad_l (by decide) | exact ad_g (by decide) | exact ad_lt (by decide) | exact ad_o (by decide) | omega) only [↓ui_s, ↓uj_s, ↓ui_o, ↓ui_k, ↓uj_o, ↓uj_k, ↓ui_j, ↓uj_i, ↓z_zero_o, ↓z_zero_j, ui_s, uj_s, ui_o, ui_k, uj_o, uj_k, ui_j, uj_i, z_zero_o, z_zero_j]; exact hfo
  · unfold nM1100; simp (disch := first | decide | exact ad_ne (by decide) | exact ad_m (by decide) | exact ad_l (by decide) | exact ad_g (by decide) | exact ad_lt (by decide) | exact ad_o (by decide) | omega) only [↓ui_s, ↓uj_s, ↓ui_o, ↓ui_k, ↓uj_o, ↓uj_k, ↓ui_j, ↓uj_i, ↓z_zero_o, ↓z_zero_j, ui_s, uj_s, ui_o, ui_k, uj_o, uj_k, ui_j, uj_i, z_zero_o, z_zero_j]; exact htu
  · unfold nM1100; simp (disch := first | decide | exact ad_ne (by decide) | exact ad_m (by decide) | exact ad_l (by decide) | exact ad_g (by decide) | exact ad_lt (by decide) | exact ad_o (by decide) | omega) only [↓ui_s, ↓uj_s, ↓ui_o, ↓ui_k, ↓uj_o, ↓uj_k, ↓ui_j, ↓uj_i, ↓z_zero_o, ↓z_zero_j, ui_s, uj_s, ui_o, ui_k, uj_o, uj_k, ui_j, uj_i, z_zero_o, z_zero_j]; exact hdl
theorem rg_nob1101 {x m : zM} (R : RCl x m) (hfo : x.1 2 3 = m.1 50 47) (htu : x.1 0 8 = m.1 50 45) {dl e : Nat} (hdl : m.1 50 40 = nI dl) (hdl4 : dl < 4) (he : (dl + 1) % 4 = e) (ds : Bool) : RG (eHB (z_ui (z_ui (z_ui (z_ui x 18 4 ((x.1 18 4) + 1000)) 26 4 ((x.1 26 4) + 1000)) 34 4 ((x.1 34 4) + (-3000))) 42 4 ((x.1 42 4) + 1000)) ds false (xBk (z_ui (z_ui (z_ui (z_ui x 18 4 ((x.1 18 4) + 1000)) 26 4 ((x.1 26 4) + 1000)) 34 4 ((x.1 34 4) + (-3000))) 42 4 ((x.1 42 4) + 1000))) dl e (rcM (z_ui (z_ui (z_ui (z_ui x 18 4 ((x.1 18 4) + 1000)) 26 4 ((x.1 26 4) + 1000)) 34 4 ((x.1 34 4) + (-3000))) 42 4 ((x.1 42 4) + 1000)))) (eMB (nM1101 m) ds true dl e) := by
  refine rg_ends (rc_nob1101 R) ?_ ?_ ?_ hdl4 he ds false
  · unfold nM1101; simp (disch := first | decide | exact ad_ne (by decide) | exact ad_m (by decide) | exact ad_l (by decide) | exact ad_g (by decide) | exact ad_lt (by decide) | exact ad_o (by decide) | omega) only [↓ui_s, ↓uj_s, ↓ui_o, ↓ui_k, ↓uj_o, ↓uj_k, ↓ui_j, ↓uj_i, ↓z_zero_o, ↓z_zero_j, ui_s, uj_s, ui_o, ui_k, uj_o, uj_k, ui_j, uj_i, z_zero_o, z_zero_j]; exact hfo
  · unfold nM1101; simp (disch := first | decide | exact ad_ne (by decide) | exact ad_m (by decide) | exact ad_l (by decide) | exact ad_g (by decide) | exact ad_lt (by decide) | exact ad_o (by decide) | omega) only [↓ui_s, ↓uj_s, ↓ui_o, ↓ui_k, ↓uj_o, ↓uj_k, ↓ui_j, ↓uj_i, ↓z_zero_o, ↓z_zero_j, ui_s, uj_s, ui_o, ui_k, uj_o, uj_k, ui_j, uj_i, z_zero_o, z_zero_j]; exact htu
  · unfold nM1101; simp (disch := first | decide | exact ad_ne (by decide) | exact ad_m (by decide) | exact ad_l (by decide) | exact ad_g (by decide) | exact ad_lt (by decide) | exact ad_o (by decide) | omega) only [↓ui_s, ↓uj_s, ↓ui_o, ↓ui_k, ↓uj_o, ↓uj_k, ↓ui_j, ↓uj_i, ↓z_zero_o, ↓z_zero_j, ui_s, uj_s, ui_o, ui_k, uj_o, uj_k, ui_j, uj_i, z_zero_o, z_zero_j]; exact hdl
theorem rg_nob1110 {x m : zM} (R : RCl x m) (hfo : x.1 2 3 = m.1 50 47) (htu : x.1 0 8 = m.1 50 45) {dl e : Nat} (hdl : m.1 50 40 = nI dl) (hdl4 : dl < 4) (he : (dl + 1) % 4 = e) (ds : Bool) : RG (eHB (z_ui (z_ui (z_ui (z_ui x 18 4 ((x.1 18 4) + 1000)) 26 4 ((x.1 26 4) + 1000)) 34 4 ((x.1 34 4) + 1000)) 42 4 ((x.1 42 4) + (-3000))) ds false (xBk (z_ui (z_ui (z_ui (z_ui x 18 4 ((x.1 18 4) + 1000)) 26 4 ((x.1 26 4) + 1000)) 34 4 ((x.1 34 4) + 1000)) 42 4 ((x.1 42 4) + (-3000)))) dl e (rcM (z_ui (z_ui (z_ui (z_ui x 18 4 ((x.1 18 4) + 1000)) 26 4 ((x.1 26 4) + 1000)) 34 4 ((x.1 34 4) + 1000)) 42 4 ((x.1 42 4) + (-3000))))) (eMB (nM1110 m) ds true dl e) := by
  refine rg_ends (rc_nob1110 R) ?_ ?_ ?_ hdl4 he ds false
  · unfold nM1110; simp (disch := first | decide | exact ad_ne (by decide) | exact ad_m (by decide) | exact ad_l (by decide) | exact ad_g (by decide) | exact ad_lt (by decide) | exact ad_o (by decide) | omega) only [↓ui_s, ↓uj_s, ↓ui_o, ↓ui_k, ↓uj_o, ↓uj_k, ↓ui_j, ↓uj_i, ↓z_zero_o, ↓z_zero_j, ui_s, uj_s, ui_o, ui_k, uj_o, uj_k, ui_j, uj_i, z_zero_o, z_zero_j]; exact hfo
  · unfold nM1110; simp (disch := first | decide | exact ad_ne (by decide) | exact ad_m (by decide) | exact ad_l (by decide) | exact ad_g (by decide) | exact ad_lt (by decide) | exact ad_o (by decide) | omega) only [↓ui_s, ↓uj_s, ↓ui_o, ↓ui_k, ↓uj_o, ↓uj_k, ↓ui_j, ↓uj_i, ↓z_zero_o, ↓z_zero_j, ui_s, uj_s, ui_o, ui_k, uj_o, uj_k, ui_j, uj_i, z_zero_o, z_zero_j]; exact htu
  · unfold nM1110; simp (disch := first | decide | exact ad_ne (by decide) | exact ad_m (by decide) | exact ad_l (by decide) | exact ad_g (by decide) | exact ad_lt (by decide) | exact ad_o (by decide) | omega) only [↓ui_s, ↓uj_s, ↓ui_o, ↓ui_k, ↓uj_o, ↓uj_k, ↓ui_j, ↓uj_i, ↓z_zero_o, ↓z_zero_j, ui_s, uj_s, ui_o, ui_k, uj_o, uj_k, ui_j, uj_i, z_zero_o, z_zero_j]; exact hdl
theorem rg_nob1111 {x m : zM} (R : RCl x m) (hfo : x.1 2 3 = m.1 50 47) (htu : x.1 0 8 = m.1 50 45) {dl e : Nat} (hdl : m.1 50 40 = nI dl) (hdl4 : dl < 4) (he : (dl + 1) % 4 = e) (ds : Bool) : RG (eHB (x) ds false (xBk (x)) dl e (rcM (x))) (eMB (nM1111 m) ds true dl e) := by
  refine rg_ends (rc_nob1111 R) ?_ ?_ ?_ hdl4 he ds false
  · unfold nM1111; simp (disch := first | decide | exact ad_ne (by decide) | exact ad_m (by decide) | exact ad_l (by decide) | exact ad_g (by decide) | exact ad_lt (by decide) | exact ad_o (by decide) | omega) only [↓ui_s, ↓uj_s, ↓ui_o, ↓ui_k, ↓uj_o, ↓uj_k, ↓ui_j, ↓uj_i, ↓z_zero_o, ↓z_zero_j, ui_s, uj_s, ui_o, ui_k, uj_o, uj_k, ui_j, uj_i, z_zero_o, z_zero_j]; exact hfo
  · unfold nM1111; simp (disch := first | decide | exact ad_ne (by decide) | exact ad_m (by decide) | exact ad_l (by decide) | exact ad_g (by decide) | exact ad_lt (by decide) | exact ad_o (by decide) | omega) only [↓ui_s, ↓uj_s, ↓ui_o, ↓ui_k, ↓uj_o, ↓uj_k, ↓ui_j, ↓uj_i, ↓z_zero_o, ↓z_zero_j, ui_s, uj_s, ui_o, ui_k, uj_o, uj_k, ui_j, uj_i, z_zero_o, z_zero_j]; exact htu
  · unfold nM1111; simp (disch := first | decide | exact ad_ne (by decide) | exact ad_m (by decide) | exact ad_l (by decide) | exact ad_g (by decide) | exact ad_lt (by decide) | exact ad_o (by decide) | omega) only [↓ui_s, ↓uj_s, ↓ui_o, ↓ui_k, ↓uj_o, ↓uj_k, ↓ui_j, ↓uj_i, ↓z_zero_o, ↓z_zero_j, ui_s, uj_s, ui_o, ui_k, uj_o, uj_k, ui_j, uj_i, z_zero_o, z_zero_j]; exact hdl
/-! the reference's WAITS as its contracts ask for them -/
set_option maxRecDepth 8000
theorem WMs_se {μ M : zM} (h : SE μ M) {s : Nat} {w : Nat → Nat} {q : Nat} : WMs M s w q = WMs μ s w q := by
  funext c
  unfold WMs
  rw [show (fun i => M.1 62 (4 * s + i)) = (fun i => μ.1 62 (4 * s + i)) from funext fun i => h 62 _ (by omega), show (fun i => M.1 63 (4 * s + i)) = (fun i => μ.1 63 (4 * s + i)) from funext fun i => h 63 _ (by omega)]
theorem mw_wait {μ : zM} {s : Nat} {w : Nat → Nat} {q : Nat} {sL lL : Nat → Nat} (H : HM μ s w q sL lL) (hs : s < 4) : ∀ M, SE μ M → a_H M → ∀ d, 699 ≤ d → z_C d mi_X7_waitsAt [.ref 50, .int (nI s)] M (fun r W => r = some (.long (WV μ s w q)) ∧ SMj M W ∧ a_H W) := fun M hM hA d hd => by
  have z := gm_waitsAt d (by omega) M hA s hs w q sL lL (H.se hM)
  rw [WMs_se hM] at z
  exact z
theorem HM.m {m m' : zM} {s : Nat} {w : Nat → Nat} {q : Nat} {sL lL : Nat → Nat} (h : HM m s w q sL lL) (e : EqM m m') : HM m' s w q sL lL := h.se (fun r k g => (e r k (Or.inl (by omega))).1)
theorem WV_m {m m' : zM} (e : EqM m m') {s : Nat} {w : Nat → Nat} {q : Nat} : WV m' s w q = WV m s w q := by
  unfold WV
  rw [WMs_se (μ := m) (M := m') (fun r k g => (e r k (Or.inl (by omega))).1)]
theorem HF.m {x m m' : zM} {s : Nat} {w aw : Nat → Nat} {q : Nat} {sL lL : Nat → Nat} (H : HF x m s w aw q sL lL) (e : EqM m m') : HF x m' s w aw q sL lL := by
  obtain ⟨h1, h2, h3, h4, h5, h6, h7, h8⟩ := H
  refine ⟨h1.m e, h2, h3, h4, h5, h6, h7, fun k hk => ?_⟩
  rw [h8 k hk, show (fun i => m'.1 62 (4 * s + i)) = (fun i => m.1 62 (4 * s + i)) from funext fun i => (e 62 _ (Or.inl ⟨by omega, by omega⟩)).1, show (fun i => m'.1 63 (4 * s + i)) = (fun i => m.1 63 (4 * s + i)) from funext fun i => (e 63 _ (Or.inl ⟨by omega, by omega⟩)).1]
/-! who may claim a SET: alike -/
set_option maxRecDepth 8000
noncomputable abbrev xMC (μ : zM) (s : Nat) : Bool := (decide ((μ.1 0 7) = 2)) && ((sI (nI s)) && (!(decide ((nI s) = (μ.1 0 8))) && ((decide ((μ.1 (18 + 8 * s) 5) = 0)) && (!(decide ((xLf μ) ≤ 0)) && (!(xAny μ))))))
noncomputable abbrev mMC (μ : zM) (s : Nat) : Bool := (decide ((μ.1 50 44) = 2)) && (!(anS μ) && (!(decide (((122 - (μ.1 50 47)) - (μ.1 50 46)) ≤ 0)) && (!(decide ((nI s) = (μ.1 50 45))) && (decide ((μ.1 67 s) = 0)))))
theorem any_eq {x m : zM} (R : RCl x m) : xAny x = anS m := by
  have e0 : x.1 18 9 = m.1 71 0 := R.sy 0 (by decide)
  have e1 : x.1 26 9 = m.1 71 1 := R.sy 1 (by decide)
  have e2 : x.1 34 9 = m.1 71 2 := R.sy 2 (by decide)
  have e3 : x.1 42 9 = m.1 71 3 := R.sy 3 (by decide)
  unfold xAny anS
  rw [e0, e1, e2, e3]
theorem mc_eq {x m : zM} (h : RG x m) {s : Nat} (hs : s < 4) : xMC x s = mMC m s := by
  have R := h.1
  obtain ⟨e7, e8, e3⟩ := rg_ph h
  unfold xMC mMC
  rw [e7, e8, sI_n hs, R.be s hs, any_eq R, Bool.true_and]
  rcases h.2 with ⟨p1, p2, -, -, -⟩ | ⟨p, t, c, P⟩
  · rw [p2]; rfl
  · unfold xLf
    rw [R.sd, P.is, e3, R.nx, show decide ((1 : Int32) = 0) = false from by decide, cond_false]
    generalize decide (m.1 50 44 = 2) = b1
    generalize anS m = b2
    generalize decide (122 - m.1 50 47 - m.1 50 46 ≤ 0) = b3
    generalize decide (nI s = m.1 50 45) = b4
    generalize decide (m.1 67 s = 0) = b5
    cases b1 <;> cases b2 <;> cases b3 <;> cases b4 <;> cases b5 <;> rfl
/-! a tile stays to be discarded: alike (three) -/
set_option maxRecDepth 8000
theorem hd_one : ∀ c, c < 34 → ∀ k, k < 34 → xHd ((1 : Int64) <<< ((nI c).toInt64 &&& 63)) (nI k) = decide (k = c) := by decide +kernel
theorem hd_zero : ∀ k, k < 34 → xHd 0 (nI k) = false := by decide +kernel
theorem nI_dec {a b : Nat} (ha : a < 34) (hb : b < 34) : decide (nI a = nI b) = decide (a = b) := by
  by_cases e : a = b
  · rw [decide_eq_true e, decide_eq_true (by rw [e])]
  · rw [decide_eq_false e, decide_eq_false (fun z => e ((nI_eq (by omega) (by omega)).mp z))]
theorem ko_three {x m : zM} (R : RCl x m) {s c : Nat} (hs : s < 4) (hc : c < 34) : kA (koF x s 0 ((1 : Int64) <<< ((nI c).toInt64 &&& 63))) 34 = kA (cdF (z_giv (z_ui (z_ui (z_ui m 50 0 0) 50 50 (nI c)) 50 51 (-1)) s c (-2)) s) 34 := by
  refine kA_cg (fun k hk => ?_)
  have e50 : (z_giv (z_ui (z_ui (z_ui m 50 0 0) 50 50 (nI c)) 50 51 (-1)) s c (-2)).1 50 50 = nI c := by rw [giv_o (by decide), ui_k (by decide), ui_s]
  have e51 : (z_giv (z_ui (z_ui (z_ui m 50 0 0) 50 50 (nI c)) 50 51 (-1)) s c (-2)).1 50 51 = -1 := by rw [giv_o (by decide), ui_s]
  unfold koF cdF
  rw [hd_zero k hk, hd_one c hc k hk, show nB false = 0 from rfl, Int32.sub_zero, R.hd s k hs hk, e50, e51, nI_dec hk hc, nI_m1n hk]
  by_cases e : k = c
  · rw [decide_eq_true e]; simp
  · rw [decide_eq_false e, giv_60, if_neg (by omega), ui_o (by decide), ui_o (by decide), ui_o (by decide)]; simp
/-! further refused calls: three, four, run -/
set_option maxRecDepth 8000
theorem gx_threeF (d : Nat) (hd : 4 ≤ d) (μ : zM) (s c : Nat) (hs4 : s < 4) (hc15 : μ.1 0 15 = nI c) (hmc : ∀ d, 3 ≤ d → z_C d mi_X6_mayClaimSet [.ref 0, .int (nI s)] μ (zR μ (.int 1))) (hf : decide (2 ≤ fr μ (20 + 8 * s) (nI c)) = false) : z_C d mi_X6_three [.ref 0, .int (nI s)] μ (fun r μ' => r = some (.int 0) ∧ μ' = μ) := by
  refine z_C_in (by decide) (by omega) (fun d' Z ed hc hr => ?_)
  have hH : zH mi_X6_three zt_X6_three 79 6 4 := hh_X6_three
  refine z_rcs hc hH 2 (pc' := 2) (lv' := [(0, .ref 0), (1, .int (nI s))]) (st' := [.int (nI s), .ref 0]) (μ' := μ) (by rfl) ?_
  refine zq_call hc (z_cx_ok hH (by rfl)) (hmc d' (by omega)) (by decide +kernel) (fun r9 μ9 hq => ?_)
  obtain ⟨hμ9, rfl⟩ := hq
  rw [hμ9]
  clear hμ9 μ9
  show Z 0 5 [(0, .ref 0), (1, .int (nI s))] [.int 1] μ
  refine z_rcs hc hH 3 (pc' := 10) (lv' := [(0, .ref 0), (1, .int (nI s))]) (st' := [.int (nI s), .ref 0]) (μ' := μ) (by rfl) ?_
  refine zq_call hc (z_cx_ok hH (by rfl)) (gc_at4 d' (by omega) μ s hs4) (by decide +kernel) (fun r9 μ9 hq => ?_)
  obtain ⟨hμ9, rfl⟩ := hq
  rw [hμ9]
  clear hμ9 μ9
  show Z 0 13 [(0, .ref 0), (1, .int (nI s))] [.ref (18 + 8 * s)] μ
  refine zq_gfr hc hH (by rfl) (ci := 1) (f := 0) (q := 19 + 8 * s) (by rfl) (sj (P := fun i => okf 79 1 0 (18 + 8 * i)) hs4 (by decide +kernel)) (by rfl) (sj (P := fun i => Nat.beq (z_gr (18 + 8 * i) 0) (19 + 8 * i)) hs4 (by decide +kernel)) ?_
  refine z_rcs hc hH 1 (pc' := 17) (lv' := [(0, .ref 0), (1, .int (nI s))]) (st' := [.ref 0, .ref (19 + 8 * s)]) (μ' := μ) (by rfl) ?_
  refine zq_gfi hc hH (by rfl) (ci := 5) (f := 15) (by rfl) (by decide +kernel) (by rfl) ?_
  rw [hc15]
  refine zq_call hc (z_clv9 hH (by rfl) (by rfl) (by rfl) (by rfl) (sj (P := fun i => okr 79 2 (19 + 8 * i)) hs4 (by decide +kernel)) (by rfl) (by rfl)) (gc_free d' (by omega) μ s hs4 (nI c)) (by decide +kernel) (fun r9 μ9 hq => ?_)
  obtain ⟨hμ9, rfl⟩ := hq
  rw [hμ9]
  clear hμ9 μ9
  show Z 0 23 [(0, .ref 0), (1, .int (nI s))] [.int (fr μ (20 + 8 * s) (nI c))] μ
  refine z_rcs hc hH 1 (pc' := 24) (lv' := [(0, .ref 0), (1, .int (nI s))]) (st' := [.int 2, .int (fr μ (20 + 8 * s) (nI c))]) (μ' := μ) (by rfl) ?_
  refine zq_ic hc hH (by rfl) (tg := 29) (by rfl) (fun h1 => ?_) (fun h1 => ?_)
  · have h1 : (decide (2 ≤ (fr μ (20 + 8 * s) (nI c)))) = true := decide_eq_true (cm_ge.mp h1)
    exact absurd (Eq.trans (Eq.symm (hf)) h1) (by decide)
  · have h1 : (decide (2 ≤ (fr μ (20 + 8 * s) (nI c)))) = false := decide_eq_false (cn_ge.mp h1)
    refine z_rcs hc hH 1 (pc' := 28) (lv' := [(0, .ref 0), (1, .int (nI s))]) (st' := [.int 0]) (μ' := μ) (by rfl) ?_
    exact hr 0 28 _ _ _ (some (.int 0)) (by decide +kernel) (z_rx_ok hH (by rfl)) (⟨rfl, rfl⟩)
theorem gx_fourF (d : Nat) (hd : 4 ≤ d) (μ : zM) (s c : Nat) (hs4 : s < 4) (hc15 : μ.1 0 15 = nI c) (hmc : ∀ d, 3 ≤ d → z_C d mi_X6_mayClaimSet [.ref 0, .int (nI s)] μ (zR μ (.int 1))) (hf : decide (fr μ (20 + 8 * s) (nI c) < 3) = true) : z_C d mi_X6_four [.ref 0, .int (nI s)] μ (fun r μ' => r = some (.int 0) ∧ μ' = μ) := by
  refine z_C_in (by decide) (by omega) (fun d' Z ed hc hr => ?_)
  have hH : zH mi_X6_four zt_X6_four 79 6 2 := hh_X6_four
  refine z_rcs hc hH 2 (pc' := 2) (lv' := [(0, .ref 0), (1, .int (nI s))]) (st' := [.int (nI s), .ref 0]) (μ' := μ) (by rfl) ?_
  refine zq_call hc (z_cx_ok hH (by rfl)) (hmc d' (by omega)) (by decide +kernel) (fun r9 μ9 hq => ?_)
  obtain ⟨hμ9, rfl⟩ := hq
  rw [hμ9]
  clear hμ9 μ9
  show Z 0 5 [(0, .ref 0), (1, .int (nI s))] [.int 1] μ
  refine z_rcs hc hH 3 (pc' := 10) (lv' := [(0, .ref 0), (1, .int (nI s))]) (st' := [.int (nI s), .ref 0]) (μ' := μ) (by rfl) ?_
  refine zq_call hc (z_cx_ok hH (by rfl)) (gc_at4 d' (by omega) μ s hs4) (by decide +kernel) (fun r9 μ9 hq => ?_)
  obtain ⟨hμ9, rfl⟩ := hq
  rw [hμ9]
  clear hμ9 μ9
  show Z 0 13 [(0, .ref 0), (1, .int (nI s))] [.ref (18 + 8 * s)] μ
  refine zq_gfr hc hH (by rfl) (ci := 1) (f := 0) (q := 19 + 8 * s) (by rfl) (sj (P := fun i => okf 79 1 0 (18 + 8 * i)) hs4 (by decide +kernel)) (by rfl) (sj (P := fun i => Nat.beq (z_gr (18 + 8 * i) 0) (19 + 8 * i)) hs4 (by decide +kernel)) ?_
  refine z_rcs hc hH 1 (pc' := 17) (lv' := [(0, .ref 0), (1, .int (nI s))]) (st' := [.ref 0, .ref (19 + 8 * s)]) (μ' := μ) (by rfl) ?_
  refine zq_gfi hc hH (by rfl) (ci := 5) (f := 15) (by rfl) (by decide +kernel) (by rfl) ?_
  rw [hc15]
  refine zq_call hc (z_clv9 hH (by rfl) (by rfl) (by rfl) (by rfl) (sj (P := fun i => okr 79 2 (19 + 8 * i)) hs4 (by decide +kernel)) (by rfl) (by rfl)) (gc_free d' (by omega) μ s hs4 (nI c)) (by decide +kernel) (fun r9 μ9 hq => ?_)
  obtain ⟨hμ9, rfl⟩ := hq
  rw [hμ9]
  clear hμ9 μ9
  show Z 0 23 [(0, .ref 0), (1, .int (nI s))] [.int (fr μ (20 + 8 * s) (nI c))] μ
  refine z_rcs hc hH 1 (pc' := 24) (lv' := [(0, .ref 0), (1, .int (nI s))]) (st' := [.int 3, .int (fr μ (20 + 8 * s) (nI c))]) (μ' := μ) (by rfl) ?_
  refine zq_ic hc hH (by rfl) (tg := 38) (by rfl) (fun h1 => ?_) (fun h1 => ?_)
  · have h1 : (decide ((fr μ (20 + 8 * s) (nI c)) < 3)) = true := decide_eq_true (cm_lt.mp h1)
    refine z_rcs hc hH 1 (pc' := 39) (lv' := [(0, .ref 0), (1, .int (nI s))]) (st' := [.int 0]) (μ' := μ) (by rfl) ?_
    exact hr 0 39 _ _ _ (some (.int 0)) (by decide +kernel) (z_rx_ok hH (by rfl)) (⟨rfl, rfl⟩)
  · have h1 : (decide ((fr μ (20 + 8 * s) (nI c)) < 3)) = false := decide_eq_false (cn_lt.mp h1)
    exact absurd (Eq.trans (Eq.symm (hf)) h1) (by decide)
theorem gx_runS (d : Nat) (hd : 4 ≤ d) (μ : zM) (s : Nat) (hs4 : s < 4) (x : Int32) (t u1 : Nat) (ht4 : t < 4) (ht : μ.1 0 8 = nI t) (hu1 : (t + 1) % 4 = u1) (hu14 : u1 < 4) (hmc : ∀ d, 3 ≤ d → z_C d mi_X6_mayClaimSet [.ref 0, .int (nI s)] μ (zR μ (.int 1))) (hsu : decide (nI s = nI u1) = false) : z_C d mi_X6_run [.ref 0, .int (nI s), .int x] μ (fun r μ' => r = some (.int 0) ∧ μ' = μ) := by
  refine z_C_in (by decide) (by omega) (fun d' Z ed hc hr => ?_)
  have hH : zH mi_X6_run zt_X6_run 79 6 6 := hh_X6_run
  refine z_rcs hc hH 2 (pc' := 2) (lv' := [(0, .ref 0), (1, .int (nI s)), (2, .int x)]) (st' := [.int (nI s), .ref 0]) (μ' := μ) (by rfl) ?_
  refine zq_call hc (z_cx_ok hH (by rfl)) (hmc d' (by omega)) (by decide +kernel) (fun r9 μ9 hq => ?_)
  obtain ⟨hμ9, rfl⟩ := hq
  rw [hμ9]
  clear hμ9 μ9
  show Z 0 5 [(0, .ref 0), (1, .int (nI s)), (2, .int x)] [.int 1] μ
  refine z_rcs hc hH 3 (pc' := 10) (lv' := [(0, .ref 0), (1, .int (nI s)), (2, .int x)]) (st' := [.ref 0, .int (nI s)]) (μ' := μ) (by rfl) ?_
  refine zq_gfi hc hH (by rfl) (ci := 5) (f := 8) (by rfl) (by decide +kernel) (by rfl) ?_
  rw [ht]
  refine z_rcs hc hH 2 (pc' := 15) (lv' := [(0, .ref 0), (1, .int (nI s)), (2, .int x)]) (st' := [.int ((nI t) + 1), .int (nI s)]) (μ' := μ) (by rfl) ?_
  rw [nI_s1]
  refine z_rcs hc hH 2 (pc' := 17) (lv' := [(0, .ref 0), (1, .int (nI s)), (2, .int x)]) (st' := [.int ((nI (t + 1)) &&& 3), .int (nI s)]) (μ' := μ) (by rfl) ?_
  rw [show nI (t + 1) &&& 3 = nI u1 from by rw [and3 (by omega), hu1]]
  refine zq_ic hc hH (by rfl) (tg := 27) (by rfl) (fun h1 => ?_) (fun h1 => ?_)
  · have h1 : (decide ((nI s) = (nI u1))) = false := decide_eq_false (cm_ne.mp h1)
    refine z_rcs hc hH 1 (pc' := 28) (lv' := [(0, .ref 0), (1, .int (nI s)), (2, .int x)]) (st' := [.int 0]) (μ' := μ) (by rfl) ?_
    exact hr 0 28 _ _ _ (some (.int 0)) (by decide +kernel) (z_rx_ok hH (by rfl)) (⟨rfl, rfl⟩)
  · have h1 : (decide ((nI s) = (nI u1))) = true := decide_eq_true (cn_ne.mp h1)
    exact absurd (Eq.trans (Eq.symm (hsu)) h1) (by decide)
theorem gx_runR (d : Nat) (hd : 4 ≤ d) (μ : zM) (s : Nat) (hs4 : s < 4) (x : Int32) (t u1 : Nat) (ht4 : t < 4) (ht : μ.1 0 8 = nI t) (hu1 : (t + 1) % 4 = u1) (hu14 : u1 < 4) (hmc : ∀ d, 3 ≤ d → z_C d mi_X6_mayClaimSet [.ref 0, .int (nI s)] μ (zR μ (.int 1))) (hsu : decide (nI s = nI u1) = true) (hsr : ∀ d, 1 ≤ d → z_C d mi_X6_startsRun [.int x] μ (zR μ (.int 0))) : z_C d mi_X6_run [.ref 0, .int (nI s), .int x] μ (fun r μ' => r = some (.int 0) ∧ μ' = μ) := by
  refine z_C_in (by decide) (by omega) (fun d' Z ed hc hr => ?_)
  have hH : zH mi_X6_run zt_X6_run 79 6 6 := hh_X6_run
  refine z_rcs hc hH 2 (pc' := 2) (lv' := [(0, .ref 0), (1, .int (nI s)), (2, .int x)]) (st' := [.int (nI s), .ref 0]) (μ' := μ) (by rfl) ?_
  refine zq_call hc (z_cx_ok hH (by rfl)) (hmc d' (by omega)) (by decide +kernel) (fun r9 μ9 hq => ?_)
  obtain ⟨hμ9, rfl⟩ := hq
  rw [hμ9]
  clear hμ9 μ9
  show Z 0 5 [(0, .ref 0), (1, .int (nI s)), (2, .int x)] [.int 1] μ
  refine z_rcs hc hH 3 (pc' := 10) (lv' := [(0, .ref 0), (1, .int (nI s)), (2, .int x)]) (st' := [.ref 0, .int (nI s)]) (μ' := μ) (by rfl) ?_
  refine zq_gfi hc hH (by rfl) (ci := 5) (f := 8) (by rfl) (by decide +kernel) (by rfl) ?_
  rw [ht]
  refine z_rcs hc hH 2 (pc' := 15) (lv' := [(0, .ref 0), (1, .int (nI s)), (2, .int x)]) (st' := [.int ((nI t) + 1), .int (nI s)]) (μ' := μ) (by rfl) ?_
  rw [nI_s1]
  refine z_rcs hc hH 2 (pc' := 17) (lv' := [(0, .ref 0), (1, .int (nI s)), (2, .int x)]) (st' := [.int ((nI (t + 1)) &&& 3), .int (nI s)]) (μ' := μ) (by rfl) ?_
  rw [show nI (t + 1) &&& 3 = nI u1 from by rw [and3 (by omega), hu1]]
  refine zq_ic hc hH (by rfl) (tg := 27) (by rfl) (fun h1 => ?_) (fun h1 => ?_)
  · have h1 : (decide ((nI s) = (nI u1))) = false := decide_eq_false (cm_ne.mp h1)
    exact absurd (Eq.trans (Eq.symm (hsu)) h1) (by decide)
  · have h1 : (decide ((nI s) = (nI u1))) = true := decide_eq_true (cn_ne.mp h1)
    refine z_rcs hc hH 1 (pc' := 21) (lv' := [(0, .ref 0), (1, .int (nI s)), (2, .int x)]) (st' := [.int x]) (μ' := μ) (by rfl) ?_
    refine zq_call hc (z_cx_ok hH (by rfl)) (hsr d' (by omega)) (by decide +kernel) (fun r9 μ9 hq => ?_)
    obtain ⟨hμ9, rfl⟩ := hq
    rw [hμ9]
    clear hμ9 μ9
    show Z 0 24 [(0, .ref 0), (1, .int (nI s)), (2, .int x)] [.int 0] μ
    refine z_rcs hc hH 2 (pc' := 28) (lv' := [(0, .ref 0), (1, .int (nI s)), (2, .int x)]) (st' := [.int 0]) (μ' := μ) (by rfl) ?_
    exact hr 0 28 _ _ _ (some (.int 0)) (by decide +kernel) (z_rx_ok hH (by rfl)) (⟨rfl, rfl⟩)
theorem gx_runL (d : Nat) (hd : 4 ≤ d) (μ : zM) (s l c : Nat) (hs4 : s < 4) (hl : l + 2 ≤ 33) (hc15 : μ.1 0 15 = nI c) (t u1 : Nat) (ht4 : t < 4) (ht : μ.1 0 8 = nI t) (hu1 : (t + 1) % 4 = u1) (hu14 : u1 < 4) (hmc : ∀ d, 3 ≤ d → z_C d mi_X6_mayClaimSet [.ref 0, .int (nI s)] μ (zR μ (.int 1))) (hsu : decide (nI s = nI u1) = true) (hsr : ∀ d, 1 ≤ d → z_C d mi_X6_startsRun [.int (nI l)] μ (zR μ (.int 1))) (hl1 : decide (nI c < nI l) = true) : z_C d mi_X6_run [.ref 0, .int (nI s), .int (nI l)] μ (fun r μ' => r = some (.int 0) ∧ μ' = μ) := by
  refine z_C_in (by decide) (by omega) (fun d' Z ed hc hr => ?_)
  have hH : zH mi_X6_run zt_X6_run 79 6 6 := hh_X6_run
  refine z_rcs hc hH 2 (pc' := 2) (lv' := [(0, .ref 0), (1, .int (nI s)), (2, .int (nI l))]) (st' := [.int (nI s), .ref 0]) (μ' := μ) (by rfl) ?_
  refine zq_call hc (z_cx_ok hH (by rfl)) (hmc d' (by omega)) (by decide +kernel) (fun r9 μ9 hq => ?_)
  obtain ⟨hμ9, rfl⟩ := hq
  rw [hμ9]
  clear hμ9 μ9
  show Z 0 5 [(0, .ref 0), (1, .int (nI s)), (2, .int (nI l))] [.int 1] μ
  refine z_rcs hc hH 3 (pc' := 10) (lv' := [(0, .ref 0), (1, .int (nI s)), (2, .int (nI l))]) (st' := [.ref 0, .int (nI s)]) (μ' := μ) (by rfl) ?_
  refine zq_gfi hc hH (by rfl) (ci := 5) (f := 8) (by rfl) (by decide +kernel) (by rfl) ?_
  rw [ht]
  refine z_rcs hc hH 2 (pc' := 15) (lv' := [(0, .ref 0), (1, .int (nI s)), (2, .int (nI l))]) (st' := [.int ((nI t) + 1), .int (nI s)]) (μ' := μ) (by rfl) ?_
  rw [nI_s1]
  refine z_rcs hc hH 2 (pc' := 17) (lv' := [(0, .ref 0), (1, .int (nI s)), (2, .int (nI l))]) (st' := [.int ((nI (t + 1)) &&& 3), .int (nI s)]) (μ' := μ) (by rfl) ?_
  rw [show nI (t + 1) &&& 3 = nI u1 from by rw [and3 (by omega), hu1]]
  refine zq_ic hc hH (by rfl) (tg := 27) (by rfl) (fun h1 => ?_) (fun h1 => ?_)
  · have h1 : (decide ((nI s) = (nI u1))) = false := decide_eq_false (cm_ne.mp h1)
    exact absurd (Eq.trans (Eq.symm (hsu)) h1) (by decide)
  · have h1 : (decide ((nI s) = (nI u1))) = true := decide_eq_true (cn_ne.mp h1)
    refine z_rcs hc hH 1 (pc' := 21) (lv' := [(0, .ref 0), (1, .int (nI s)), (2, .int (nI l))]) (st' := [.int (nI l)]) (μ' := μ) (by rfl) ?_
    refine zq_call hc (z_cx_ok hH (by rfl)) (hsr d' (by omega)) (by decide +kernel) (fun r9 μ9 hq => ?_)
    obtain ⟨hμ9, rfl⟩ := hq
    rw [hμ9]
    clear hμ9 μ9
    show Z 0 24 [(0, .ref 0), (1, .int (nI s)), (2, .int (nI l))] [.int 1] μ
    refine z_rcs hc hH 2 (pc' := 30) (lv' := [(0, .ref 0), (1, .int (nI s)), (2, .int (nI l))]) (st' := [.ref 0]) (μ' := μ) (by rfl) ?_
    refine zq_gfi hc hH (by rfl) (ci := 5) (f := 15) (by rfl) (by decide +kernel) (by rfl) ?_
    rw [hc15]
    refine z_rcs hc hH 1 (pc' := 34) (lv' := [(0, .ref 0), (1, .int (nI s)), (2, .int (nI l))]) (st' := [.int (nI l), .int (nI c)]) (μ' := μ) (by rfl) ?_
    refine zq_ic hc hH (by rfl) (tg := 47) (by rfl) (fun h2 => ?_) (fun h2 => ?_)
    · have h2 : (decide ((nI c) < (nI l))) = true := decide_eq_true (cm_lt.mp h2)
      refine z_rcs hc hH 1 (pc' := 48) (lv' := [(0, .ref 0), (1, .int (nI s)), (2, .int (nI l))]) (st' := [.int 0]) (μ' := μ) (by rfl) ?_
      exact hr 0 48 _ _ _ (some (.int 0)) (by decide +kernel) (z_rx_ok hH (by rfl)) (⟨rfl, rfl⟩)
    · have h2 : (decide ((nI c) < (nI l))) = false := decide_eq_false (cn_lt.mp h2)
      exact absurd (Eq.trans (Eq.symm (hl1)) h2) (by decide)
theorem gx_runG (d : Nat) (hd : 4 ≤ d) (μ : zM) (s l c : Nat) (hs4 : s < 4) (hl : l + 2 ≤ 33) (hc15 : μ.1 0 15 = nI c) (t u1 : Nat) (ht4 : t < 4) (ht : μ.1 0 8 = nI t) (hu1 : (t + 1) % 4 = u1) (hu14 : u1 < 4) (hmc : ∀ d, 3 ≤ d → z_C d mi_X6_mayClaimSet [.ref 0, .int (nI s)] μ (zR μ (.int 1))) (hsu : decide (nI s = nI u1) = true) (hsr : ∀ d, 1 ≤ d → z_C d mi_X6_startsRun [.int (nI l)] μ (zR μ (.int 1))) (hl1 : decide (nI c < nI l) = false) (hl2 : decide (nI c ≤ nI (l + 2)) = false) : z_C d mi_X6_run [.ref 0, .int (nI s), .int (nI l)] μ (fun r μ' => r = some (.int 0) ∧ μ' = μ) := by
  refine z_C_in (by decide) (by omega) (fun d' Z ed hc hr => ?_)
  have hH : zH mi_X6_run zt_X6_run 79 6 6 := hh_X6_run
  refine z_rcs hc hH 2 (pc' := 2) (lv' := [(0, .ref 0), (1, .int (nI s)), (2, .int (nI l))]) (st' := [.int (nI s), .ref 0]) (μ' := μ) (by rfl) ?_
  refine zq_call hc (z_cx_ok hH (by rfl)) (hmc d' (by omega)) (by decide +kernel) (fun r9 μ9 hq => ?_)
  obtain ⟨hμ9, rfl⟩ := hq
  rw [hμ9]
  clear hμ9 μ9
  show Z 0 5 [(0, .ref 0), (1, .int (nI s)), (2, .int (nI l))] [.int 1] μ
  refine z_rcs hc hH 3 (pc' := 10) (lv' := [(0, .ref 0), (1, .int (nI s)), (2, .int (nI l))]) (st' := [.ref 0, .int (nI s)]) (μ' := μ) (by rfl) ?_
  refine zq_gfi hc hH (by rfl) (ci := 5) (f := 8) (by rfl) (by decide +kernel) (by rfl) ?_
  rw [ht]
  refine z_rcs hc hH 2 (pc' := 15) (lv' := [(0, .ref 0), (1, .int (nI s)), (2, .int (nI l))]) (st' := [.int ((nI t) + 1), .int (nI s)]) (μ' := μ) (by rfl) ?_
  rw [nI_s1]
  refine z_rcs hc hH 2 (pc' := 17) (lv' := [(0, .ref 0), (1, .int (nI s)), (2, .int (nI l))]) (st' := [.int ((nI (t + 1)) &&& 3), .int (nI s)]) (μ' := μ) (by rfl) ?_
  rw [show nI (t + 1) &&& 3 = nI u1 from by rw [and3 (by omega), hu1]]
  refine zq_ic hc hH (by rfl) (tg := 27) (by rfl) (fun h1 => ?_) (fun h1 => ?_)
  · have h1 : (decide ((nI s) = (nI u1))) = false := decide_eq_false (cm_ne.mp h1)
    exact absurd (Eq.trans (Eq.symm (hsu)) h1) (by decide)
  · have h1 : (decide ((nI s) = (nI u1))) = true := decide_eq_true (cn_ne.mp h1)
    refine z_rcs hc hH 1 (pc' := 21) (lv' := [(0, .ref 0), (1, .int (nI s)), (2, .int (nI l))]) (st' := [.int (nI l)]) (μ' := μ) (by rfl) ?_
    refine zq_call hc (z_cx_ok hH (by rfl)) (hsr d' (by omega)) (by decide +kernel) (fun r9 μ9 hq => ?_)
    obtain ⟨hμ9, rfl⟩ := hq
    rw [hμ9]
    clear hμ9 μ9
    show Z 0 24 [(0, .ref 0), (1, .int (nI s)), (2, .int (nI l))] [.int 1] μ
    refine z_rcs hc hH 2 (pc' := 30) (lv' := [(0, .ref 0), (1, .int (nI s)), (2, .int (nI l))]) (st' := [.ref 0]) (μ' := μ) (by rfl) ?_
    refine zq_gfi hc hH (by rfl) (ci := 5) (f := 15) (by rfl) (by decide +kernel) (by rfl) ?_
    rw [hc15]
    refine z_rcs hc hH 1 (pc' := 34) (lv' := [(0, .ref 0), (1, .int (nI s)), (2, .int (nI l))]) (st' := [.int (nI l), .int (nI c)]) (μ' := μ) (by rfl) ?_
    refine zq_ic hc hH (by rfl) (tg := 47) (by rfl) (fun h2 => ?_) (fun h2 => ?_)
    · have h2 : (decide ((nI c) < (nI l))) = true := decide_eq_true (cm_lt.mp h2)
      exact absurd (Eq.trans (Eq.symm (hl1)) h2) (by decide)
    · have h2 : (decide ((nI c) < (nI l))) = false := decide_eq_false (cn_lt.mp h2)
      refine z_rcs hc hH 1 (pc' := 38) (lv' := [(0, .ref 0), (1, .int (nI s)), (2, .int (nI l))]) (st' := [.ref 0]) (μ' := μ) (by rfl) ?_
      refine zq_gfi hc hH (by rfl) (ci := 5) (f := 15) (by rfl) (by decide +kernel) (by rfl) ?_
      rw [hc15]
      refine z_rcs hc hH 3 (pc' := 44) (lv' := [(0, .ref 0), (1, .int (nI s)), (2, .int (nI l))]) (st' := [.int ((nI l) + 2), .int (nI c)]) (μ' := μ) (by rfl) ?_
      rw [show nI l + 2 = nI (l + 2) from by rw [show (2 : Int32) = nI 2 from rfl, nI_add]]
      refine zq_ic hc hH (by rfl) (tg := 49) (by rfl) (fun h3 => ?_) (fun h3 => ?_)
      · have h3 : (decide ((nI c) ≤ (nI (l + 2)))) = true := decide_eq_true (cm_le.mp h3)
        exact absurd (Eq.trans (Eq.symm (hl2)) h3) (by decide)
      · have h3 : (decide ((nI c) ≤ (nI (l + 2)))) = false := decide_eq_false (cn_le.mp h3)
        refine z_rcs hc hH 1 (pc' := 48) (lv' := [(0, .ref 0), (1, .int (nI s)), (2, .int (nI l))]) (st' := [.int 0]) (μ' := μ) (by rfl) ?_
        exact hr 0 48 _ _ _ (some (.int 0)) (by decide +kernel) (z_rx_ok hH (by rfl)) (⟨rfl, rfl⟩)
theorem gx_runA0 (d : Nat) (hd : 4 ≤ d) (μ : zM) (s l : Nat) (hs4 : s < 4) (hl : l + 2 ≤ 33) (hc15 : μ.1 0 15 = nI l) (t u1 : Nat) (ht4 : t < 4) (ht : μ.1 0 8 = nI t) (hu1 : (t + 1) % 4 = u1) (hu14 : u1 < 4) (hmc : ∀ d, 3 ≤ d → z_C d mi_X6_mayClaimSet [.ref 0, .int (nI s)] μ (zR μ (.int 1))) (hsu : decide (nI s = nI u1) = true) (hsr : ∀ d, 1 ≤ d → z_C d mi_X6_startsRun [.int (nI l)] μ (zR μ (.int 1))) (hz1 : decide (μ.1 (20 + 8 * s) (l + 1) = 0) = true) : z_C d mi_X6_run [.ref 0, .int (nI s), .int (nI l)] μ (fun r μ' => r = some (.int 0) ∧ μ' = μ) := by
  refine z_C_in (by decide) (by omega) (fun d' Z ed hc hr => ?_)
  have hH : zH mi_X6_run zt_X6_run 79 6 6 := hh_X6_run
  refine z_rcs hc hH 2 (pc' := 2) (lv' := [(0, .ref 0), (1, .int (nI s)), (2, .int (nI l))]) (st' := [.int (nI s), .ref 0]) (μ' := μ) (by rfl) ?_
  refine zq_call hc (z_cx_ok hH (by rfl)) (hmc d' (by omega)) (by decide +kernel) (fun r9 μ9 hq => ?_)
  obtain ⟨hμ9, rfl⟩ := hq
  rw [hμ9]
  clear hμ9 μ9
  show Z 0 5 [(0, .ref 0), (1, .int (nI s)), (2, .int (nI l))] [.int 1] μ
  refine z_rcs hc hH 3 (pc' := 10) (lv' := [(0, .ref 0), (1, .int (nI s)), (2, .int (nI l))]) (st' := [.ref 0, .int (nI s)]) (μ' := μ) (by rfl) ?_
  refine zq_gfi hc hH (by rfl) (ci := 5) (f := 8) (by rfl) (by decide +kernel) (by rfl) ?_
  rw [ht]
  refine z_rcs hc hH 2 (pc' := 15) (lv' := [(0, .ref 0), (1, .int (nI s)), (2, .int (nI l))]) (st' := [.int ((nI t) + 1), .int (nI s)]) (μ' := μ) (by rfl) ?_
  rw [nI_s1]
  refine z_rcs hc hH 2 (pc' := 17) (lv' := [(0, .ref 0), (1, .int (nI s)), (2, .int (nI l))]) (st' := [.int ((nI (t + 1)) &&& 3), .int (nI s)]) (μ' := μ) (by rfl) ?_
  rw [show nI (t + 1) &&& 3 = nI u1 from by rw [and3 (by omega), hu1]]
  refine zq_ic hc hH (by rfl) (tg := 27) (by rfl) (fun h1 => ?_) (fun h1 => ?_)
  · have h1 : (decide ((nI s) = (nI u1))) = false := decide_eq_false (cm_ne.mp h1)
    exact absurd (Eq.trans (Eq.symm (hsu)) h1) (by decide)
  · have h1 : (decide ((nI s) = (nI u1))) = true := decide_eq_true (cn_ne.mp h1)
    refine z_rcs hc hH 1 (pc' := 21) (lv' := [(0, .ref 0), (1, .int (nI s)), (2, .int (nI l))]) (st' := [.int (nI l)]) (μ' := μ) (by rfl) ?_
    refine zq_call hc (z_cx_ok hH (by rfl)) (hsr d' (by omega)) (by decide +kernel) (fun r9 μ9 hq => ?_)
    obtain ⟨hμ9, rfl⟩ := hq
    rw [hμ9]
    clear hμ9 μ9
    show Z 0 24 [(0, .ref 0), (1, .int (nI s)), (2, .int (nI l))] [.int 1] μ
    refine z_rcs hc hH 2 (pc' := 30) (lv' := [(0, .ref 0), (1, .int (nI s)), (2, .int (nI l))]) (st' := [.ref 0]) (μ' := μ) (by rfl) ?_
    refine zq_gfi hc hH (by rfl) (ci := 5) (f := 15) (by rfl) (by decide +kernel) (by rfl) ?_
    rw [hc15]
    refine z_rcs hc hH 1 (pc' := 34) (lv' := [(0, .ref 0), (1, .int (nI s)), (2, .int (nI l))]) (st' := [.int (nI l), .int (nI l)]) (μ' := μ) (by rfl) ?_
    refine zq_ic hc hH (by rfl) (tg := 47) (by rfl) (fun h2 => ?_) (fun h2 => ?_)
    · have h2 : (decide ((nI l) < (nI l))) = true := decide_eq_true (cm_lt.mp h2)
      exact absurd (Eq.trans (Eq.symm (kn_nlg (by omega) (by omega) (by omega))) h2) (by decide)
    · have h2 : (decide ((nI l) < (nI l))) = false := decide_eq_false (cn_lt.mp h2)
      refine z_rcs hc hH 1 (pc' := 38) (lv' := [(0, .ref 0), (1, .int (nI s)), (2, .int (nI l))]) (st' := [.ref 0]) (μ' := μ) (by rfl) ?_
      refine zq_gfi hc hH (by rfl) (ci := 5) (f := 15) (by rfl) (by decide +kernel) (by rfl) ?_
      rw [hc15]
      refine z_rcs hc hH 3 (pc' := 44) (lv' := [(0, .ref 0), (1, .int (nI s)), (2, .int (nI l))]) (st' := [.int ((nI l) + 2), .int (nI l)]) (μ' := μ) (by rfl) ?_
      rw [show nI l + 2 = nI (l + 2) from by rw [show (2 : Int32) = nI 2 from rfl, nI_add]]
      refine zq_ic hc hH (by rfl) (tg := 49) (by rfl) (fun h3 => ?_) (fun h3 => ?_)
      · have h3 : (decide ((nI l) ≤ (nI (l + 2)))) = true := decide_eq_true (cm_le.mp h3)
        refine z_rcs hc hH 2 (pc' := 51) (lv' := [(0, .ref 0), (1, .int (nI s)), (2, .int (nI l))]) (st' := [.int (nI s), .ref 0]) (μ' := μ) (by rfl) ?_
        refine zq_call hc (z_cx_ok hH (by rfl)) (gc_at4 d' (by omega) μ s hs4) (by decide +kernel) (fun r9 μ9 hq => ?_)
        obtain ⟨hμ9, rfl⟩ := hq
        rw [hμ9]
        clear hμ9 μ9
        show Z 0 54 [(0, .ref 0), (1, .int (nI s)), (2, .int (nI l))] [.ref (18 + 8 * s)] μ
        refine zq_gfr hc hH (by rfl) (ci := 1) (f := 0) (q := 19 + 8 * s) (by rfl) (sj (P := fun i => okf 79 1 0 (18 + 8 * i)) hs4 (by decide +kernel)) (by rfl) (sj (P := fun i => Nat.beq (z_gr (18 + 8 * i) 0) (19 + 8 * i)) hs4 (by decide +kernel)) ?_
        refine zq_gfr hc hH (by rfl) (ci := 2) (f := 0) (q := 20 + 8 * s) (by rfl) (sj (P := fun i => okf 79 2 0 (19 + 8 * i)) hs4 (by decide +kernel)) (by rfl) (sj (P := fun i => Nat.beq (z_gr (19 + 8 * i) 0) (20 + 8 * i)) hs4 (by decide +kernel)) ?_
        refine z_rcs hc hH 7 (pc' := 69) (lv' := [(4, .int (nI l)), (3, .ref (20 + 8 * s)), (0, .ref 0), (1, .int (nI s)), (2, .int (nI l))]) (st' := [.int ((nI l) + 2), .int (nI l)]) (μ' := μ) (by rfl) ?_
        rw [show nI l + 2 = nI (l + 2) from by rw [show (2 : Int32) = nI 2 from rfl, nI_add]]
        refine zq_ic hc hH (by rfl) (tg := 96) (by rfl) (fun h4 => ?_) (fun h4 => ?_)
        · have h4 : (decide ((nI (l + 2)) < (nI l))) = true := decide_eq_true (cm_gt.mp h4)
          exact absurd (Eq.trans (Eq.symm (kn_nlg (by omega) (by omega) (by omega))) h4) (by decide)
        · have h4 : (decide ((nI (l + 2)) < (nI l))) = false := decide_eq_false (cn_gt.mp h4)
          refine z_rcs hc hH 2 (pc' := 75) (lv' := [(4, .int (nI l)), (3, .ref (20 + 8 * s)), (0, .ref 0), (1, .int (nI s)), (2, .int (nI l))]) (st' := [.ref 0, .int (nI l)]) (μ' := μ) (by rfl) ?_
          refine zq_gfi hc hH (by rfl) (ci := 5) (f := 15) (by rfl) (by decide +kernel) (by rfl) ?_
          rw [hc15]
          refine zq_ic hc hH (by rfl) (tg := 90) (by rfl) (fun h5 => ?_) (fun h5 => ?_)
          · have h5 : (decide ((nI l) = (nI l))) = true := decide_eq_true (cm_eq9.mp h5)
            refine z_rcs hc hH 3 (pc' := 66) (lv' := [(4, .int ((nI l) + 1)), (3, .ref (20 + 8 * s)), (0, .ref 0), (1, .int (nI s)), (2, .int (nI l))]) (st' := [.int ((nI l) + 1)]) (μ' := μ) (by rfl) ?_
            rw [show nI l + 1 = nI (l + 1) from by rw [show (1 : Int32) = nI 1 from rfl, nI_add]]
            refine z_rcs hc hH 3 (pc' := 69) (lv' := [(4, .int (nI (l + 1))), (3, .ref (20 + 8 * s)), (0, .ref 0), (1, .int (nI s)), (2, .int (nI l))]) (st' := [.int ((nI l) + 2), .int (nI (l + 1))]) (μ' := μ) (by rfl) ?_
            rw [show nI l + 2 = nI (l + 2) from by rw [show (2 : Int32) = nI 2 from rfl, nI_add]]
            refine zq_ic hc hH (by rfl) (tg := 96) (by rfl) (fun h6 => ?_) (fun h6 => ?_)
            · have h6 : (decide ((nI (l + 2)) < (nI (l + 1)))) = true := decide_eq_true (cm_gt.mp h6)
              exact absurd (Eq.trans (Eq.symm (kn_nlg (by omega) (by omega) (by omega))) h6) (by decide)
            · have h6 : (decide ((nI (l + 2)) < (nI (l + 1)))) = false := decide_eq_false (cn_gt.mp h6)
              refine z_rcs hc hH 2 (pc' := 75) (lv' := [(4, .int (nI (l + 1))), (3, .ref (20 + 8 * s)), (0, .ref 0), (1, .int (nI s)), (2, .int (nI l))]) (st' := [.ref 0, .int (nI (l + 1))]) (μ' := μ) (by rfl) ?_
              refine zq_gfi hc hH (by rfl) (ci := 5) (f := 15) (by rfl) (by decide +kernel) (by rfl) ?_
              rw [hc15]
              refine zq_ic hc hH (by rfl) (tg := 90) (by rfl) (fun h7 => ?_) (fun h7 => ?_)
              · have h7 : (decide ((nI (l + 1)) = (nI l))) = true := decide_eq_true (cm_eq9.mp h7)
                exact absurd (Eq.trans (Eq.symm (kn_ne (by omega) (by omega) (by omega))) h7) (by decide)
              · have h7 : (decide ((nI (l + 1)) = (nI l))) = false := decide_eq_false (cn_eq.mp h7)
                refine z_rcs hc hH 2 (pc' := 84) (lv' := [(4, .int (nI (l + 1))), (3, .ref (20 + 8 * s)), (0, .ref 0), (1, .int (nI s)), (2, .int (nI l))]) (st' := [.int (nI (l + 1)), .ref (20 + 8 * s)]) (μ' := μ) (by rfl) ?_
                refine zq_iald hc hH (by rfl) 34 (oka_i (sj (P := fun i => oka 79 1 34 (20 + 8 * i)) hs4 (by decide +kernel))) (vp_in_nI (by omega) (by decide)) ?_
                rw [nI_clamp (by omega)]
                refine zq_if hc hH (by rfl) (tg := 90) (by rfl) (fun h8 => ?_) (fun h8 => ?_)
                · have h8 : (decide ((μ.1 (20 + 8 * s) (l + 1)) = 0)) = false := decide_eq_false (cm_ne.mp h8)
                  exact absurd (Eq.trans (Eq.symm (hz1)) h8) (by decide)
                · have h8 : (decide ((μ.1 (20 + 8 * s) (l + 1)) = 0)) = true := decide_eq_true (cn_ne.mp h8)
                  refine z_rcs hc hH 1 (pc' := 89) (lv' := [(4, .int (nI (l + 1))), (3, .ref (20 + 8 * s)), (0, .ref 0), (1, .int (nI s)), (2, .int (nI l))]) (st' := [.int 0]) (μ' := μ) (by rfl) ?_
                  exact hr 0 89 _ _ _ (some (.int 0)) (by decide +kernel) (z_rx_ok hH (by rfl)) (⟨rfl, rfl⟩)
          · have h5 : (decide ((nI l) = (nI l))) = false := decide_eq_false (cn_eq.mp h5)
            exact absurd (Eq.trans (Eq.symm (kn_eq rfl)) h5) (by decide)
      · have h3 : (decide ((nI l) ≤ (nI (l + 2)))) = false := decide_eq_false (cn_le.mp h3)
        exact absurd (Eq.trans (Eq.symm (kn_nle (by omega) (by omega) (by omega))) h3) (by decide)
theorem gx_runB0 (d : Nat) (hd : 4 ≤ d) (μ : zM) (s l : Nat) (hs4 : s < 4) (hl : l + 2 ≤ 33) (hc15 : μ.1 0 15 = nI l) (t u1 : Nat) (ht4 : t < 4) (ht : μ.1 0 8 = nI t) (hu1 : (t + 1) % 4 = u1) (hu14 : u1 < 4) (hmc : ∀ d, 3 ≤ d → z_C d mi_X6_mayClaimSet [.ref 0, .int (nI s)] μ (zR μ (.int 1))) (hsu : decide (nI s = nI u1) = true) (hsr : ∀ d, 1 ≤ d → z_C d mi_X6_startsRun [.int (nI l)] μ (zR μ (.int 1))) (hz1 : decide (μ.1 (20 + 8 * s) (l + 1) = 0) = false) (hz2 : decide (μ.1 (20 + 8 * s) (l + 2) = 0) = true) : z_C d mi_X6_run [.ref 0, .int (nI s), .int (nI l)] μ (fun r μ' => r = some (.int 0) ∧ μ' = μ) := by
  refine z_C_in (by decide) (by omega) (fun d' Z ed hc hr => ?_)
  have hH : zH mi_X6_run zt_X6_run 79 6 6 := hh_X6_run
  refine z_rcs hc hH 2 (pc' := 2) (lv' := [(0, .ref 0), (1, .int (nI s)), (2, .int (nI l))]) (st' := [.int (nI s), .ref 0]) (μ' := μ) (by rfl) ?_
  refine zq_call hc (z_cx_ok hH (by rfl)) (hmc d' (by omega)) (by decide +kernel) (fun r9 μ9 hq => ?_)
  obtain ⟨hμ9, rfl⟩ := hq
  rw [hμ9]
  clear hμ9 μ9
  show Z 0 5 [(0, .ref 0), (1, .int (nI s)), (2, .int (nI l))] [.int 1] μ
  refine z_rcs hc hH 3 (pc' := 10) (lv' := [(0, .ref 0), (1, .int (nI s)), (2, .int (nI l))]) (st' := [.ref 0, .int (nI s)]) (μ' := μ) (by rfl) ?_
  refine zq_gfi hc hH (by rfl) (ci := 5) (f := 8) (by rfl) (by decide +kernel) (by rfl) ?_
  rw [ht]
  refine z_rcs hc hH 2 (pc' := 15) (lv' := [(0, .ref 0), (1, .int (nI s)), (2, .int (nI l))]) (st' := [.int ((nI t) + 1), .int (nI s)]) (μ' := μ) (by rfl) ?_
  rw [nI_s1]
  refine z_rcs hc hH 2 (pc' := 17) (lv' := [(0, .ref 0), (1, .int (nI s)), (2, .int (nI l))]) (st' := [.int ((nI (t + 1)) &&& 3), .int (nI s)]) (μ' := μ) (by rfl) ?_
  rw [show nI (t + 1) &&& 3 = nI u1 from by rw [and3 (by omega), hu1]]
  refine zq_ic hc hH (by rfl) (tg := 27) (by rfl) (fun h1 => ?_) (fun h1 => ?_)
  · have h1 : (decide ((nI s) = (nI u1))) = false := decide_eq_false (cm_ne.mp h1)
    exact absurd (Eq.trans (Eq.symm (hsu)) h1) (by decide)
  · have h1 : (decide ((nI s) = (nI u1))) = true := decide_eq_true (cn_ne.mp h1)
    refine z_rcs hc hH 1 (pc' := 21) (lv' := [(0, .ref 0), (1, .int (nI s)), (2, .int (nI l))]) (st' := [.int (nI l)]) (μ' := μ) (by rfl) ?_
    refine zq_call hc (z_cx_ok hH (by rfl)) (hsr d' (by omega)) (by decide +kernel) (fun r9 μ9 hq => ?_)
    obtain ⟨hμ9, rfl⟩ := hq
    rw [hμ9]
    clear hμ9 μ9
    show Z 0 24 [(0, .ref 0), (1, .int (nI s)), (2, .int (nI l))] [.int 1] μ
    refine z_rcs hc hH 2 (pc' := 30) (lv' := [(0, .ref 0), (1, .int (nI s)), (2, .int (nI l))]) (st' := [.ref 0]) (μ' := μ) (by rfl) ?_
    refine zq_gfi hc hH (by rfl) (ci := 5) (f := 15) (by rfl) (by decide +kernel) (by rfl) ?_
    rw [hc15]
    refine z_rcs hc hH 1 (pc' := 34) (lv' := [(0, .ref 0), (1, .int (nI s)), (2, .int (nI l))]) (st' := [.int (nI l), .int (nI l)]) (μ' := μ) (by rfl) ?_
    refine zq_ic hc hH (by rfl) (tg := 47) (by rfl) (fun h2 => ?_) (fun h2 => ?_)
    · have h2 : (decide ((nI l) < (nI l))) = true := decide_eq_true (cm_lt.mp h2)
      exact absurd (Eq.trans (Eq.symm (kn_nlg (by omega) (by omega) (by omega))) h2) (by decide)
    · have h2 : (decide ((nI l) < (nI l))) = false := decide_eq_false (cn_lt.mp h2)
      refine z_rcs hc hH 1 (pc' := 38) (lv' := [(0, .ref 0), (1, .int (nI s)), (2, .int (nI l))]) (st' := [.ref 0]) (μ' := μ) (by rfl) ?_
      refine zq_gfi hc hH (by rfl) (ci := 5) (f := 15) (by rfl) (by decide +kernel) (by rfl) ?_
      rw [hc15]
      refine z_rcs hc hH 3 (pc' := 44) (lv' := [(0, .ref 0), (1, .int (nI s)), (2, .int (nI l))]) (st' := [.int ((nI l) + 2), .int (nI l)]) (μ' := μ) (by rfl) ?_
      rw [show nI l + 2 = nI (l + 2) from by rw [show (2 : Int32) = nI 2 from rfl, nI_add]]
      refine zq_ic hc hH (by rfl) (tg := 49) (by rfl) (fun h3 => ?_) (fun h3 => ?_)
      · have h3 : (decide ((nI l) ≤ (nI (l + 2)))) = true := decide_eq_true (cm_le.mp h3)
        refine z_rcs hc hH 2 (pc' := 51) (lv' := [(0, .ref 0), (1, .int (nI s)), (2, .int (nI l))]) (st' := [.int (nI s), .ref 0]) (μ' := μ) (by rfl) ?_
        refine zq_call hc (z_cx_ok hH (by rfl)) (gc_at4 d' (by omega) μ s hs4) (by decide +kernel) (fun r9 μ9 hq => ?_)
        obtain ⟨hμ9, rfl⟩ := hq
        rw [hμ9]
        clear hμ9 μ9
        show Z 0 54 [(0, .ref 0), (1, .int (nI s)), (2, .int (nI l))] [.ref (18 + 8 * s)] μ
        refine zq_gfr hc hH (by rfl) (ci := 1) (f := 0) (q := 19 + 8 * s) (by rfl) (sj (P := fun i => okf 79 1 0 (18 + 8 * i)) hs4 (by decide +kernel)) (by rfl) (sj (P := fun i => Nat.beq (z_gr (18 + 8 * i) 0) (19 + 8 * i)) hs4 (by decide +kernel)) ?_
        refine zq_gfr hc hH (by rfl) (ci := 2) (f := 0) (q := 20 + 8 * s) (by rfl) (sj (P := fun i => okf 79 2 0 (19 + 8 * i)) hs4 (by decide +kernel)) (by rfl) (sj (P := fun i => Nat.beq (z_gr (19 + 8 * i) 0) (20 + 8 * i)) hs4 (by decide +kernel)) ?_
        refine z_rcs hc hH 7 (pc' := 69) (lv' := [(4, .int (nI l)), (3, .ref (20 + 8 * s)), (0, .ref 0), (1, .int (nI s)), (2, .int (nI l))]) (st' := [.int ((nI l) + 2), .int (nI l)]) (μ' := μ) (by rfl) ?_
        rw [show nI l + 2 = nI (l + 2) from by rw [show (2 : Int32) = nI 2 from rfl, nI_add]]
        refine zq_ic hc hH (by rfl) (tg := 96) (by rfl) (fun h4 => ?_) (fun h4 => ?_)
        · have h4 : (decide ((nI (l + 2)) < (nI l))) = true := decide_eq_true (cm_gt.mp h4)
          exact absurd (Eq.trans (Eq.symm (kn_nlg (by omega) (by omega) (by omega))) h4) (by decide)
        · have h4 : (decide ((nI (l + 2)) < (nI l))) = false := decide_eq_false (cn_gt.mp h4)
          refine z_rcs hc hH 2 (pc' := 75) (lv' := [(4, .int (nI l)), (3, .ref (20 + 8 * s)), (0, .ref 0), (1, .int (nI s)), (2, .int (nI l))]) (st' := [.ref 0, .int (nI l)]) (μ' := μ) (by rfl) ?_
          refine zq_gfi hc hH (by rfl) (ci := 5) (f := 15) (by rfl) (by decide +kernel) (by rfl) ?_
          rw [hc15]
          refine zq_ic hc hH (by rfl) (tg := 90) (by rfl) (fun h5 => ?_) (fun h5 => ?_)
          · have h5 : (decide ((nI l) = (nI l))) = true := decide_eq_true (cm_eq9.mp h5)
            refine z_rcs hc hH 3 (pc' := 66) (lv' := [(4, .int ((nI l) + 1)), (3, .ref (20 + 8 * s)), (0, .ref 0), (1, .int (nI s)), (2, .int (nI l))]) (st' := [.int ((nI l) + 1)]) (μ' := μ) (by rfl) ?_
            rw [show nI l + 1 = nI (l + 1) from by rw [show (1 : Int32) = nI 1 from rfl, nI_add]]
            refine z_rcs hc hH 3 (pc' := 69) (lv' := [(4, .int (nI (l + 1))), (3, .ref (20 + 8 * s)), (0, .ref 0), (1, .int (nI s)), (2, .int (nI l))]) (st' := [.int ((nI l) + 2), .int (nI (l + 1))]) (μ' := μ) (by rfl) ?_
            rw [show nI l + 2 = nI (l + 2) from by rw [show (2 : Int32) = nI 2 from rfl, nI_add]]
            refine zq_ic hc hH (by rfl) (tg := 96) (by rfl) (fun h6 => ?_) (fun h6 => ?_)
            · have h6 : (decide ((nI (l + 2)) < (nI (l + 1)))) = true := decide_eq_true (cm_gt.mp h6)
              exact absurd (Eq.trans (Eq.symm (kn_nlg (by omega) (by omega) (by omega))) h6) (by decide)
            · have h6 : (decide ((nI (l + 2)) < (nI (l + 1)))) = false := decide_eq_false (cn_gt.mp h6)
              refine z_rcs hc hH 2 (pc' := 75) (lv' := [(4, .int (nI (l + 1))), (3, .ref (20 + 8 * s)), (0, .ref 0), (1, .int (nI s)), (2, .int (nI l))]) (st' := [.ref 0, .int (nI (l + 1))]) (μ' := μ) (by rfl) ?_
              refine zq_gfi hc hH (by rfl) (ci := 5) (f := 15) (by rfl) (by decide +kernel) (by rfl) ?_
              rw [hc15]
              refine zq_ic hc hH (by rfl) (tg := 90) (by rfl) (fun h7 => ?_) (fun h7 => ?_)
              · have h7 : (decide ((nI (l + 1)) = (nI l))) = true := decide_eq_true (cm_eq9.mp h7)
                exact absurd (Eq.trans (Eq.symm (kn_ne (by omega) (by omega) (by omega))) h7) (by decide)
              · have h7 : (decide ((nI (l + 1)) = (nI l))) = false := decide_eq_false (cn_eq.mp h7)
                refine z_rcs hc hH 2 (pc' := 84) (lv' := [(4, .int (nI (l + 1))), (3, .ref (20 + 8 * s)), (0, .ref 0), (1, .int (nI s)), (2, .int (nI l))]) (st' := [.int (nI (l + 1)), .ref (20 + 8 * s)]) (μ' := μ) (by rfl) ?_
                refine zq_iald hc hH (by rfl) 34 (oka_i (sj (P := fun i => oka 79 1 34 (20 + 8 * i)) hs4 (by decide +kernel))) (vp_in_nI (by omega) (by decide)) ?_
                rw [nI_clamp (by omega)]
                refine zq_if hc hH (by rfl) (tg := 90) (by rfl) (fun h8 => ?_) (fun h8 => ?_)
                · have h8 : (decide ((μ.1 (20 + 8 * s) (l + 1)) = 0)) = false := decide_eq_false (cm_ne.mp h8)
                  refine z_rcs hc hH 3 (pc' := 66) (lv' := [(4, .int ((nI (l + 1)) + 1)), (3, .ref (20 + 8 * s)), (0, .ref 0), (1, .int (nI s)), (2, .int (nI l))]) (st' := [.int ((nI (l + 1)) + 1)]) (μ' := μ) (by rfl) ?_
                  rw [show nI (l + 1) + 1 = nI (l + 2) from nI_s1 _]
                  refine z_rcs hc hH 3 (pc' := 69) (lv' := [(4, .int (nI (l + 2))), (3, .ref (20 + 8 * s)), (0, .ref 0), (1, .int (nI s)), (2, .int (nI l))]) (st' := [.int ((nI l) + 2), .int (nI (l + 2))]) (μ' := μ) (by rfl) ?_
                  rw [show nI l + 2 = nI (l + 2) from by rw [show (2 : Int32) = nI 2 from rfl, nI_add]]
                  refine zq_ic hc hH (by rfl) (tg := 96) (by rfl) (fun h9 => ?_) (fun h9 => ?_)
                  · have h9 : (decide ((nI (l + 2)) < (nI (l + 2)))) = true := decide_eq_true (cm_gt.mp h9)
                    exact absurd (Eq.trans (Eq.symm (kn_nlg (by omega) (by omega) (by omega))) h9) (by decide)
                  · have h9 : (decide ((nI (l + 2)) < (nI (l + 2)))) = false := decide_eq_false (cn_gt.mp h9)
                    refine z_rcs hc hH 2 (pc' := 75) (lv' := [(4, .int (nI (l + 2))), (3, .ref (20 + 8 * s)), (0, .ref 0), (1, .int (nI s)), (2, .int (nI l))]) (st' := [.ref 0, .int (nI (l + 2))]) (μ' := μ) (by rfl) ?_
                    refine zq_gfi hc hH (by rfl) (ci := 5) (f := 15) (by rfl) (by decide +kernel) (by rfl) ?_
                    rw [hc15]
                    refine zq_ic hc hH (by rfl) (tg := 90) (by rfl) (fun h10 => ?_) (fun h10 => ?_)
                    · have h10 : (decide ((nI (l + 2)) = (nI l))) = true := decide_eq_true (cm_eq9.mp h10)
                      exact absurd (Eq.trans (Eq.symm (kn_ne (by omega) (by omega) (by omega))) h10) (by decide)
                    · have h10 : (decide ((nI (l + 2)) = (nI l))) = false := decide_eq_false (cn_eq.mp h10)
                      refine z_rcs hc hH 2 (pc' := 84) (lv' := [(4, .int (nI (l + 2))), (3, .ref (20 + 8 * s)), (0, .ref 0), (1, .int (nI s)), (2, .int (nI l))]) (st' := [.int (nI (l + 2)), .ref (20 + 8 * s)]) (μ' := μ) (by rfl) ?_
                      refine zq_iald hc hH (by rfl) 34 (oka_i (sj (P := fun i => oka 79 1 34 (20 + 8 * i)) hs4 (by decide +kernel))) (vp_in_nI (by omega) (by decide)) ?_
                      rw [nI_clamp (by omega)]
                      refine zq_if hc hH (by rfl) (tg := 90) (by rfl) (fun h11 => ?_) (fun h11 => ?_)
                      · have h11 : (decide ((μ.1 (20 + 8 * s) (l + 2)) = 0)) = false := decide_eq_false (cm_ne.mp h11)
                        exact absurd (Eq.trans (Eq.symm (hz2)) h11) (by decide)
                      · have h11 : (decide ((μ.1 (20 + 8 * s) (l + 2)) = 0)) = true := decide_eq_true (cn_ne.mp h11)
                        refine z_rcs hc hH 1 (pc' := 89) (lv' := [(4, .int (nI (l + 2))), (3, .ref (20 + 8 * s)), (0, .ref 0), (1, .int (nI s)), (2, .int (nI l))]) (st' := [.int 0]) (μ' := μ) (by rfl) ?_
                        exact hr 0 89 _ _ _ (some (.int 0)) (by decide +kernel) (z_rx_ok hH (by rfl)) (⟨rfl, rfl⟩)
                · have h8 : (decide ((μ.1 (20 + 8 * s) (l + 1)) = 0)) = true := decide_eq_true (cn_ne.mp h8)
                  exact absurd (Eq.trans (Eq.symm (hz1)) h8) (by decide)
          · have h5 : (decide ((nI l) = (nI l))) = false := decide_eq_false (cn_eq.mp h5)
            exact absurd (Eq.trans (Eq.symm (kn_eq rfl)) h5) (by decide)
      · have h3 : (decide ((nI l) ≤ (nI (l + 2)))) = false := decide_eq_false (cn_le.mp h3)
        exact absurd (Eq.trans (Eq.symm (kn_nle (by omega) (by omega) (by omega))) h3) (by decide)
theorem gx_runA1 (d : Nat) (hd : 4 ≤ d) (μ : zM) (s l : Nat) (hs4 : s < 4) (hl : l + 2 ≤ 33) (hc15 : μ.1 0 15 = nI (l + 1)) (t u1 : Nat) (ht4 : t < 4) (ht : μ.1 0 8 = nI t) (hu1 : (t + 1) % 4 = u1) (hu14 : u1 < 4) (hmc : ∀ d, 3 ≤ d → z_C d mi_X6_mayClaimSet [.ref 0, .int (nI s)] μ (zR μ (.int 1))) (hsu : decide (nI s = nI u1) = true) (hsr : ∀ d, 1 ≤ d → z_C d mi_X6_startsRun [.int (nI l)] μ (zR μ (.int 1))) (hz1 : decide (μ.1 (20 + 8 * s) l = 0) = true) : z_C d mi_X6_run [.ref 0, .int (nI s), .int (nI l)] μ (fun r μ' => r = some (.int 0) ∧ μ' = μ) := by
  refine z_C_in (by decide) (by omega) (fun d' Z ed hc hr => ?_)
  have hH : zH mi_X6_run zt_X6_run 79 6 6 := hh_X6_run
  refine z_rcs hc hH 2 (pc' := 2) (lv' := [(0, .ref 0), (1, .int (nI s)), (2, .int (nI l))]) (st' := [.int (nI s), .ref 0]) (μ' := μ) (by rfl) ?_
  refine zq_call hc (z_cx_ok hH (by rfl)) (hmc d' (by omega)) (by decide +kernel) (fun r9 μ9 hq => ?_)
  obtain ⟨hμ9, rfl⟩ := hq
  rw [hμ9]
  clear hμ9 μ9
  show Z 0 5 [(0, .ref 0), (1, .int (nI s)), (2, .int (nI l))] [.int 1] μ
  refine z_rcs hc hH 3 (pc' := 10) (lv' := [(0, .ref 0), (1, .int (nI s)), (2, .int (nI l))]) (st' := [.ref 0, .int (nI s)]) (μ' := μ) (by rfl) ?_
  refine zq_gfi hc hH (by rfl) (ci := 5) (f := 8) (by rfl) (by decide +kernel) (by rfl) ?_
  rw [ht]
  refine z_rcs hc hH 2 (pc' := 15) (lv' := [(0, .ref 0), (1, .int (nI s)), (2, .int (nI l))]) (st' := [.int ((nI t) + 1), .int (nI s)]) (μ' := μ) (by rfl) ?_
  rw [nI_s1]
  refine z_rcs hc hH 2 (pc' := 17) (lv' := [(0, .ref 0), (1, .int (nI s)), (2, .int (nI l))]) (st' := [.int ((nI (t + 1)) &&& 3), .int (nI s)]) (μ' := μ) (by rfl) ?_
  rw [show nI (t + 1) &&& 3 = nI u1 from by rw [and3 (by omega), hu1]]
  refine zq_ic hc hH (by rfl) (tg := 27) (by rfl) (fun h1 => ?_) (fun h1 => ?_)
  · have h1 : (decide ((nI s) = (nI u1))) = false := decide_eq_false (cm_ne.mp h1)
    exact absurd (Eq.trans (Eq.symm (hsu)) h1) (by decide)
  · have h1 : (decide ((nI s) = (nI u1))) = true := decide_eq_true (cn_ne.mp h1)
    refine z_rcs hc hH 1 (pc' := 21) (lv' := [(0, .ref 0), (1, .int (nI s)), (2, .int (nI l))]) (st' := [.int (nI l)]) (μ' := μ) (by rfl) ?_
    refine zq_call hc (z_cx_ok hH (by rfl)) (hsr d' (by omega)) (by decide +kernel) (fun r9 μ9 hq => ?_)
    obtain ⟨hμ9, rfl⟩ := hq
    rw [hμ9]
    clear hμ9 μ9
    show Z 0 24 [(0, .ref 0), (1, .int (nI s)), (2, .int (nI l))] [.int 1] μ
    refine z_rcs hc hH 2 (pc' := 30) (lv' := [(0, .ref 0), (1, .int (nI s)), (2, .int (nI l))]) (st' := [.ref 0]) (μ' := μ) (by rfl) ?_
    refine zq_gfi hc hH (by rfl) (ci := 5) (f := 15) (by rfl) (by decide +kernel) (by rfl) ?_
    rw [hc15]
    refine z_rcs hc hH 1 (pc' := 34) (lv' := [(0, .ref 0), (1, .int (nI s)), (2, .int (nI l))]) (st' := [.int (nI l), .int (nI (l + 1))]) (μ' := μ) (by rfl) ?_
    refine zq_ic hc hH (by rfl) (tg := 47) (by rfl) (fun h2 => ?_) (fun h2 => ?_)
    · have h2 : (decide ((nI (l + 1)) < (nI l))) = true := decide_eq_true (cm_lt.mp h2)
      exact absurd (Eq.trans (Eq.symm (kn_nlg (by omega) (by omega) (by omega))) h2) (by decide)
    · have h2 : (decide ((nI (l + 1)) < (nI l))) = false := decide_eq_false (cn_lt.mp h2)
      refine z_rcs hc hH 1 (pc' := 38) (lv' := [(0, .ref 0), (1, .int (nI s)), (2, .int (nI l))]) (st' := [.ref 0]) (μ' := μ) (by rfl) ?_
      refine zq_gfi hc hH (by rfl) (ci := 5) (f := 15) (by rfl) (by decide +kernel) (by rfl) ?_
      rw [hc15]
      refine z_rcs hc hH 3 (pc' := 44) (lv' := [(0, .ref 0), (1, .int (nI s)), (2, .int (nI l))]) (st' := [.int ((nI l) + 2), .int (nI (l + 1))]) (μ' := μ) (by rfl) ?_
      rw [show nI l + 2 = nI (l + 2) from by rw [show (2 : Int32) = nI 2 from rfl, nI_add]]
      refine zq_ic hc hH (by rfl) (tg := 49) (by rfl) (fun h3 => ?_) (fun h3 => ?_)
      · have h3 : (decide ((nI (l + 1)) ≤ (nI (l + 2)))) = true := decide_eq_true (cm_le.mp h3)
        refine z_rcs hc hH 2 (pc' := 51) (lv' := [(0, .ref 0), (1, .int (nI s)), (2, .int (nI l))]) (st' := [.int (nI s), .ref 0]) (μ' := μ) (by rfl) ?_
        refine zq_call hc (z_cx_ok hH (by rfl)) (gc_at4 d' (by omega) μ s hs4) (by decide +kernel) (fun r9 μ9 hq => ?_)
        obtain ⟨hμ9, rfl⟩ := hq
        rw [hμ9]
        clear hμ9 μ9
        show Z 0 54 [(0, .ref 0), (1, .int (nI s)), (2, .int (nI l))] [.ref (18 + 8 * s)] μ
        refine zq_gfr hc hH (by rfl) (ci := 1) (f := 0) (q := 19 + 8 * s) (by rfl) (sj (P := fun i => okf 79 1 0 (18 + 8 * i)) hs4 (by decide +kernel)) (by rfl) (sj (P := fun i => Nat.beq (z_gr (18 + 8 * i) 0) (19 + 8 * i)) hs4 (by decide +kernel)) ?_
        refine zq_gfr hc hH (by rfl) (ci := 2) (f := 0) (q := 20 + 8 * s) (by rfl) (sj (P := fun i => okf 79 2 0 (19 + 8 * i)) hs4 (by decide +kernel)) (by rfl) (sj (P := fun i => Nat.beq (z_gr (19 + 8 * i) 0) (20 + 8 * i)) hs4 (by decide +kernel)) ?_
        refine z_rcs hc hH 7 (pc' := 69) (lv' := [(4, .int (nI l)), (3, .ref (20 + 8 * s)), (0, .ref 0), (1, .int (nI s)), (2, .int (nI l))]) (st' := [.int ((nI l) + 2), .int (nI l)]) (μ' := μ) (by rfl) ?_
        rw [show nI l + 2 = nI (l + 2) from by rw [show (2 : Int32) = nI 2 from rfl, nI_add]]
        refine zq_ic hc hH (by rfl) (tg := 96) (by rfl) (fun h4 => ?_) (fun h4 => ?_)
        · have h4 : (decide ((nI (l + 2)) < (nI l))) = true := decide_eq_true (cm_gt.mp h4)
          exact absurd (Eq.trans (Eq.symm (kn_nlg (by omega) (by omega) (by omega))) h4) (by decide)
        · have h4 : (decide ((nI (l + 2)) < (nI l))) = false := decide_eq_false (cn_gt.mp h4)
          refine z_rcs hc hH 2 (pc' := 75) (lv' := [(4, .int (nI l)), (3, .ref (20 + 8 * s)), (0, .ref 0), (1, .int (nI s)), (2, .int (nI l))]) (st' := [.ref 0, .int (nI l)]) (μ' := μ) (by rfl) ?_
          refine zq_gfi hc hH (by rfl) (ci := 5) (f := 15) (by rfl) (by decide +kernel) (by rfl) ?_
          rw [hc15]
          refine zq_ic hc hH (by rfl) (tg := 90) (by rfl) (fun h5 => ?_) (fun h5 => ?_)
          · have h5 : (decide ((nI l) = (nI (l + 1)))) = true := decide_eq_true (cm_eq9.mp h5)
            exact absurd (Eq.trans (Eq.symm (kn_ne (by omega) (by omega) (by omega))) h5) (by decide)
          · have h5 : (decide ((nI l) = (nI (l + 1)))) = false := decide_eq_false (cn_eq.mp h5)
            refine z_rcs hc hH 2 (pc' := 84) (lv' := [(4, .int (nI l)), (3, .ref (20 + 8 * s)), (0, .ref 0), (1, .int (nI s)), (2, .int (nI l))]) (st' := [.int (nI l), .ref (20 + 8 * s)]) (μ' := μ) (by rfl) ?_
            refine zq_iald hc hH (by rfl) 34 (oka_i (sj (P := fun i => oka 79 1 34 (20 + 8 * i)) hs4 (by decide +kernel))) (vp_in_nI (by omega) (by decide)) ?_
            rw [nI_clamp (by omega)]
            refine zq_if hc hH (by rfl) (tg := 90) (by rfl) (fun h6 => ?_) (fun h6 => ?_)
            · have h6 : (decide ((μ.1 (20 + 8 * s) l) = 0)) = false := decide_eq_false (cm_ne.mp h6)
              exact absurd (Eq.trans (Eq.symm (hz1)) h6) (by decide)
            · have h6 : (decide ((μ.1 (20 + 8 * s) l) = 0)) = true := decide_eq_true (cn_ne.mp h6)
              refine z_rcs hc hH 1 (pc' := 89) (lv' := [(4, .int (nI l)), (3, .ref (20 + 8 * s)), (0, .ref 0), (1, .int (nI s)), (2, .int (nI l))]) (st' := [.int 0]) (μ' := μ) (by rfl) ?_
              exact hr 0 89 _ _ _ (some (.int 0)) (by decide +kernel) (z_rx_ok hH (by rfl)) (⟨rfl, rfl⟩)
      · have h3 : (decide ((nI (l + 1)) ≤ (nI (l + 2)))) = false := decide_eq_false (cn_le.mp h3)
        exact absurd (Eq.trans (Eq.symm (kn_nle (by omega) (by omega) (by omega))) h3) (by decide)
theorem gx_runB1 (d : Nat) (hd : 4 ≤ d) (μ : zM) (s l : Nat) (hs4 : s < 4) (hl : l + 2 ≤ 33) (hc15 : μ.1 0 15 = nI (l + 1)) (t u1 : Nat) (ht4 : t < 4) (ht : μ.1 0 8 = nI t) (hu1 : (t + 1) % 4 = u1) (hu14 : u1 < 4) (hmc : ∀ d, 3 ≤ d → z_C d mi_X6_mayClaimSet [.ref 0, .int (nI s)] μ (zR μ (.int 1))) (hsu : decide (nI s = nI u1) = true) (hsr : ∀ d, 1 ≤ d → z_C d mi_X6_startsRun [.int (nI l)] μ (zR μ (.int 1))) (hz1 : decide (μ.1 (20 + 8 * s) l = 0) = false) (hz2 : decide (μ.1 (20 + 8 * s) (l + 2) = 0) = true) : z_C d mi_X6_run [.ref 0, .int (nI s), .int (nI l)] μ (fun r μ' => r = some (.int 0) ∧ μ' = μ) := by
  refine z_C_in (by decide) (by omega) (fun d' Z ed hc hr => ?_)
  have hH : zH mi_X6_run zt_X6_run 79 6 6 := hh_X6_run
  refine z_rcs hc hH 2 (pc' := 2) (lv' := [(0, .ref 0), (1, .int (nI s)), (2, .int (nI l))]) (st' := [.int (nI s), .ref 0]) (μ' := μ) (by rfl) ?_
  refine zq_call hc (z_cx_ok hH (by rfl)) (hmc d' (by omega)) (by decide +kernel) (fun r9 μ9 hq => ?_)
  obtain ⟨hμ9, rfl⟩ := hq
  rw [hμ9]
  clear hμ9 μ9
  show Z 0 5 [(0, .ref 0), (1, .int (nI s)), (2, .int (nI l))] [.int 1] μ
  refine z_rcs hc hH 3 (pc' := 10) (lv' := [(0, .ref 0), (1, .int (nI s)), (2, .int (nI l))]) (st' := [.ref 0, .int (nI s)]) (μ' := μ) (by rfl) ?_
  refine zq_gfi hc hH (by rfl) (ci := 5) (f := 8) (by rfl) (by decide +kernel) (by rfl) ?_
  rw [ht]
  refine z_rcs hc hH 2 (pc' := 15) (lv' := [(0, .ref 0), (1, .int (nI s)), (2, .int (nI l))]) (st' := [.int ((nI t) + 1), .int (nI s)]) (μ' := μ) (by rfl) ?_
  rw [nI_s1]
  refine z_rcs hc hH 2 (pc' := 17) (lv' := [(0, .ref 0), (1, .int (nI s)), (2, .int (nI l))]) (st' := [.int ((nI (t + 1)) &&& 3), .int (nI s)]) (μ' := μ) (by rfl) ?_
  rw [show nI (t + 1) &&& 3 = nI u1 from by rw [and3 (by omega), hu1]]
  refine zq_ic hc hH (by rfl) (tg := 27) (by rfl) (fun h1 => ?_) (fun h1 => ?_)
  · have h1 : (decide ((nI s) = (nI u1))) = false := decide_eq_false (cm_ne.mp h1)
    exact absurd (Eq.trans (Eq.symm (hsu)) h1) (by decide)
  · have h1 : (decide ((nI s) = (nI u1))) = true := decide_eq_true (cn_ne.mp h1)
    refine z_rcs hc hH 1 (pc' := 21) (lv' := [(0, .ref 0), (1, .int (nI s)), (2, .int (nI l))]) (st' := [.int (nI l)]) (μ' := μ) (by rfl) ?_
    refine zq_call hc (z_cx_ok hH (by rfl)) (hsr d' (by omega)) (by decide +kernel) (fun r9 μ9 hq => ?_)
    obtain ⟨hμ9, rfl⟩ := hq
    rw [hμ9]
    clear hμ9 μ9
    show Z 0 24 [(0, .ref 0), (1, .int (nI s)), (2, .int (nI l))] [.int 1] μ
    refine z_rcs hc hH 2 (pc' := 30) (lv' := [(0, .ref 0), (1, .int (nI s)), (2, .int (nI l))]) (st' := [.ref 0]) (μ' := μ) (by rfl) ?_
    refine zq_gfi hc hH (by rfl) (ci := 5) (f := 15) (by rfl) (by decide +kernel) (by rfl) ?_
    rw [hc15]
    refine z_rcs hc hH 1 (pc' := 34) (lv' := [(0, .ref 0), (1, .int (nI s)), (2, .int (nI l))]) (st' := [.int (nI l), .int (nI (l + 1))]) (μ' := μ) (by rfl) ?_
    refine zq_ic hc hH (by rfl) (tg := 47) (by rfl) (fun h2 => ?_) (fun h2 => ?_)
    · have h2 : (decide ((nI (l + 1)) < (nI l))) = true := decide_eq_true (cm_lt.mp h2)
      exact absurd (Eq.trans (Eq.symm (kn_nlg (by omega) (by omega) (by omega))) h2) (by decide)
    · have h2 : (decide ((nI (l + 1)) < (nI l))) = false := decide_eq_false (cn_lt.mp h2)
      refine z_rcs hc hH 1 (pc' := 38) (lv' := [(0, .ref 0), (1, .int (nI s)), (2, .int (nI l))]) (st' := [.ref 0]) (μ' := μ) (by rfl) ?_
      refine zq_gfi hc hH (by rfl) (ci := 5) (f := 15) (by rfl) (by decide +kernel) (by rfl) ?_
      rw [hc15]
      refine z_rcs hc hH 3 (pc' := 44) (lv' := [(0, .ref 0), (1, .int (nI s)), (2, .int (nI l))]) (st' := [.int ((nI l) + 2), .int (nI (l + 1))]) (μ' := μ) (by rfl) ?_
      rw [show nI l + 2 = nI (l + 2) from by rw [show (2 : Int32) = nI 2 from rfl, nI_add]]
      refine zq_ic hc hH (by rfl) (tg := 49) (by rfl) (fun h3 => ?_) (fun h3 => ?_)
      · have h3 : (decide ((nI (l + 1)) ≤ (nI (l + 2)))) = true := decide_eq_true (cm_le.mp h3)
        refine z_rcs hc hH 2 (pc' := 51) (lv' := [(0, .ref 0), (1, .int (nI s)), (2, .int (nI l))]) (st' := [.int (nI s), .ref 0]) (μ' := μ) (by rfl) ?_
        refine zq_call hc (z_cx_ok hH (by rfl)) (gc_at4 d' (by omega) μ s hs4) (by decide +kernel) (fun r9 μ9 hq => ?_)
        obtain ⟨hμ9, rfl⟩ := hq
        rw [hμ9]
        clear hμ9 μ9
        show Z 0 54 [(0, .ref 0), (1, .int (nI s)), (2, .int (nI l))] [.ref (18 + 8 * s)] μ
        refine zq_gfr hc hH (by rfl) (ci := 1) (f := 0) (q := 19 + 8 * s) (by rfl) (sj (P := fun i => okf 79 1 0 (18 + 8 * i)) hs4 (by decide +kernel)) (by rfl) (sj (P := fun i => Nat.beq (z_gr (18 + 8 * i) 0) (19 + 8 * i)) hs4 (by decide +kernel)) ?_
        refine zq_gfr hc hH (by rfl) (ci := 2) (f := 0) (q := 20 + 8 * s) (by rfl) (sj (P := fun i => okf 79 2 0 (19 + 8 * i)) hs4 (by decide +kernel)) (by rfl) (sj (P := fun i => Nat.beq (z_gr (19 + 8 * i) 0) (20 + 8 * i)) hs4 (by decide +kernel)) ?_
        refine z_rcs hc hH 7 (pc' := 69) (lv' := [(4, .int (nI l)), (3, .ref (20 + 8 * s)), (0, .ref 0), (1, .int (nI s)), (2, .int (nI l))]) (st' := [.int ((nI l) + 2), .int (nI l)]) (μ' := μ) (by rfl) ?_
        rw [show nI l + 2 = nI (l + 2) from by rw [show (2 : Int32) = nI 2 from rfl, nI_add]]
        refine zq_ic hc hH (by rfl) (tg := 96) (by rfl) (fun h4 => ?_) (fun h4 => ?_)
        · have h4 : (decide ((nI (l + 2)) < (nI l))) = true := decide_eq_true (cm_gt.mp h4)
          exact absurd (Eq.trans (Eq.symm (kn_nlg (by omega) (by omega) (by omega))) h4) (by decide)
        · have h4 : (decide ((nI (l + 2)) < (nI l))) = false := decide_eq_false (cn_gt.mp h4)
          refine z_rcs hc hH 2 (pc' := 75) (lv' := [(4, .int (nI l)), (3, .ref (20 + 8 * s)), (0, .ref 0), (1, .int (nI s)), (2, .int (nI l))]) (st' := [.ref 0, .int (nI l)]) (μ' := μ) (by rfl) ?_
          refine zq_gfi hc hH (by rfl) (ci := 5) (f := 15) (by rfl) (by decide +kernel) (by rfl) ?_
          rw [hc15]
          refine zq_ic hc hH (by rfl) (tg := 90) (by rfl) (fun h5 => ?_) (fun h5 => ?_)
          · have h5 : (decide ((nI l) = (nI (l + 1)))) = true := decide_eq_true (cm_eq9.mp h5)
            exact absurd (Eq.trans (Eq.symm (kn_ne (by omega) (by omega) (by omega))) h5) (by decide)
          · have h5 : (decide ((nI l) = (nI (l + 1)))) = false := decide_eq_false (cn_eq.mp h5)
            refine z_rcs hc hH 2 (pc' := 84) (lv' := [(4, .int (nI l)), (3, .ref (20 + 8 * s)), (0, .ref 0), (1, .int (nI s)), (2, .int (nI l))]) (st' := [.int (nI l), .ref (20 + 8 * s)]) (μ' := μ) (by rfl) ?_
            refine zq_iald hc hH (by rfl) 34 (oka_i (sj (P := fun i => oka 79 1 34 (20 + 8 * i)) hs4 (by decide +kernel))) (vp_in_nI (by omega) (by decide)) ?_
            rw [nI_clamp (by omega)]
            refine zq_if hc hH (by rfl) (tg := 90) (by rfl) (fun h6 => ?_) (fun h6 => ?_)
            · have h6 : (decide ((μ.1 (20 + 8 * s) l) = 0)) = false := decide_eq_false (cm_ne.mp h6)
              refine z_rcs hc hH 3 (pc' := 66) (lv' := [(4, .int ((nI l) + 1)), (3, .ref (20 + 8 * s)), (0, .ref 0), (1, .int (nI s)), (2, .int (nI l))]) (st' := [.int ((nI l) + 1)]) (μ' := μ) (by rfl) ?_
              rw [show nI l + 1 = nI (l + 1) from by rw [show (1 : Int32) = nI 1 from rfl, nI_add]]
              refine z_rcs hc hH 3 (pc' := 69) (lv' := [(4, .int (nI (l + 1))), (3, .ref (20 + 8 * s)), (0, .ref 0), (1, .int (nI s)), (2, .int (nI l))]) (st' := [.int ((nI l) + 2), .int (nI (l + 1))]) (μ' := μ) (by rfl) ?_
              rw [show nI l + 2 = nI (l + 2) from by rw [show (2 : Int32) = nI 2 from rfl, nI_add]]
              refine zq_ic hc hH (by rfl) (tg := 96) (by rfl) (fun h7 => ?_) (fun h7 => ?_)
              · have h7 : (decide ((nI (l + 2)) < (nI (l + 1)))) = true := decide_eq_true (cm_gt.mp h7)
                exact absurd (Eq.trans (Eq.symm (kn_nlg (by omega) (by omega) (by omega))) h7) (by decide)
              · have h7 : (decide ((nI (l + 2)) < (nI (l + 1)))) = false := decide_eq_false (cn_gt.mp h7)
                refine z_rcs hc hH 2 (pc' := 75) (lv' := [(4, .int (nI (l + 1))), (3, .ref (20 + 8 * s)), (0, .ref 0), (1, .int (nI s)), (2, .int (nI l))]) (st' := [.ref 0, .int (nI (l + 1))]) (μ' := μ) (by rfl) ?_
                refine zq_gfi hc hH (by rfl) (ci := 5) (f := 15) (by rfl) (by decide +kernel) (by rfl) ?_
                rw [hc15]
                refine zq_ic hc hH (by rfl) (tg := 90) (by rfl) (fun h8 => ?_) (fun h8 => ?_)
                · have h8 : (decide ((nI (l + 1)) = (nI (l + 1)))) = true := decide_eq_true (cm_eq9.mp h8)
                  refine z_rcs hc hH 3 (pc' := 66) (lv' := [(4, .int ((nI (l + 1)) + 1)), (3, .ref (20 + 8 * s)), (0, .ref 0), (1, .int (nI s)), (2, .int (nI l))]) (st' := [.int ((nI (l + 1)) + 1)]) (μ' := μ) (by rfl) ?_
                  rw [show nI (l + 1) + 1 = nI (l + 2) from nI_s1 _]
                  refine z_rcs hc hH 3 (pc' := 69) (lv' := [(4, .int (nI (l + 2))), (3, .ref (20 + 8 * s)), (0, .ref 0), (1, .int (nI s)), (2, .int (nI l))]) (st' := [.int ((nI l) + 2), .int (nI (l + 2))]) (μ' := μ) (by rfl) ?_
                  rw [show nI l + 2 = nI (l + 2) from by rw [show (2 : Int32) = nI 2 from rfl, nI_add]]
                  refine zq_ic hc hH (by rfl) (tg := 96) (by rfl) (fun h9 => ?_) (fun h9 => ?_)
                  · have h9 : (decide ((nI (l + 2)) < (nI (l + 2)))) = true := decide_eq_true (cm_gt.mp h9)
                    exact absurd (Eq.trans (Eq.symm (kn_nlg (by omega) (by omega) (by omega))) h9) (by decide)
                  · have h9 : (decide ((nI (l + 2)) < (nI (l + 2)))) = false := decide_eq_false (cn_gt.mp h9)
                    refine z_rcs hc hH 2 (pc' := 75) (lv' := [(4, .int (nI (l + 2))), (3, .ref (20 + 8 * s)), (0, .ref 0), (1, .int (nI s)), (2, .int (nI l))]) (st' := [.ref 0, .int (nI (l + 2))]) (μ' := μ) (by rfl) ?_
                    refine zq_gfi hc hH (by rfl) (ci := 5) (f := 15) (by rfl) (by decide +kernel) (by rfl) ?_
                    rw [hc15]
                    refine zq_ic hc hH (by rfl) (tg := 90) (by rfl) (fun h10 => ?_) (fun h10 => ?_)
                    · have h10 : (decide ((nI (l + 2)) = (nI (l + 1)))) = true := decide_eq_true (cm_eq9.mp h10)
                      exact absurd (Eq.trans (Eq.symm (kn_ne (by omega) (by omega) (by omega))) h10) (by decide)
                    · have h10 : (decide ((nI (l + 2)) = (nI (l + 1)))) = false := decide_eq_false (cn_eq.mp h10)
                      refine z_rcs hc hH 2 (pc' := 84) (lv' := [(4, .int (nI (l + 2))), (3, .ref (20 + 8 * s)), (0, .ref 0), (1, .int (nI s)), (2, .int (nI l))]) (st' := [.int (nI (l + 2)), .ref (20 + 8 * s)]) (μ' := μ) (by rfl) ?_
                      refine zq_iald hc hH (by rfl) 34 (oka_i (sj (P := fun i => oka 79 1 34 (20 + 8 * i)) hs4 (by decide +kernel))) (vp_in_nI (by omega) (by decide)) ?_
                      rw [nI_clamp (by omega)]
                      refine zq_if hc hH (by rfl) (tg := 90) (by rfl) (fun h11 => ?_) (fun h11 => ?_)
                      · have h11 : (decide ((μ.1 (20 + 8 * s) (l + 2)) = 0)) = false := decide_eq_false (cm_ne.mp h11)
                        exact absurd (Eq.trans (Eq.symm (hz2)) h11) (by decide)
                      · have h11 : (decide ((μ.1 (20 + 8 * s) (l + 2)) = 0)) = true := decide_eq_true (cn_ne.mp h11)
                        refine z_rcs hc hH 1 (pc' := 89) (lv' := [(4, .int (nI (l + 2))), (3, .ref (20 + 8 * s)), (0, .ref 0), (1, .int (nI s)), (2, .int (nI l))]) (st' := [.int 0]) (μ' := μ) (by rfl) ?_
                        exact hr 0 89 _ _ _ (some (.int 0)) (by decide +kernel) (z_rx_ok hH (by rfl)) (⟨rfl, rfl⟩)
                · have h8 : (decide ((nI (l + 1)) = (nI (l + 1)))) = false := decide_eq_false (cn_eq.mp h8)
                  exact absurd (Eq.trans (Eq.symm (kn_eq rfl)) h8) (by decide)
            · have h6 : (decide ((μ.1 (20 + 8 * s) l) = 0)) = true := decide_eq_true (cn_ne.mp h6)
              exact absurd (Eq.trans (Eq.symm (hz1)) h6) (by decide)
      · have h3 : (decide ((nI (l + 1)) ≤ (nI (l + 2)))) = false := decide_eq_false (cn_le.mp h3)
        exact absurd (Eq.trans (Eq.symm (kn_nle (by omega) (by omega) (by omega))) h3) (by decide)
theorem gx_runA2 (d : Nat) (hd : 4 ≤ d) (μ : zM) (s l : Nat) (hs4 : s < 4) (hl : l + 2 ≤ 33) (hc15 : μ.1 0 15 = nI (l + 2)) (t u1 : Nat) (ht4 : t < 4) (ht : μ.1 0 8 = nI t) (hu1 : (t + 1) % 4 = u1) (hu14 : u1 < 4) (hmc : ∀ d, 3 ≤ d → z_C d mi_X6_mayClaimSet [.ref 0, .int (nI s)] μ (zR μ (.int 1))) (hsu : decide (nI s = nI u1) = true) (hsr : ∀ d, 1 ≤ d → z_C d mi_X6_startsRun [.int (nI l)] μ (zR μ (.int 1))) (hz1 : decide (μ.1 (20 + 8 * s) l = 0) = true) : z_C d mi_X6_run [.ref 0, .int (nI s), .int (nI l)] μ (fun r μ' => r = some (.int 0) ∧ μ' = μ) := by
  refine z_C_in (by decide) (by omega) (fun d' Z ed hc hr => ?_)
  have hH : zH mi_X6_run zt_X6_run 79 6 6 := hh_X6_run
  refine z_rcs hc hH 2 (pc' := 2) (lv' := [(0, .ref 0), (1, .int (nI s)), (2, .int (nI l))]) (st' := [.int (nI s), .ref 0]) (μ' := μ) (by rfl) ?_
  refine zq_call hc (z_cx_ok hH (by rfl)) (hmc d' (by omega)) (by decide +kernel) (fun r9 μ9 hq => ?_)
  obtain ⟨hμ9, rfl⟩ := hq
  rw [hμ9]
  clear hμ9 μ9
  show Z 0 5 [(0, .ref 0), (1, .int (nI s)), (2, .int (nI l))] [.int 1] μ
  refine z_rcs hc hH 3 (pc' := 10) (lv' := [(0, .ref 0), (1, .int (nI s)), (2, .int (nI l))]) (st' := [.ref 0, .int (nI s)]) (μ' := μ) (by rfl) ?_
  refine zq_gfi hc hH (by rfl) (ci := 5) (f := 8) (by rfl) (by decide +kernel) (by rfl) ?_
  rw [ht]
  refine z_rcs hc hH 2 (pc' := 15) (lv' := [(0, .ref 0), (1, .int (nI s)), (2, .int (nI l))]) (st' := [.int ((nI t) + 1), .int (nI s)]) (μ' := μ) (by rfl) ?_
  rw [nI_s1]
  refine z_rcs hc hH 2 (pc' := 17) (lv' := [(0, .ref 0), (1, .int (nI s)), (2, .int (nI l))]) (st' := [.int ((nI (t + 1)) &&& 3), .int (nI s)]) (μ' := μ) (by rfl) ?_
  rw [show nI (t + 1) &&& 3 = nI u1 from by rw [and3 (by omega), hu1]]
  refine zq_ic hc hH (by rfl) (tg := 27) (by rfl) (fun h1 => ?_) (fun h1 => ?_)
  · have h1 : (decide ((nI s) = (nI u1))) = false := decide_eq_false (cm_ne.mp h1)
    exact absurd (Eq.trans (Eq.symm (hsu)) h1) (by decide)
  · have h1 : (decide ((nI s) = (nI u1))) = true := decide_eq_true (cn_ne.mp h1)
    refine z_rcs hc hH 1 (pc' := 21) (lv' := [(0, .ref 0), (1, .int (nI s)), (2, .int (nI l))]) (st' := [.int (nI l)]) (μ' := μ) (by rfl) ?_
    refine zq_call hc (z_cx_ok hH (by rfl)) (hsr d' (by omega)) (by decide +kernel) (fun r9 μ9 hq => ?_)
    obtain ⟨hμ9, rfl⟩ := hq
    rw [hμ9]
    clear hμ9 μ9
    show Z 0 24 [(0, .ref 0), (1, .int (nI s)), (2, .int (nI l))] [.int 1] μ
    refine z_rcs hc hH 2 (pc' := 30) (lv' := [(0, .ref 0), (1, .int (nI s)), (2, .int (nI l))]) (st' := [.ref 0]) (μ' := μ) (by rfl) ?_
    refine zq_gfi hc hH (by rfl) (ci := 5) (f := 15) (by rfl) (by decide +kernel) (by rfl) ?_
    rw [hc15]
    refine z_rcs hc hH 1 (pc' := 34) (lv' := [(0, .ref 0), (1, .int (nI s)), (2, .int (nI l))]) (st' := [.int (nI l), .int (nI (l + 2))]) (μ' := μ) (by rfl) ?_
    refine zq_ic hc hH (by rfl) (tg := 47) (by rfl) (fun h2 => ?_) (fun h2 => ?_)
    · have h2 : (decide ((nI (l + 2)) < (nI l))) = true := decide_eq_true (cm_lt.mp h2)
      exact absurd (Eq.trans (Eq.symm (kn_nlg (by omega) (by omega) (by omega))) h2) (by decide)
    · have h2 : (decide ((nI (l + 2)) < (nI l))) = false := decide_eq_false (cn_lt.mp h2)
      refine z_rcs hc hH 1 (pc' := 38) (lv' := [(0, .ref 0), (1, .int (nI s)), (2, .int (nI l))]) (st' := [.ref 0]) (μ' := μ) (by rfl) ?_
      refine zq_gfi hc hH (by rfl) (ci := 5) (f := 15) (by rfl) (by decide +kernel) (by rfl) ?_
      rw [hc15]
      refine z_rcs hc hH 3 (pc' := 44) (lv' := [(0, .ref 0), (1, .int (nI s)), (2, .int (nI l))]) (st' := [.int ((nI l) + 2), .int (nI (l + 2))]) (μ' := μ) (by rfl) ?_
      rw [show nI l + 2 = nI (l + 2) from by rw [show (2 : Int32) = nI 2 from rfl, nI_add]]
      refine zq_ic hc hH (by rfl) (tg := 49) (by rfl) (fun h3 => ?_) (fun h3 => ?_)
      · have h3 : (decide ((nI (l + 2)) ≤ (nI (l + 2)))) = true := decide_eq_true (cm_le.mp h3)
        refine z_rcs hc hH 2 (pc' := 51) (lv' := [(0, .ref 0), (1, .int (nI s)), (2, .int (nI l))]) (st' := [.int (nI s), .ref 0]) (μ' := μ) (by rfl) ?_
        refine zq_call hc (z_cx_ok hH (by rfl)) (gc_at4 d' (by omega) μ s hs4) (by decide +kernel) (fun r9 μ9 hq => ?_)
        obtain ⟨hμ9, rfl⟩ := hq
        rw [hμ9]
        clear hμ9 μ9
        show Z 0 54 [(0, .ref 0), (1, .int (nI s)), (2, .int (nI l))] [.ref (18 + 8 * s)] μ
        refine zq_gfr hc hH (by rfl) (ci := 1) (f := 0) (q := 19 + 8 * s) (by rfl) (sj (P := fun i => okf 79 1 0 (18 + 8 * i)) hs4 (by decide +kernel)) (by rfl) (sj (P := fun i => Nat.beq (z_gr (18 + 8 * i) 0) (19 + 8 * i)) hs4 (by decide +kernel)) ?_
        refine zq_gfr hc hH (by rfl) (ci := 2) (f := 0) (q := 20 + 8 * s) (by rfl) (sj (P := fun i => okf 79 2 0 (19 + 8 * i)) hs4 (by decide +kernel)) (by rfl) (sj (P := fun i => Nat.beq (z_gr (19 + 8 * i) 0) (20 + 8 * i)) hs4 (by decide +kernel)) ?_
        refine z_rcs hc hH 7 (pc' := 69) (lv' := [(4, .int (nI l)), (3, .ref (20 + 8 * s)), (0, .ref 0), (1, .int (nI s)), (2, .int (nI l))]) (st' := [.int ((nI l) + 2), .int (nI l)]) (μ' := μ) (by rfl) ?_
        rw [show nI l + 2 = nI (l + 2) from by rw [show (2 : Int32) = nI 2 from rfl, nI_add]]
        refine zq_ic hc hH (by rfl) (tg := 96) (by rfl) (fun h4 => ?_) (fun h4 => ?_)
        · have h4 : (decide ((nI (l + 2)) < (nI l))) = true := decide_eq_true (cm_gt.mp h4)
          exact absurd (Eq.trans (Eq.symm (kn_nlg (by omega) (by omega) (by omega))) h4) (by decide)
        · have h4 : (decide ((nI (l + 2)) < (nI l))) = false := decide_eq_false (cn_gt.mp h4)
          refine z_rcs hc hH 2 (pc' := 75) (lv' := [(4, .int (nI l)), (3, .ref (20 + 8 * s)), (0, .ref 0), (1, .int (nI s)), (2, .int (nI l))]) (st' := [.ref 0, .int (nI l)]) (μ' := μ) (by rfl) ?_
          refine zq_gfi hc hH (by rfl) (ci := 5) (f := 15) (by rfl) (by decide +kernel) (by rfl) ?_
          rw [hc15]
          refine zq_ic hc hH (by rfl) (tg := 90) (by rfl) (fun h5 => ?_) (fun h5 => ?_)
          · have h5 : (decide ((nI l) = (nI (l + 2)))) = true := decide_eq_true (cm_eq9.mp h5)
            exact absurd (Eq.trans (Eq.symm (kn_ne (by omega) (by omega) (by omega))) h5) (by decide)
          · have h5 : (decide ((nI l) = (nI (l + 2)))) = false := decide_eq_false (cn_eq.mp h5)
            refine z_rcs hc hH 2 (pc' := 84) (lv' := [(4, .int (nI l)), (3, .ref (20 + 8 * s)), (0, .ref 0), (1, .int (nI s)), (2, .int (nI l))]) (st' := [.int (nI l), .ref (20 + 8 * s)]) (μ' := μ) (by rfl) ?_
            refine zq_iald hc hH (by rfl) 34 (oka_i (sj (P := fun i => oka 79 1 34 (20 + 8 * i)) hs4 (by decide +kernel))) (vp_in_nI (by omega) (by decide)) ?_
            rw [nI_clamp (by omega)]
            refine zq_if hc hH (by rfl) (tg := 90) (by rfl) (fun h6 => ?_) (fun h6 => ?_)
            · have h6 : (decide ((μ.1 (20 + 8 * s) l) = 0)) = false := decide_eq_false (cm_ne.mp h6)
              exact absurd (Eq.trans (Eq.symm (hz1)) h6) (by decide)
            · have h6 : (decide ((μ.1 (20 + 8 * s) l) = 0)) = true := decide_eq_true (cn_ne.mp h6)
              refine z_rcs hc hH 1 (pc' := 89) (lv' := [(4, .int (nI l)), (3, .ref (20 + 8 * s)), (0, .ref 0), (1, .int (nI s)), (2, .int (nI l))]) (st' := [.int 0]) (μ' := μ) (by rfl) ?_
              exact hr 0 89 _ _ _ (some (.int 0)) (by decide +kernel) (z_rx_ok hH (by rfl)) (⟨rfl, rfl⟩)
      · have h3 : (decide ((nI (l + 2)) ≤ (nI (l + 2)))) = false := decide_eq_false (cn_le.mp h3)
        exact absurd (Eq.trans (Eq.symm (kn_nle (by omega) (by omega) (by omega))) h3) (by decide)
theorem gx_runB2 (d : Nat) (hd : 4 ≤ d) (μ : zM) (s l : Nat) (hs4 : s < 4) (hl : l + 2 ≤ 33) (hc15 : μ.1 0 15 = nI (l + 2)) (t u1 : Nat) (ht4 : t < 4) (ht : μ.1 0 8 = nI t) (hu1 : (t + 1) % 4 = u1) (hu14 : u1 < 4) (hmc : ∀ d, 3 ≤ d → z_C d mi_X6_mayClaimSet [.ref 0, .int (nI s)] μ (zR μ (.int 1))) (hsu : decide (nI s = nI u1) = true) (hsr : ∀ d, 1 ≤ d → z_C d mi_X6_startsRun [.int (nI l)] μ (zR μ (.int 1))) (hz1 : decide (μ.1 (20 + 8 * s) l = 0) = false) (hz2 : decide (μ.1 (20 + 8 * s) (l + 1) = 0) = true) : z_C d mi_X6_run [.ref 0, .int (nI s), .int (nI l)] μ (fun r μ' => r = some (.int 0) ∧ μ' = μ) := by
  refine z_C_in (by decide) (by omega) (fun d' Z ed hc hr => ?_)
  have hH : zH mi_X6_run zt_X6_run 79 6 6 := hh_X6_run
  refine z_rcs hc hH 2 (pc' := 2) (lv' := [(0, .ref 0), (1, .int (nI s)), (2, .int (nI l))]) (st' := [.int (nI s), .ref 0]) (μ' := μ) (by rfl) ?_
  refine zq_call hc (z_cx_ok hH (by rfl)) (hmc d' (by omega)) (by decide +kernel) (fun r9 μ9 hq => ?_)
  obtain ⟨hμ9, rfl⟩ := hq
  rw [hμ9]
  clear hμ9 μ9
  show Z 0 5 [(0, .ref 0), (1, .int (nI s)), (2, .int (nI l))] [.int 1] μ
  refine z_rcs hc hH 3 (pc' := 10) (lv' := [(0, .ref 0), (1, .int (nI s)), (2, .int (nI l))]) (st' := [.ref 0, .int (nI s)]) (μ' := μ) (by rfl) ?_
  refine zq_gfi hc hH (by rfl) (ci := 5) (f := 8) (by rfl) (by decide +kernel) (by rfl) ?_
  rw [ht]
  refine z_rcs hc hH 2 (pc' := 15) (lv' := [(0, .ref 0), (1, .int (nI s)), (2, .int (nI l))]) (st' := [.int ((nI t) + 1), .int (nI s)]) (μ' := μ) (by rfl) ?_
  rw [nI_s1]
  refine z_rcs hc hH 2 (pc' := 17) (lv' := [(0, .ref 0), (1, .int (nI s)), (2, .int (nI l))]) (st' := [.int ((nI (t + 1)) &&& 3), .int (nI s)]) (μ' := μ) (by rfl) ?_
  rw [show nI (t + 1) &&& 3 = nI u1 from by rw [and3 (by omega), hu1]]
  refine zq_ic hc hH (by rfl) (tg := 27) (by rfl) (fun h1 => ?_) (fun h1 => ?_)
  · have h1 : (decide ((nI s) = (nI u1))) = false := decide_eq_false (cm_ne.mp h1)
    exact absurd (Eq.trans (Eq.symm (hsu)) h1) (by decide)
  · have h1 : (decide ((nI s) = (nI u1))) = true := decide_eq_true (cn_ne.mp h1)
    refine z_rcs hc hH 1 (pc' := 21) (lv' := [(0, .ref 0), (1, .int (nI s)), (2, .int (nI l))]) (st' := [.int (nI l)]) (μ' := μ) (by rfl) ?_
    refine zq_call hc (z_cx_ok hH (by rfl)) (hsr d' (by omega)) (by decide +kernel) (fun r9 μ9 hq => ?_)
    obtain ⟨hμ9, rfl⟩ := hq
    rw [hμ9]
    clear hμ9 μ9
    show Z 0 24 [(0, .ref 0), (1, .int (nI s)), (2, .int (nI l))] [.int 1] μ
    refine z_rcs hc hH 2 (pc' := 30) (lv' := [(0, .ref 0), (1, .int (nI s)), (2, .int (nI l))]) (st' := [.ref 0]) (μ' := μ) (by rfl) ?_
    refine zq_gfi hc hH (by rfl) (ci := 5) (f := 15) (by rfl) (by decide +kernel) (by rfl) ?_
    rw [hc15]
    refine z_rcs hc hH 1 (pc' := 34) (lv' := [(0, .ref 0), (1, .int (nI s)), (2, .int (nI l))]) (st' := [.int (nI l), .int (nI (l + 2))]) (μ' := μ) (by rfl) ?_
    refine zq_ic hc hH (by rfl) (tg := 47) (by rfl) (fun h2 => ?_) (fun h2 => ?_)
    · have h2 : (decide ((nI (l + 2)) < (nI l))) = true := decide_eq_true (cm_lt.mp h2)
      exact absurd (Eq.trans (Eq.symm (kn_nlg (by omega) (by omega) (by omega))) h2) (by decide)
    · have h2 : (decide ((nI (l + 2)) < (nI l))) = false := decide_eq_false (cn_lt.mp h2)
      refine z_rcs hc hH 1 (pc' := 38) (lv' := [(0, .ref 0), (1, .int (nI s)), (2, .int (nI l))]) (st' := [.ref 0]) (μ' := μ) (by rfl) ?_
      refine zq_gfi hc hH (by rfl) (ci := 5) (f := 15) (by rfl) (by decide +kernel) (by rfl) ?_
      rw [hc15]
      refine z_rcs hc hH 3 (pc' := 44) (lv' := [(0, .ref 0), (1, .int (nI s)), (2, .int (nI l))]) (st' := [.int ((nI l) + 2), .int (nI (l + 2))]) (μ' := μ) (by rfl) ?_
      rw [show nI l + 2 = nI (l + 2) from by rw [show (2 : Int32) = nI 2 from rfl, nI_add]]
      refine zq_ic hc hH (by rfl) (tg := 49) (by rfl) (fun h3 => ?_) (fun h3 => ?_)
      · have h3 : (decide ((nI (l + 2)) ≤ (nI (l + 2)))) = true := decide_eq_true (cm_le.mp h3)
        refine z_rcs hc hH 2 (pc' := 51) (lv' := [(0, .ref 0), (1, .int (nI s)), (2, .int (nI l))]) (st' := [.int (nI s), .ref 0]) (μ' := μ) (by rfl) ?_
        refine zq_call hc (z_cx_ok hH (by rfl)) (gc_at4 d' (by omega) μ s hs4) (by decide +kernel) (fun r9 μ9 hq => ?_)
        obtain ⟨hμ9, rfl⟩ := hq
        rw [hμ9]
        clear hμ9 μ9
        show Z 0 54 [(0, .ref 0), (1, .int (nI s)), (2, .int (nI l))] [.ref (18 + 8 * s)] μ
        refine zq_gfr hc hH (by rfl) (ci := 1) (f := 0) (q := 19 + 8 * s) (by rfl) (sj (P := fun i => okf 79 1 0 (18 + 8 * i)) hs4 (by decide +kernel)) (by rfl) (sj (P := fun i => Nat.beq (z_gr (18 + 8 * i) 0) (19 + 8 * i)) hs4 (by decide +kernel)) ?_
        refine zq_gfr hc hH (by rfl) (ci := 2) (f := 0) (q := 20 + 8 * s) (by rfl) (sj (P := fun i => okf 79 2 0 (19 + 8 * i)) hs4 (by decide +kernel)) (by rfl) (sj (P := fun i => Nat.beq (z_gr (19 + 8 * i) 0) (20 + 8 * i)) hs4 (by decide +kernel)) ?_
        refine z_rcs hc hH 7 (pc' := 69) (lv' := [(4, .int (nI l)), (3, .ref (20 + 8 * s)), (0, .ref 0), (1, .int (nI s)), (2, .int (nI l))]) (st' := [.int ((nI l) + 2), .int (nI l)]) (μ' := μ) (by rfl) ?_
        rw [show nI l + 2 = nI (l + 2) from by rw [show (2 : Int32) = nI 2 from rfl, nI_add]]
        refine zq_ic hc hH (by rfl) (tg := 96) (by rfl) (fun h4 => ?_) (fun h4 => ?_)
        · have h4 : (decide ((nI (l + 2)) < (nI l))) = true := decide_eq_true (cm_gt.mp h4)
          exact absurd (Eq.trans (Eq.symm (kn_nlg (by omega) (by omega) (by omega))) h4) (by decide)
        · have h4 : (decide ((nI (l + 2)) < (nI l))) = false := decide_eq_false (cn_gt.mp h4)
          refine z_rcs hc hH 2 (pc' := 75) (lv' := [(4, .int (nI l)), (3, .ref (20 + 8 * s)), (0, .ref 0), (1, .int (nI s)), (2, .int (nI l))]) (st' := [.ref 0, .int (nI l)]) (μ' := μ) (by rfl) ?_
          refine zq_gfi hc hH (by rfl) (ci := 5) (f := 15) (by rfl) (by decide +kernel) (by rfl) ?_
          rw [hc15]
          refine zq_ic hc hH (by rfl) (tg := 90) (by rfl) (fun h5 => ?_) (fun h5 => ?_)
          · have h5 : (decide ((nI l) = (nI (l + 2)))) = true := decide_eq_true (cm_eq9.mp h5)
            exact absurd (Eq.trans (Eq.symm (kn_ne (by omega) (by omega) (by omega))) h5) (by decide)
          · have h5 : (decide ((nI l) = (nI (l + 2)))) = false := decide_eq_false (cn_eq.mp h5)
            refine z_rcs hc hH 2 (pc' := 84) (lv' := [(4, .int (nI l)), (3, .ref (20 + 8 * s)), (0, .ref 0), (1, .int (nI s)), (2, .int (nI l))]) (st' := [.int (nI l), .ref (20 + 8 * s)]) (μ' := μ) (by rfl) ?_
            refine zq_iald hc hH (by rfl) 34 (oka_i (sj (P := fun i => oka 79 1 34 (20 + 8 * i)) hs4 (by decide +kernel))) (vp_in_nI (by omega) (by decide)) ?_
            rw [nI_clamp (by omega)]
            refine zq_if hc hH (by rfl) (tg := 90) (by rfl) (fun h6 => ?_) (fun h6 => ?_)
            · have h6 : (decide ((μ.1 (20 + 8 * s) l) = 0)) = false := decide_eq_false (cm_ne.mp h6)
              refine z_rcs hc hH 3 (pc' := 66) (lv' := [(4, .int ((nI l) + 1)), (3, .ref (20 + 8 * s)), (0, .ref 0), (1, .int (nI s)), (2, .int (nI l))]) (st' := [.int ((nI l) + 1)]) (μ' := μ) (by rfl) ?_
              rw [show nI l + 1 = nI (l + 1) from by rw [show (1 : Int32) = nI 1 from rfl, nI_add]]
              refine z_rcs hc hH 3 (pc' := 69) (lv' := [(4, .int (nI (l + 1))), (3, .ref (20 + 8 * s)), (0, .ref 0), (1, .int (nI s)), (2, .int (nI l))]) (st' := [.int ((nI l) + 2), .int (nI (l + 1))]) (μ' := μ) (by rfl) ?_
              rw [show nI l + 2 = nI (l + 2) from by rw [show (2 : Int32) = nI 2 from rfl, nI_add]]
              refine zq_ic hc hH (by rfl) (tg := 96) (by rfl) (fun h7 => ?_) (fun h7 => ?_)
              · have h7 : (decide ((nI (l + 2)) < (nI (l + 1)))) = true := decide_eq_true (cm_gt.mp h7)
                exact absurd (Eq.trans (Eq.symm (kn_nlg (by omega) (by omega) (by omega))) h7) (by decide)
              · have h7 : (decide ((nI (l + 2)) < (nI (l + 1)))) = false := decide_eq_false (cn_gt.mp h7)
                refine z_rcs hc hH 2 (pc' := 75) (lv' := [(4, .int (nI (l + 1))), (3, .ref (20 + 8 * s)), (0, .ref 0), (1, .int (nI s)), (2, .int (nI l))]) (st' := [.ref 0, .int (nI (l + 1))]) (μ' := μ) (by rfl) ?_
                refine zq_gfi hc hH (by rfl) (ci := 5) (f := 15) (by rfl) (by decide +kernel) (by rfl) ?_
                rw [hc15]
                refine zq_ic hc hH (by rfl) (tg := 90) (by rfl) (fun h8 => ?_) (fun h8 => ?_)
                · have h8 : (decide ((nI (l + 1)) = (nI (l + 2)))) = true := decide_eq_true (cm_eq9.mp h8)
                  exact absurd (Eq.trans (Eq.symm (kn_ne (by omega) (by omega) (by omega))) h8) (by decide)
                · have h8 : (decide ((nI (l + 1)) = (nI (l + 2)))) = false := decide_eq_false (cn_eq.mp h8)
                  refine z_rcs hc hH 2 (pc' := 84) (lv' := [(4, .int (nI (l + 1))), (3, .ref (20 + 8 * s)), (0, .ref 0), (1, .int (nI s)), (2, .int (nI l))]) (st' := [.int (nI (l + 1)), .ref (20 + 8 * s)]) (μ' := μ) (by rfl) ?_
                  refine zq_iald hc hH (by rfl) 34 (oka_i (sj (P := fun i => oka 79 1 34 (20 + 8 * i)) hs4 (by decide +kernel))) (vp_in_nI (by omega) (by decide)) ?_
                  rw [nI_clamp (by omega)]
                  refine zq_if hc hH (by rfl) (tg := 90) (by rfl) (fun h9 => ?_) (fun h9 => ?_)
                  · have h9 : (decide ((μ.1 (20 + 8 * s) (l + 1)) = 0)) = false := decide_eq_false (cm_ne.mp h9)
                    exact absurd (Eq.trans (Eq.symm (hz2)) h9) (by decide)
                  · have h9 : (decide ((μ.1 (20 + 8 * s) (l + 1)) = 0)) = true := decide_eq_true (cn_ne.mp h9)
                    refine z_rcs hc hH 1 (pc' := 89) (lv' := [(4, .int (nI (l + 1))), (3, .ref (20 + 8 * s)), (0, .ref 0), (1, .int (nI s)), (2, .int (nI l))]) (st' := [.int 0]) (μ' := μ) (by rfl) ?_
                    exact hr 0 89 _ _ _ (some (.int 0)) (by decide +kernel) (z_rx_ok hH (by rfl)) (⟨rfl, rfl⟩)
            · have h6 : (decide ((μ.1 (20 + 8 * s) l) = 0)) = true := decide_eq_true (cn_ne.mp h6)
              exact absurd (Eq.trans (Eq.symm (hz1)) h6) (by decide)
      · have h3 : (decide ((nI (l + 2)) ≤ (nI (l + 2)))) = false := decide_eq_false (cn_le.mp h3)
        exact absurd (Eq.trans (Eq.symm (kn_nle (by omega) (by omega) (by omega))) h3) (by decide)
theorem mr_threeH (d : Nat) (hd : 4 ≤ d) (μ : zM) (s c : Nat) (hs4 : s < 4) (hc : c < 34) (hc49 : μ.1 50 49 = nI c) (hmc : ∀ d, 2 ≤ d → z_C d mi_X7_mayClaim [.ref 50, .int (nI s)] (z_ui μ 50 0 0) (zR (z_ui μ 50 0 0) (.int 1))) (hf : decide (2 ≤ μ.1 60 (34 * s + c)) = false) : z_C d mi_X7_three [.ref 50, .int (nI s)] μ (fun r μ' => r = some (.int 0) ∧ μ' = z_ui μ 50 0 0) := by
  refine z_C_in (by decide) (by omega) (fun d' Z ed hc hr => ?_)
  have hH : zH mi_X7_three zt_X7_three 79 7 3 := hh_X7_three
  refine z_rcs hc hH 2 (pc' := 2) (lv' := [(0, .ref 50), (1, .int (nI s))]) (st' := [.int 0, .ref 50]) (μ' := μ) (by rfl) ?_
  refine zq_pfi hc hH (by rfl) (ci := 6) (f := 0) (by rfl) (by decide +kernel) (by rfl) ?_
  show Z 0 5 [(0, .ref 50), (1, .int (nI s))] [] (z_ui μ 50 0 0)
  refine z_rcs hc hH 2 (pc' := 7) (lv' := [(0, .ref 50), (1, .int (nI s))]) (st' := [.int (nI s), .ref 50]) (μ' := z_ui μ 50 0 0) (by rfl) ?_
  refine zq_call hc (z_cx_ok hH (by rfl)) (hmc d' (by omega)) (by decide +kernel) (fun r9 μ9 hq => ?_)
  obtain ⟨hμ9, rfl⟩ := hq
  rw [hμ9]
  clear hμ9 μ9
  show Z 0 10 [(0, .ref 50), (1, .int (nI s))] [.int 1] (z_ui μ 50 0 0)
  refine z_rcs hc hH 4 (pc' := 16) (lv' := [(0, .ref 50), (1, .int (nI s))]) (st' := [.ref 50, .int (nI s), .ref 50]) (μ' := z_ui μ 50 0 0) (by rfl) ?_
  refine zq_gfi hc hH (by rfl) (ci := 6) (f := 49) (by rfl) (by decide +kernel) (by rfl) ?_
  refine zV1 (Z := Z) (ui_k (by first | decide | omega)) ?_
  rw [hc49]
  refine zq_call hc (z_cx_ok hH (by rfl)) (fc_X7_has_ d' (by omega) (z_ui μ 50 0 0) s c hs4 (by omega)) (by decide +kernel) (fun r9 μ9 hq => ?_)
  obtain ⟨hμ9, rfl⟩ := hq
  rw [hμ9]
  clear hμ9 μ9
  rw [ui_o (by first | decide | omega)]
  show Z 0 22 [(0, .ref 50), (1, .int (nI s))] [.int (μ.1 60 (34 * s + c))] (z_ui μ 50 0 0)
  refine z_rcs hc hH 1 (pc' := 23) (lv' := [(0, .ref 50), (1, .int (nI s))]) (st' := [.int 2, .int (μ.1 60 (34 * s + c))]) (μ' := z_ui μ 50 0 0) (by rfl) ?_
  refine zq_ic hc hH (by rfl) (tg := 28) (by rfl) (fun h1 => ?_) (fun h1 => ?_)
  · have h1 : (decide (2 ≤ (μ.1 60 (34 * s + c)))) = true := decide_eq_true (cm_ge.mp h1)
    exact absurd (Eq.trans (Eq.symm (hf)) h1) (by decide)
  · have h1 : (decide (2 ≤ (μ.1 60 (34 * s + c)))) = false := decide_eq_false (cn_ge.mp h1)
    refine z_rcs hc hH 1 (pc' := 27) (lv' := [(0, .ref 50), (1, .int (nI s))]) (st' := [.int 0]) (μ' := z_ui μ 50 0 0) (by rfl) ?_
    exact hr 0 27 _ _ _ (some (.int 0)) (by decide +kernel) (z_rx_ok hH (by rfl)) (⟨rfl, rfl⟩)
theorem mr_fourH (d : Nat) (hd : 4 ≤ d) (μ : zM) (s c : Nat) (hs4 : s < 4) (hc : c < 34) (hc49 : μ.1 50 49 = nI c) (hmc : ∀ d, 2 ≤ d → z_C d mi_X7_mayClaim [.ref 50, .int (nI s)] (z_ui μ 50 0 0) (zR (z_ui μ 50 0 0) (.int 1))) (hf : decide (μ.1 60 (34 * s + c) < 3) = true) : z_C d mi_X7_four [.ref 50, .int (nI s)] μ (fun r μ' => r = some (.int 0) ∧ μ' = z_ui μ 50 0 0) := by
  refine z_C_in (by decide) (by omega) (fun d' Z ed hc hr => ?_)
  have hH : zH mi_X7_four zt_X7_four 79 7 2 := hh_X7_four
  refine z_rcs hc hH 2 (pc' := 2) (lv' := [(0, .ref 50), (1, .int (nI s))]) (st' := [.int 0, .ref 50]) (μ' := μ) (by rfl) ?_
  refine zq_pfi hc hH (by rfl) (ci := 6) (f := 0) (by rfl) (by decide +kernel) (by rfl) ?_
  show Z 0 5 [(0, .ref 50), (1, .int (nI s))] [] (z_ui μ 50 0 0)
  refine z_rcs hc hH 2 (pc' := 7) (lv' := [(0, .ref 50), (1, .int (nI s))]) (st' := [.int (nI s), .ref 50]) (μ' := z_ui μ 50 0 0) (by rfl) ?_
  refine zq_call hc (z_cx_ok hH (by rfl)) (hmc d' (by omega)) (by decide +kernel) (fun r9 μ9 hq => ?_)
  obtain ⟨hμ9, rfl⟩ := hq
  rw [hμ9]
  clear hμ9 μ9
  show Z 0 10 [(0, .ref 50), (1, .int (nI s))] [.int 1] (z_ui μ 50 0 0)
  refine z_rcs hc hH 4 (pc' := 16) (lv' := [(0, .ref 50), (1, .int (nI s))]) (st' := [.ref 50, .int (nI s), .ref 50]) (μ' := z_ui μ 50 0 0) (by rfl) ?_
  refine zq_gfi hc hH (by rfl) (ci := 6) (f := 49) (by rfl) (by decide +kernel) (by rfl) ?_
  refine zV1 (Z := Z) (ui_k (by first | decide | omega)) ?_
  rw [hc49]
  refine zq_call hc (z_cx_ok hH (by rfl)) (fc_X7_has_ d' (by omega) (z_ui μ 50 0 0) s c hs4 (by omega)) (by decide +kernel) (fun r9 μ9 hq => ?_)
  obtain ⟨hμ9, rfl⟩ := hq
  rw [hμ9]
  clear hμ9 μ9
  rw [ui_o (by first | decide | omega)]
  show Z 0 22 [(0, .ref 50), (1, .int (nI s))] [.int (μ.1 60 (34 * s + c))] (z_ui μ 50 0 0)
  refine z_rcs hc hH 1 (pc' := 23) (lv' := [(0, .ref 50), (1, .int (nI s))]) (st' := [.int 3, .int (μ.1 60 (34 * s + c))]) (μ' := z_ui μ 50 0 0) (by rfl) ?_
  refine zq_ic hc hH (by rfl) (tg := 34) (by rfl) (fun h1 => ?_) (fun h1 => ?_)
  · have h1 : (decide ((μ.1 60 (34 * s + c)) < 3)) = true := decide_eq_true (cm_lt.mp h1)
    refine z_rcs hc hH 1 (pc' := 35) (lv' := [(0, .ref 50), (1, .int (nI s))]) (st' := [.int 0]) (μ' := z_ui μ 50 0 0) (by rfl) ?_
    exact hr 0 35 _ _ _ (some (.int 0)) (by decide +kernel) (z_rx_ok hH (by rfl)) (⟨rfl, rfl⟩)
  · have h1 : (decide ((μ.1 60 (34 * s + c)) < 3)) = false := decide_eq_false (cn_lt.mp h1)
    exact absurd (Eq.trans (Eq.symm (hf)) h1) (by decide)
theorem mr_runS (d : Nat) (hd : 4 ≤ d) (μ : zM) (s : Nat) (hs4 : s < 4) (x : Int32) (t u1 : Nat) (ht4 : t < 4) (ht : μ.1 50 45 = nI t) (hu1 : (t + 1) % 4 = u1) (hu14 : u1 < 4) (hmc : ∀ d, 2 ≤ d → z_C d mi_X7_mayClaim [.ref 50, .int (nI s)] (z_ui μ 50 0 0) (zR (z_ui μ 50 0 0) (.int 1))) (hsu : decide (nI s = nI u1) = false) : z_C d mi_X7_run [.ref 50, .int (nI s), .int x] μ (fun r μ' => r = some (.int 0) ∧ μ' = z_ui μ 50 0 0) := by
  refine z_C_in (by decide) (by omega) (fun d' Z ed hc hr => ?_)
  have hH : zH mi_X7_run zt_X7_run 79 7 5 := hh_X7_run
  refine z_rcs hc hH 2 (pc' := 2) (lv' := [(0, .ref 50), (1, .int (nI s)), (2, .int x)]) (st' := [.int 0, .ref 50]) (μ' := μ) (by rfl) ?_
  refine zq_pfi hc hH (by rfl) (ci := 6) (f := 0) (by rfl) (by decide +kernel) (by rfl) ?_
  show Z 0 5 [(0, .ref 50), (1, .int (nI s)), (2, .int x)] [] (z_ui μ 50 0 0)
  refine z_rcs hc hH 2 (pc' := 7) (lv' := [(0, .ref 50), (1, .int (nI s)), (2, .int x)]) (st' := [.int (nI s), .ref 50]) (μ' := z_ui μ 50 0 0) (by rfl) ?_
  refine zq_call hc (z_cx_ok hH (by rfl)) (hmc d' (by omega)) (by decide +kernel) (fun r9 μ9 hq => ?_)
  obtain ⟨hμ9, rfl⟩ := hq
  rw [hμ9]
  clear hμ9 μ9
  show Z 0 10 [(0, .ref 50), (1, .int (nI s)), (2, .int x)] [.int 1] (z_ui μ 50 0 0)
  refine z_rcs hc hH 3 (pc' := 15) (lv' := [(0, .ref 50), (1, .int (nI s)), (2, .int x)]) (st' := [.ref 50, .int (nI s)]) (μ' := z_ui μ 50 0 0) (by rfl) ?_
  refine zq_gfi hc hH (by rfl) (ci := 6) (f := 45) (by rfl) (by decide +kernel) (by rfl) ?_
  refine zV1 (Z := Z) (ui_k (by first | decide | omega)) ?_
  rw [ht]
  refine z_rcs hc hH 2 (pc' := 20) (lv' := [(0, .ref 50), (1, .int (nI s)), (2, .int x)]) (st' := [.int ((nI t) + 1), .int (nI s)]) (μ' := z_ui μ 50 0 0) (by rfl) ?_
  rw [nI_s1]
  refine z_rcs hc hH 2 (pc' := 22) (lv' := [(0, .ref 50), (1, .int (nI s)), (2, .int x)]) (st' := [.int ((nI (t + 1)) - (nI (t + 1)) / 4 * 4), .int (nI s)]) (μ' := z_ui μ 50 0 0) (by rfl) ?_
  rw [show nI (t + 1) - nI (t + 1) / 4 * 4 = nI u1 from by rw [rm4 _ (by omega), hu1]]
  refine zq_ic hc hH (by rfl) (tg := 50) (by rfl) (fun h1 => ?_) (fun h1 => ?_)
  · have h1 : (decide ((nI s) = (nI u1))) = false := decide_eq_false (cm_ne.mp h1)
    refine z_rcs hc hH 1 (pc' := 51) (lv' := [(0, .ref 50), (1, .int (nI s)), (2, .int x)]) (st' := [.int 0]) (μ' := z_ui μ 50 0 0) (by rfl) ?_
    exact hr 0 51 _ _ _ (some (.int 0)) (by decide +kernel) (z_rx_ok hH (by rfl)) (⟨rfl, rfl⟩)
  · have h1 : (decide ((nI s) = (nI u1))) = true := decide_eq_true (cn_ne.mp h1)
    exact absurd (Eq.trans (Eq.symm (hsu)) h1) (by decide)
theorem mr_runR (d : Nat) (hd : 4 ≤ d) (μ : zM) (s : Nat) (hs4 : s < 4) (x : Int32) (t u1 : Nat) (ht4 : t < 4) (ht : μ.1 50 45 = nI t) (hu1 : (t + 1) % 4 = u1) (hu14 : u1 < 4) (hmc : ∀ d, 2 ≤ d → z_C d mi_X7_mayClaim [.ref 50, .int (nI s)] (z_ui μ 50 0 0) (zR (z_ui μ 50 0 0) (.int 1))) (hsu : decide (nI s = nI u1) = true) (hsr : ∀ d, 1 ≤ d → z_C d mi_X7_isRun [.int x] (z_ui μ 50 0 0) (zR (z_ui μ 50 0 0) (.int 0))) : z_C d mi_X7_run [.ref 50, .int (nI s), .int x] μ (fun r μ' => r = some (.int 0) ∧ μ' = z_ui μ 50 0 0) := by
  refine z_C_in (by decide) (by omega) (fun d' Z ed hc hr => ?_)
  have hH : zH mi_X7_run zt_X7_run 79 7 5 := hh_X7_run
  refine z_rcs hc hH 2 (pc' := 2) (lv' := [(0, .ref 50), (1, .int (nI s)), (2, .int x)]) (st' := [.int 0, .ref 50]) (μ' := μ) (by rfl) ?_
  refine zq_pfi hc hH (by rfl) (ci := 6) (f := 0) (by rfl) (by decide +kernel) (by rfl) ?_
  show Z 0 5 [(0, .ref 50), (1, .int (nI s)), (2, .int x)] [] (z_ui μ 50 0 0)
  refine z_rcs hc hH 2 (pc' := 7) (lv' := [(0, .ref 50), (1, .int (nI s)), (2, .int x)]) (st' := [.int (nI s), .ref 50]) (μ' := z_ui μ 50 0 0) (by rfl) ?_
  refine zq_call hc (z_cx_ok hH (by rfl)) (hmc d' (by omega)) (by decide +kernel) (fun r9 μ9 hq => ?_)
  obtain ⟨hμ9, rfl⟩ := hq
  rw [hμ9]
  clear hμ9 μ9
  show Z 0 10 [(0, .ref 50), (1, .int (nI s)), (2, .int x)] [.int 1] (z_ui μ 50 0 0)
  refine z_rcs hc hH 3 (pc' := 15) (lv' := [(0, .ref 50), (1, .int (nI s)), (2, .int x)]) (st' := [.ref 50, .int (nI s)]) (μ' := z_ui μ 50 0 0) (by rfl) ?_
  refine zq_gfi hc hH (by rfl) (ci := 6) (f := 45) (by rfl) (by decide +kernel) (by rfl) ?_
  refine zV1 (Z := Z) (ui_k (by first | decide | omega)) ?_
  rw [ht]
  refine z_rcs hc hH 2 (pc' := 20) (lv' := [(0, .ref 50), (1, .int (nI s)), (2, .int x)]) (st' := [.int ((nI t) + 1), .int (nI s)]) (μ' := z_ui μ 50 0 0) (by rfl) ?_
  rw [nI_s1]
  refine z_rcs hc hH 2 (pc' := 22) (lv' := [(0, .ref 50), (1, .int (nI s)), (2, .int x)]) (st' := [.int ((nI (t + 1)) - (nI (t + 1)) / 4 * 4), .int (nI s)]) (μ' := z_ui μ 50 0 0) (by rfl) ?_
  rw [show nI (t + 1) - nI (t + 1) / 4 * 4 = nI u1 from by rw [rm4 _ (by omega), hu1]]
  refine zq_ic hc hH (by rfl) (tg := 50) (by rfl) (fun h1 => ?_) (fun h1 => ?_)
  · have h1 : (decide ((nI s) = (nI u1))) = false := decide_eq_false (cm_ne.mp h1)
    exact absurd (Eq.trans (Eq.symm (hsu)) h1) (by decide)
  · have h1 : (decide ((nI s) = (nI u1))) = true := decide_eq_true (cn_ne.mp h1)
    refine z_rcs hc hH 1 (pc' := 26) (lv' := [(0, .ref 50), (1, .int (nI s)), (2, .int x)]) (st' := [.int x]) (μ' := z_ui μ 50 0 0) (by rfl) ?_
    refine zq_call hc (z_cx_ok hH (by rfl)) (hsr d' (by omega)) (by decide +kernel) (fun r9 μ9 hq => ?_)
    obtain ⟨hμ9, rfl⟩ := hq
    rw [hμ9]
    clear hμ9 μ9
    show Z 0 29 [(0, .ref 50), (1, .int (nI s)), (2, .int x)] [.int 0] (z_ui μ 50 0 0)
    refine z_rcs hc hH 2 (pc' := 51) (lv' := [(0, .ref 50), (1, .int (nI s)), (2, .int x)]) (st' := [.int 0]) (μ' := z_ui μ 50 0 0) (by rfl) ?_
    exact hr 0 51 _ _ _ (some (.int 0)) (by decide +kernel) (z_rx_ok hH (by rfl)) (⟨rfl, rfl⟩)
theorem mr_runL (d : Nat) (hd : 4 ≤ d) (μ : zM) (s l c : Nat) (hs4 : s < 4) (hl : l + 2 ≤ 33) (hc49 : μ.1 50 49 = nI c) (t u1 : Nat) (ht4 : t < 4) (ht : μ.1 50 45 = nI t) (hu1 : (t + 1) % 4 = u1) (hu14 : u1 < 4) (hmc : ∀ d, 2 ≤ d → z_C d mi_X7_mayClaim [.ref 50, .int (nI s)] (z_ui μ 50 0 0) (zR (z_ui μ 50 0 0) (.int 1))) (hsu : decide (nI s = nI u1) = true) (hsr : ∀ d, 1 ≤ d → z_C d mi_X7_isRun [.int (nI l)] (z_ui μ 50 0 0) (zR (z_ui μ 50 0 0) (.int 1))) (hl1 : decide (nI c < nI l) = true) : z_C d mi_X7_run [.ref 50, .int (nI s), .int (nI l)] μ (fun r μ' => r = some (.int 0) ∧ μ' = z_ui μ 50 0 0) := by
  refine z_C_in (by decide) (by omega) (fun d' Z ed hc hr => ?_)
  have hH : zH mi_X7_run zt_X7_run 79 7 5 := hh_X7_run
  refine z_rcs hc hH 2 (pc' := 2) (lv' := [(0, .ref 50), (1, .int (nI s)), (2, .int (nI l))]) (st' := [.int 0, .ref 50]) (μ' := μ) (by rfl) ?_
  refine zq_pfi hc hH (by rfl) (ci := 6) (f := 0) (by rfl) (by decide +kernel) (by rfl) ?_
  show Z 0 5 [(0, .ref 50), (1, .int (nI s)), (2, .int (nI l))] [] (z_ui μ 50 0 0)
  refine z_rcs hc hH 2 (pc' := 7) (lv' := [(0, .ref 50), (1, .int (nI s)), (2, .int (nI l))]) (st' := [.int (nI s), .ref 50]) (μ' := z_ui μ 50 0 0) (by rfl) ?_
  refine zq_call hc (z_cx_ok hH (by rfl)) (hmc d' (by omega)) (by decide +kernel) (fun r9 μ9 hq => ?_)
  obtain ⟨hμ9, rfl⟩ := hq
  rw [hμ9]
  clear hμ9 μ9
  show Z 0 10 [(0, .ref 50), (1, .int (nI s)), (2, .int (nI l))] [.int 1] (z_ui μ 50 0 0)
  refine z_rcs hc hH 3 (pc' := 15) (lv' := [(0, .ref 50), (1, .int (nI s)), (2, .int (nI l))]) (st' := [.ref 50, .int (nI s)]) (μ' := z_ui μ 50 0 0) (by rfl) ?_
  refine zq_gfi hc hH (by rfl) (ci := 6) (f := 45) (by rfl) (by decide +kernel) (by rfl) ?_
  refine zV1 (Z := Z) (ui_k (by first | decide | omega)) ?_
  rw [ht]
  refine z_rcs hc hH 2 (pc' := 20) (lv' := [(0, .ref 50), (1, .int (nI s)), (2, .int (nI l))]) (st' := [.int ((nI t) + 1), .int (nI s)]) (μ' := z_ui μ 50 0 0) (by rfl) ?_
  rw [nI_s1]
  refine z_rcs hc hH 2 (pc' := 22) (lv' := [(0, .ref 50), (1, .int (nI s)), (2, .int (nI l))]) (st' := [.int ((nI (t + 1)) - (nI (t + 1)) / 4 * 4), .int (nI s)]) (μ' := z_ui μ 50 0 0) (by rfl) ?_
  rw [show nI (t + 1) - nI (t + 1) / 4 * 4 = nI u1 from by rw [rm4 _ (by omega), hu1]]
  refine zq_ic hc hH (by rfl) (tg := 50) (by rfl) (fun h1 => ?_) (fun h1 => ?_)
  · have h1 : (decide ((nI s) = (nI u1))) = false := decide_eq_false (cm_ne.mp h1)
    exact absurd (Eq.trans (Eq.symm (hsu)) h1) (by decide)
  · have h1 : (decide ((nI s) = (nI u1))) = true := decide_eq_true (cn_ne.mp h1)
    refine z_rcs hc hH 1 (pc' := 26) (lv' := [(0, .ref 50), (1, .int (nI s)), (2, .int (nI l))]) (st' := [.int (nI l)]) (μ' := z_ui μ 50 0 0) (by rfl) ?_
    refine zq_call hc (z_cx_ok hH (by rfl)) (hsr d' (by omega)) (by decide +kernel) (fun r9 μ9 hq => ?_)
    obtain ⟨hμ9, rfl⟩ := hq
    rw [hμ9]
    clear hμ9 μ9
    show Z 0 29 [(0, .ref 50), (1, .int (nI s)), (2, .int (nI l))] [.int 1] (z_ui μ 50 0 0)
    refine z_rcs hc hH 2 (pc' := 33) (lv' := [(0, .ref 50), (1, .int (nI s)), (2, .int (nI l))]) (st' := [.ref 50]) (μ' := z_ui μ 50 0 0) (by rfl) ?_
    refine zq_gfi hc hH (by rfl) (ci := 6) (f := 49) (by rfl) (by decide +kernel) (by rfl) ?_
    refine zV1 (Z := Z) (ui_k (by first | decide | omega)) ?_
    rw [hc49]
    refine z_rcs hc hH 1 (pc' := 37) (lv' := [(0, .ref 50), (1, .int (nI s)), (2, .int (nI l))]) (st' := [.int (nI l), .int (nI c)]) (μ' := z_ui μ 50 0 0) (by rfl) ?_
    refine zq_ic hc hH (by rfl) (tg := 50) (by rfl) (fun h2 => ?_) (fun h2 => ?_)
    · have h2 : (decide ((nI c) < (nI l))) = true := decide_eq_true (cm_lt.mp h2)
      refine z_rcs hc hH 1 (pc' := 51) (lv' := [(0, .ref 50), (1, .int (nI s)), (2, .int (nI l))]) (st' := [.int 0]) (μ' := z_ui μ 50 0 0) (by rfl) ?_
      exact hr 0 51 _ _ _ (some (.int 0)) (by decide +kernel) (z_rx_ok hH (by rfl)) (⟨rfl, rfl⟩)
    · have h2 : (decide ((nI c) < (nI l))) = false := decide_eq_false (cn_lt.mp h2)
      exact absurd (Eq.trans (Eq.symm (hl1)) h2) (by decide)
theorem mr_runG (d : Nat) (hd : 4 ≤ d) (μ : zM) (s l c : Nat) (hs4 : s < 4) (hl : l + 2 ≤ 33) (hc49 : μ.1 50 49 = nI c) (t u1 : Nat) (ht4 : t < 4) (ht : μ.1 50 45 = nI t) (hu1 : (t + 1) % 4 = u1) (hu14 : u1 < 4) (hmc : ∀ d, 2 ≤ d → z_C d mi_X7_mayClaim [.ref 50, .int (nI s)] (z_ui μ 50 0 0) (zR (z_ui μ 50 0 0) (.int 1))) (hsu : decide (nI s = nI u1) = true) (hsr : ∀ d, 1 ≤ d → z_C d mi_X7_isRun [.int (nI l)] (z_ui μ 50 0 0) (zR (z_ui μ 50 0 0) (.int 1))) (hl1 : decide (nI c < nI l) = false) (hl2 : decide (nI c ≤ nI (l + 2)) = false) : z_C d mi_X7_run [.ref 50, .int (nI s), .int (nI l)] μ (fun r μ' => r = some (.int 0) ∧ μ' = z_ui μ 50 0 0) := by
  refine z_C_in (by decide) (by omega) (fun d' Z ed hc hr => ?_)
  have hH : zH mi_X7_run zt_X7_run 79 7 5 := hh_X7_run
  refine z_rcs hc hH 2 (pc' := 2) (lv' := [(0, .ref 50), (1, .int (nI s)), (2, .int (nI l))]) (st' := [.int 0, .ref 50]) (μ' := μ) (by rfl) ?_
  refine zq_pfi hc hH (by rfl) (ci := 6) (f := 0) (by rfl) (by decide +kernel) (by rfl) ?_
  show Z 0 5 [(0, .ref 50), (1, .int (nI s)), (2, .int (nI l))] [] (z_ui μ 50 0 0)
  refine z_rcs hc hH 2 (pc' := 7) (lv' := [(0, .ref 50), (1, .int (nI s)), (2, .int (nI l))]) (st' := [.int (nI s), .ref 50]) (μ' := z_ui μ 50 0 0) (by rfl) ?_
  refine zq_call hc (z_cx_ok hH (by rfl)) (hmc d' (by omega)) (by decide +kernel) (fun r9 μ9 hq => ?_)
  obtain ⟨hμ9, rfl⟩ := hq
  rw [hμ9]
  clear hμ9 μ9
  show Z 0 10 [(0, .ref 50), (1, .int (nI s)), (2, .int (nI l))] [.int 1] (z_ui μ 50 0 0)
  refine z_rcs hc hH 3 (pc' := 15) (lv' := [(0, .ref 50), (1, .int (nI s)), (2, .int (nI l))]) (st' := [.ref 50, .int (nI s)]) (μ' := z_ui μ 50 0 0) (by rfl) ?_
  refine zq_gfi hc hH (by rfl) (ci := 6) (f := 45) (by rfl) (by decide +kernel) (by rfl) ?_
  refine zV1 (Z := Z) (ui_k (by first | decide | omega)) ?_
  rw [ht]
  refine z_rcs hc hH 2 (pc' := 20) (lv' := [(0, .ref 50), (1, .int (nI s)), (2, .int (nI l))]) (st' := [.int ((nI t) + 1), .int (nI s)]) (μ' := z_ui μ 50 0 0) (by rfl) ?_
  rw [nI_s1]
  refine z_rcs hc hH 2 (pc' := 22) (lv' := [(0, .ref 50), (1, .int (nI s)), (2, .int (nI l))]) (st' := [.int ((nI (t + 1)) - (nI (t + 1)) / 4 * 4), .int (nI s)]) (μ' := z_ui μ 50 0 0) (by rfl) ?_
  rw [show nI (t + 1) - nI (t + 1) / 4 * 4 = nI u1 from by rw [rm4 _ (by omega), hu1]]
  refine zq_ic hc hH (by rfl) (tg := 50) (by rfl) (fun h1 => ?_) (fun h1 => ?_)
  · have h1 : (decide ((nI s) = (nI u1))) = false := decide_eq_false (cm_ne.mp h1)
    exact absurd (Eq.trans (Eq.symm (hsu)) h1) (by decide)
  · have h1 : (decide ((nI s) = (nI u1))) = true := decide_eq_true (cn_ne.mp h1)
    refine z_rcs hc hH 1 (pc' := 26) (lv' := [(0, .ref 50), (1, .int (nI s)), (2, .int (nI l))]) (st' := [.int (nI l)]) (μ' := z_ui μ 50 0 0) (by rfl) ?_
    refine zq_call hc (z_cx_ok hH (by rfl)) (hsr d' (by omega)) (by decide +kernel) (fun r9 μ9 hq => ?_)
    obtain ⟨hμ9, rfl⟩ := hq
    rw [hμ9]
    clear hμ9 μ9
    show Z 0 29 [(0, .ref 50), (1, .int (nI s)), (2, .int (nI l))] [.int 1] (z_ui μ 50 0 0)
    refine z_rcs hc hH 2 (pc' := 33) (lv' := [(0, .ref 50), (1, .int (nI s)), (2, .int (nI l))]) (st' := [.ref 50]) (μ' := z_ui μ 50 0 0) (by rfl) ?_
    refine zq_gfi hc hH (by rfl) (ci := 6) (f := 49) (by rfl) (by decide +kernel) (by rfl) ?_
    refine zV1 (Z := Z) (ui_k (by first | decide | omega)) ?_
    rw [hc49]
    refine z_rcs hc hH 1 (pc' := 37) (lv' := [(0, .ref 50), (1, .int (nI s)), (2, .int (nI l))]) (st' := [.int (nI l), .int (nI c)]) (μ' := z_ui μ 50 0 0) (by rfl) ?_
    refine zq_ic hc hH (by rfl) (tg := 50) (by rfl) (fun h2 => ?_) (fun h2 => ?_)
    · have h2 : (decide ((nI c) < (nI l))) = true := decide_eq_true (cm_lt.mp h2)
      exact absurd (Eq.trans (Eq.symm (hl1)) h2) (by decide)
    · have h2 : (decide ((nI c) < (nI l))) = false := decide_eq_false (cn_lt.mp h2)
      refine z_rcs hc hH 1 (pc' := 41) (lv' := [(0, .ref 50), (1, .int (nI s)), (2, .int (nI l))]) (st' := [.ref 50]) (μ' := z_ui μ 50 0 0) (by rfl) ?_
      refine zq_gfi hc hH (by rfl) (ci := 6) (f := 49) (by rfl) (by decide +kernel) (by rfl) ?_
      refine zV1 (Z := Z) (ui_k (by first | decide | omega)) ?_
      rw [hc49]
      refine z_rcs hc hH 3 (pc' := 47) (lv' := [(0, .ref 50), (1, .int (nI s)), (2, .int (nI l))]) (st' := [.int ((nI l) + 2), .int (nI c)]) (μ' := z_ui μ 50 0 0) (by rfl) ?_
      rw [show nI l + 2 = nI (l + 2) from nI_add l 2]
      refine zq_ic hc hH (by rfl) (tg := 52) (by rfl) (fun h3 => ?_) (fun h3 => ?_)
      · have h3 : (decide ((nI c) ≤ (nI (l + 2)))) = true := decide_eq_true (cm_le.mp h3)
        exact absurd (Eq.trans (Eq.symm (hl2)) h3) (by decide)
      · have h3 : (decide ((nI c) ≤ (nI (l + 2)))) = false := decide_eq_false (cn_le.mp h3)
        refine z_rcs hc hH 1 (pc' := 51) (lv' := [(0, .ref 50), (1, .int (nI s)), (2, .int (nI l))]) (st' := [.int 0]) (μ' := z_ui μ 50 0 0) (by rfl) ?_
        exact hr 0 51 _ _ _ (some (.int 0)) (by decide +kernel) (z_rx_ok hH (by rfl)) (⟨rfl, rfl⟩)
theorem mr_runA0 (d : Nat) (hd : 4 ≤ d) (μ : zM) (s l : Nat) (hs4 : s < 4) (hl : l + 2 ≤ 33) (hc49 : μ.1 50 49 = nI l) (t u1 : Nat) (ht4 : t < 4) (ht : μ.1 50 45 = nI t) (hu1 : (t + 1) % 4 = u1) (hu14 : u1 < 4) (hmc : ∀ d, 2 ≤ d → z_C d mi_X7_mayClaim [.ref 50, .int (nI s)] (z_ui μ 50 0 0) (zR (z_ui μ 50 0 0) (.int 1))) (hsu : decide (nI s = nI u1) = true) (hsr : ∀ d, 1 ≤ d → z_C d mi_X7_isRun [.int (nI l)] (z_ui μ 50 0 0) (zR (z_ui μ 50 0 0) (.int 1))) (hz1 : decide (μ.1 60 (34 * s + (l + 1)) = 0) = true) : z_C d mi_X7_run [.ref 50, .int (nI s), .int (nI l)] μ (fun r μ' => r = some (.int 0) ∧ μ' = z_ui μ 50 0 0) := by
  refine z_C_in (by decide) (by omega) (fun d' Z ed hc hr => ?_)
  have hH : zH mi_X7_run zt_X7_run 79 7 5 := hh_X7_run
  refine z_rcs hc hH 2 (pc' := 2) (lv' := [(0, .ref 50), (1, .int (nI s)), (2, .int (nI l))]) (st' := [.int 0, .ref 50]) (μ' := μ) (by rfl) ?_
  refine zq_pfi hc hH (by rfl) (ci := 6) (f := 0) (by rfl) (by decide +kernel) (by rfl) ?_
  show Z 0 5 [(0, .ref 50), (1, .int (nI s)), (2, .int (nI l))] [] (z_ui μ 50 0 0)
  refine z_rcs hc hH 2 (pc' := 7) (lv' := [(0, .ref 50), (1, .int (nI s)), (2, .int (nI l))]) (st' := [.int (nI s), .ref 50]) (μ' := z_ui μ 50 0 0) (by rfl) ?_
  refine zq_call hc (z_cx_ok hH (by rfl)) (hmc d' (by omega)) (by decide +kernel) (fun r9 μ9 hq => ?_)
  obtain ⟨hμ9, rfl⟩ := hq
  rw [hμ9]
  clear hμ9 μ9
  show Z 0 10 [(0, .ref 50), (1, .int (nI s)), (2, .int (nI l))] [.int 1] (z_ui μ 50 0 0)
  refine z_rcs hc hH 3 (pc' := 15) (lv' := [(0, .ref 50), (1, .int (nI s)), (2, .int (nI l))]) (st' := [.ref 50, .int (nI s)]) (μ' := z_ui μ 50 0 0) (by rfl) ?_
  refine zq_gfi hc hH (by rfl) (ci := 6) (f := 45) (by rfl) (by decide +kernel) (by rfl) ?_
  refine zV1 (Z := Z) (ui_k (by first | decide | omega)) ?_
  rw [ht]
  refine z_rcs hc hH 2 (pc' := 20) (lv' := [(0, .ref 50), (1, .int (nI s)), (2, .int (nI l))]) (st' := [.int ((nI t) + 1), .int (nI s)]) (μ' := z_ui μ 50 0 0) (by rfl) ?_
  rw [nI_s1]
  refine z_rcs hc hH 2 (pc' := 22) (lv' := [(0, .ref 50), (1, .int (nI s)), (2, .int (nI l))]) (st' := [.int ((nI (t + 1)) - (nI (t + 1)) / 4 * 4), .int (nI s)]) (μ' := z_ui μ 50 0 0) (by rfl) ?_
  rw [show nI (t + 1) - nI (t + 1) / 4 * 4 = nI u1 from by rw [rm4 _ (by omega), hu1]]
  refine zq_ic hc hH (by rfl) (tg := 50) (by rfl) (fun h1 => ?_) (fun h1 => ?_)
  · have h1 : (decide ((nI s) = (nI u1))) = false := decide_eq_false (cm_ne.mp h1)
    exact absurd (Eq.trans (Eq.symm (hsu)) h1) (by decide)
  · have h1 : (decide ((nI s) = (nI u1))) = true := decide_eq_true (cn_ne.mp h1)
    refine z_rcs hc hH 1 (pc' := 26) (lv' := [(0, .ref 50), (1, .int (nI s)), (2, .int (nI l))]) (st' := [.int (nI l)]) (μ' := z_ui μ 50 0 0) (by rfl) ?_
    refine zq_call hc (z_cx_ok hH (by rfl)) (hsr d' (by omega)) (by decide +kernel) (fun r9 μ9 hq => ?_)
    obtain ⟨hμ9, rfl⟩ := hq
    rw [hμ9]
    clear hμ9 μ9
    show Z 0 29 [(0, .ref 50), (1, .int (nI s)), (2, .int (nI l))] [.int 1] (z_ui μ 50 0 0)
    refine z_rcs hc hH 2 (pc' := 33) (lv' := [(0, .ref 50), (1, .int (nI s)), (2, .int (nI l))]) (st' := [.ref 50]) (μ' := z_ui μ 50 0 0) (by rfl) ?_
    refine zq_gfi hc hH (by rfl) (ci := 6) (f := 49) (by rfl) (by decide +kernel) (by rfl) ?_
    refine zV1 (Z := Z) (ui_k (by first | decide | omega)) ?_
    rw [hc49]
    refine z_rcs hc hH 1 (pc' := 37) (lv' := [(0, .ref 50), (1, .int (nI s)), (2, .int (nI l))]) (st' := [.int (nI l), .int (nI l)]) (μ' := z_ui μ 50 0 0) (by rfl) ?_
    refine zq_ic hc hH (by rfl) (tg := 50) (by rfl) (fun h2 => ?_) (fun h2 => ?_)
    · have h2 : (decide ((nI l) < (nI l))) = true := decide_eq_true (cm_lt.mp h2)
      exact absurd (Eq.trans (Eq.symm (kn_nlg (by omega) (by omega) (by omega))) h2) (by decide)
    · have h2 : (decide ((nI l) < (nI l))) = false := decide_eq_false (cn_lt.mp h2)
      refine z_rcs hc hH 1 (pc' := 41) (lv' := [(0, .ref 50), (1, .int (nI s)), (2, .int (nI l))]) (st' := [.ref 50]) (μ' := z_ui μ 50 0 0) (by rfl) ?_
      refine zq_gfi hc hH (by rfl) (ci := 6) (f := 49) (by rfl) (by decide +kernel) (by rfl) ?_
      refine zV1 (Z := Z) (ui_k (by first | decide | omega)) ?_
      rw [hc49]
      refine z_rcs hc hH 3 (pc' := 47) (lv' := [(0, .ref 50), (1, .int (nI s)), (2, .int (nI l))]) (st' := [.int ((nI l) + 2), .int (nI l)]) (μ' := z_ui μ 50 0 0) (by rfl) ?_
      rw [show nI l + 2 = nI (l + 2) from nI_add l 2]
      refine zq_ic hc hH (by rfl) (tg := 52) (by rfl) (fun h3 => ?_) (fun h3 => ?_)
      · have h3 : (decide ((nI l) ≤ (nI (l + 2)))) = true := decide_eq_true (cm_le.mp h3)
        refine z_rcs hc hH 6 (pc' := 58) (lv' := [(3, .int (nI l)), (0, .ref 50), (1, .int (nI s)), (2, .int (nI l))]) (st' := [.int ((nI l) + 3), .int (nI l)]) (μ' := z_ui μ 50 0 0) (by rfl) ?_
        rw [show nI l + 3 = nI (l + 3) from nI_add l 3]
        refine zq_ic hc hH (by rfl) (tg := 86) (by rfl) (fun h4 => ?_) (fun h4 => ?_)
        · have h4 : (decide ((nI (l + 3)) ≤ (nI l))) = true := decide_eq_true (cm_ge.mp h4)
          exact absurd (Eq.trans (Eq.symm (kn_nlf (by omega) (by omega) (by omega))) h4) (by decide)
        · have h4 : (decide ((nI (l + 3)) ≤ (nI l))) = false := decide_eq_false (cn_ge.mp h4)
          refine z_rcs hc hH 2 (pc' := 63) (lv' := [(3, .int (nI l)), (0, .ref 50), (1, .int (nI s)), (2, .int (nI l))]) (st' := [.ref 50, .int (nI l)]) (μ' := z_ui μ 50 0 0) (by rfl) ?_
          refine zq_gfi hc hH (by rfl) (ci := 6) (f := 49) (by rfl) (by decide +kernel) (by rfl) ?_
          refine zV1 (Z := Z) (ui_k (by first | decide | omega)) ?_
          rw [hc49]
          refine zq_ic hc hH (by rfl) (tg := 80) (by rfl) (fun h5 => ?_) (fun h5 => ?_)
          · have h5 : (decide ((nI l) = (nI l))) = true := decide_eq_true (cm_eq9.mp h5)
            refine z_rcs hc hH 3 (pc' := 55) (lv' := [(3, .int ((nI l) + 1)), (0, .ref 50), (1, .int (nI s)), (2, .int (nI l))]) (st' := [.int ((nI l) + 1)]) (μ' := z_ui μ 50 0 0) (by rfl) ?_
            rw [nI_s1]
            refine z_rcs hc hH 3 (pc' := 58) (lv' := [(3, .int (nI (l + 1))), (0, .ref 50), (1, .int (nI s)), (2, .int (nI l))]) (st' := [.int ((nI l) + 3), .int (nI (l + 1))]) (μ' := z_ui μ 50 0 0) (by rfl) ?_
            rw [show nI l + 3 = nI (l + 3) from nI_add l 3]
            refine zq_ic hc hH (by rfl) (tg := 86) (by rfl) (fun h6 => ?_) (fun h6 => ?_)
            · have h6 : (decide ((nI (l + 3)) ≤ (nI (l + 1)))) = true := decide_eq_true (cm_ge.mp h6)
              exact absurd (Eq.trans (Eq.symm (kn_nlf (by omega) (by omega) (by omega))) h6) (by decide)
            · have h6 : (decide ((nI (l + 3)) ≤ (nI (l + 1)))) = false := decide_eq_false (cn_ge.mp h6)
              refine z_rcs hc hH 2 (pc' := 63) (lv' := [(3, .int (nI (l + 1))), (0, .ref 50), (1, .int (nI s)), (2, .int (nI l))]) (st' := [.ref 50, .int (nI (l + 1))]) (μ' := z_ui μ 50 0 0) (by rfl) ?_
              refine zq_gfi hc hH (by rfl) (ci := 6) (f := 49) (by rfl) (by decide +kernel) (by rfl) ?_
              refine zV1 (Z := Z) (ui_k (by first | decide | omega)) ?_
              rw [hc49]
              refine zq_ic hc hH (by rfl) (tg := 80) (by rfl) (fun h7 => ?_) (fun h7 => ?_)
              · have h7 : (decide ((nI (l + 1)) = (nI l))) = true := decide_eq_true (cm_eq9.mp h7)
                exact absurd (Eq.trans (Eq.symm (kn_ne (by omega) (by omega) (by omega))) h7) (by decide)
              · have h7 : (decide ((nI (l + 1)) = (nI l))) = false := decide_eq_false (cn_eq.mp h7)
                refine z_rcs hc hH 3 (pc' := 72) (lv' := [(3, .int (nI (l + 1))), (0, .ref 50), (1, .int (nI s)), (2, .int (nI l))]) (st' := [.int (nI (l + 1)), .int (nI s), .ref 50]) (μ' := z_ui μ 50 0 0) (by rfl) ?_
                refine zq_call hc (z_cx_ok hH (by rfl)) (fc_X7_has_ d' (by omega) (z_ui μ 50 0 0) s (l + 1) hs4 (by omega)) (by decide +kernel) (fun r9 μ9 hq => ?_)
                obtain ⟨hμ9, rfl⟩ := hq
                rw [hμ9]
                clear hμ9 μ9
                rw [ui_o (by first | decide | omega)]
                show Z 0 75 [(3, .int (nI (l + 1))), (0, .ref 50), (1, .int (nI s)), (2, .int (nI l))] [.int (μ.1 60 (34 * s + (l + 1)))] (z_ui μ 50 0 0)
                refine zq_if hc hH (by rfl) (tg := 80) (by rfl) (fun h8 => ?_) (fun h8 => ?_)
                · have h8 : (decide ((μ.1 60 (34 * s + (l + 1))) = 0)) = false := decide_eq_false (cm_ne.mp h8)
                  exact absurd (Eq.trans (Eq.symm (hz1)) h8) (by decide)
                · have h8 : (decide ((μ.1 60 (34 * s + (l + 1))) = 0)) = true := decide_eq_true (cn_ne.mp h8)
                  refine z_rcs hc hH 1 (pc' := 79) (lv' := [(3, .int (nI (l + 1))), (0, .ref 50), (1, .int (nI s)), (2, .int (nI l))]) (st' := [.int 0]) (μ' := z_ui μ 50 0 0) (by rfl) ?_
                  exact hr 0 79 _ _ _ (some (.int 0)) (by decide +kernel) (z_rx_ok hH (by rfl)) (⟨rfl, rfl⟩)
          · have h5 : (decide ((nI l) = (nI l))) = false := decide_eq_false (cn_eq.mp h5)
            exact absurd (Eq.trans (Eq.symm (kn_eq rfl)) h5) (by decide)
      · have h3 : (decide ((nI l) ≤ (nI (l + 2)))) = false := decide_eq_false (cn_le.mp h3)
        exact absurd (Eq.trans (Eq.symm (kn_nle (by omega) (by omega) (by omega))) h3) (by decide)
theorem mr_runB0 (d : Nat) (hd : 4 ≤ d) (μ : zM) (s l : Nat) (hs4 : s < 4) (hl : l + 2 ≤ 33) (hc49 : μ.1 50 49 = nI l) (t u1 : Nat) (ht4 : t < 4) (ht : μ.1 50 45 = nI t) (hu1 : (t + 1) % 4 = u1) (hu14 : u1 < 4) (hmc : ∀ d, 2 ≤ d → z_C d mi_X7_mayClaim [.ref 50, .int (nI s)] (z_ui μ 50 0 0) (zR (z_ui μ 50 0 0) (.int 1))) (hsu : decide (nI s = nI u1) = true) (hsr : ∀ d, 1 ≤ d → z_C d mi_X7_isRun [.int (nI l)] (z_ui μ 50 0 0) (zR (z_ui μ 50 0 0) (.int 1))) (hz1 : decide (μ.1 60 (34 * s + (l + 1)) = 0) = false) (hz2 : decide (μ.1 60 (34 * s + (l + 2)) = 0) = true) : z_C d mi_X7_run [.ref 50, .int (nI s), .int (nI l)] μ (fun r μ' => r = some (.int 0) ∧ μ' = z_ui μ 50 0 0) := by
  refine z_C_in (by decide) (by omega) (fun d' Z ed hc hr => ?_)
  have hH : zH mi_X7_run zt_X7_run 79 7 5 := hh_X7_run
  refine z_rcs hc hH 2 (pc' := 2) (lv' := [(0, .ref 50), (1, .int (nI s)), (2, .int (nI l))]) (st' := [.int 0, .ref 50]) (μ' := μ) (by rfl) ?_
  refine zq_pfi hc hH (by rfl) (ci := 6) (f := 0) (by rfl) (by decide +kernel) (by rfl) ?_
  show Z 0 5 [(0, .ref 50), (1, .int (nI s)), (2, .int (nI l))] [] (z_ui μ 50 0 0)
  refine z_rcs hc hH 2 (pc' := 7) (lv' := [(0, .ref 50), (1, .int (nI s)), (2, .int (nI l))]) (st' := [.int (nI s), .ref 50]) (μ' := z_ui μ 50 0 0) (by rfl) ?_
  refine zq_call hc (z_cx_ok hH (by rfl)) (hmc d' (by omega)) (by decide +kernel) (fun r9 μ9 hq => ?_)
  obtain ⟨hμ9, rfl⟩ := hq
  rw [hμ9]
  clear hμ9 μ9
  show Z 0 10 [(0, .ref 50), (1, .int (nI s)), (2, .int (nI l))] [.int 1] (z_ui μ 50 0 0)
  refine z_rcs hc hH 3 (pc' := 15) (lv' := [(0, .ref 50), (1, .int (nI s)), (2, .int (nI l))]) (st' := [.ref 50, .int (nI s)]) (μ' := z_ui μ 50 0 0) (by rfl) ?_
  refine zq_gfi hc hH (by rfl) (ci := 6) (f := 45) (by rfl) (by decide +kernel) (by rfl) ?_
  refine zV1 (Z := Z) (ui_k (by first | decide | omega)) ?_
  rw [ht]
  refine z_rcs hc hH 2 (pc' := 20) (lv' := [(0, .ref 50), (1, .int (nI s)), (2, .int (nI l))]) (st' := [.int ((nI t) + 1), .int (nI s)]) (μ' := z_ui μ 50 0 0) (by rfl) ?_
  rw [nI_s1]
  refine z_rcs hc hH 2 (pc' := 22) (lv' := [(0, .ref 50), (1, .int (nI s)), (2, .int (nI l))]) (st' := [.int ((nI (t + 1)) - (nI (t + 1)) / 4 * 4), .int (nI s)]) (μ' := z_ui μ 50 0 0) (by rfl) ?_
  rw [show nI (t + 1) - nI (t + 1) / 4 * 4 = nI u1 from by rw [rm4 _ (by omega), hu1]]
  refine zq_ic hc hH (by rfl) (tg := 50) (by rfl) (fun h1 => ?_) (fun h1 => ?_)
  · have h1 : (decide ((nI s) = (nI u1))) = false := decide_eq_false (cm_ne.mp h1)
    exact absurd (Eq.trans (Eq.symm (hsu)) h1) (by decide)
  · have h1 : (decide ((nI s) = (nI u1))) = true := decide_eq_true (cn_ne.mp h1)
    refine z_rcs hc hH 1 (pc' := 26) (lv' := [(0, .ref 50), (1, .int (nI s)), (2, .int (nI l))]) (st' := [.int (nI l)]) (μ' := z_ui μ 50 0 0) (by rfl) ?_
    refine zq_call hc (z_cx_ok hH (by rfl)) (hsr d' (by omega)) (by decide +kernel) (fun r9 μ9 hq => ?_)
    obtain ⟨hμ9, rfl⟩ := hq
    rw [hμ9]
    clear hμ9 μ9
    show Z 0 29 [(0, .ref 50), (1, .int (nI s)), (2, .int (nI l))] [.int 1] (z_ui μ 50 0 0)
    refine z_rcs hc hH 2 (pc' := 33) (lv' := [(0, .ref 50), (1, .int (nI s)), (2, .int (nI l))]) (st' := [.ref 50]) (μ' := z_ui μ 50 0 0) (by rfl) ?_
    refine zq_gfi hc hH (by rfl) (ci := 6) (f := 49) (by rfl) (by decide +kernel) (by rfl) ?_
    refine zV1 (Z := Z) (ui_k (by first | decide | omega)) ?_
    rw [hc49]
    refine z_rcs hc hH 1 (pc' := 37) (lv' := [(0, .ref 50), (1, .int (nI s)), (2, .int (nI l))]) (st' := [.int (nI l), .int (nI l)]) (μ' := z_ui μ 50 0 0) (by rfl) ?_
    refine zq_ic hc hH (by rfl) (tg := 50) (by rfl) (fun h2 => ?_) (fun h2 => ?_)
    · have h2 : (decide ((nI l) < (nI l))) = true := decide_eq_true (cm_lt.mp h2)
      exact absurd (Eq.trans (Eq.symm (kn_nlg (by omega) (by omega) (by omega))) h2) (by decide)
    · have h2 : (decide ((nI l) < (nI l))) = false := decide_eq_false (cn_lt.mp h2)
      refine z_rcs hc hH 1 (pc' := 41) (lv' := [(0, .ref 50), (1, .int (nI s)), (2, .int (nI l))]) (st' := [.ref 50]) (μ' := z_ui μ 50 0 0) (by rfl) ?_
      refine zq_gfi hc hH (by rfl) (ci := 6) (f := 49) (by rfl) (by decide +kernel) (by rfl) ?_
      refine zV1 (Z := Z) (ui_k (by first | decide | omega)) ?_
      rw [hc49]
      refine z_rcs hc hH 3 (pc' := 47) (lv' := [(0, .ref 50), (1, .int (nI s)), (2, .int (nI l))]) (st' := [.int ((nI l) + 2), .int (nI l)]) (μ' := z_ui μ 50 0 0) (by rfl) ?_
      rw [show nI l + 2 = nI (l + 2) from nI_add l 2]
      refine zq_ic hc hH (by rfl) (tg := 52) (by rfl) (fun h3 => ?_) (fun h3 => ?_)
      · have h3 : (decide ((nI l) ≤ (nI (l + 2)))) = true := decide_eq_true (cm_le.mp h3)
        refine z_rcs hc hH 6 (pc' := 58) (lv' := [(3, .int (nI l)), (0, .ref 50), (1, .int (nI s)), (2, .int (nI l))]) (st' := [.int ((nI l) + 3), .int (nI l)]) (μ' := z_ui μ 50 0 0) (by rfl) ?_
        rw [show nI l + 3 = nI (l + 3) from nI_add l 3]
        refine zq_ic hc hH (by rfl) (tg := 86) (by rfl) (fun h4 => ?_) (fun h4 => ?_)
        · have h4 : (decide ((nI (l + 3)) ≤ (nI l))) = true := decide_eq_true (cm_ge.mp h4)
          exact absurd (Eq.trans (Eq.symm (kn_nlf (by omega) (by omega) (by omega))) h4) (by decide)
        · have h4 : (decide ((nI (l + 3)) ≤ (nI l))) = false := decide_eq_false (cn_ge.mp h4)
          refine z_rcs hc hH 2 (pc' := 63) (lv' := [(3, .int (nI l)), (0, .ref 50), (1, .int (nI s)), (2, .int (nI l))]) (st' := [.ref 50, .int (nI l)]) (μ' := z_ui μ 50 0 0) (by rfl) ?_
          refine zq_gfi hc hH (by rfl) (ci := 6) (f := 49) (by rfl) (by decide +kernel) (by rfl) ?_
          refine zV1 (Z := Z) (ui_k (by first | decide | omega)) ?_
          rw [hc49]
          refine zq_ic hc hH (by rfl) (tg := 80) (by rfl) (fun h5 => ?_) (fun h5 => ?_)
          · have h5 : (decide ((nI l) = (nI l))) = true := decide_eq_true (cm_eq9.mp h5)
            refine z_rcs hc hH 3 (pc' := 55) (lv' := [(3, .int ((nI l) + 1)), (0, .ref 50), (1, .int (nI s)), (2, .int (nI l))]) (st' := [.int ((nI l) + 1)]) (μ' := z_ui μ 50 0 0) (by rfl) ?_
            rw [nI_s1]
            refine z_rcs hc hH 3 (pc' := 58) (lv' := [(3, .int (nI (l + 1))), (0, .ref 50), (1, .int (nI s)), (2, .int (nI l))]) (st' := [.int ((nI l) + 3), .int (nI (l + 1))]) (μ' := z_ui μ 50 0 0) (by rfl) ?_
            rw [show nI l + 3 = nI (l + 3) from nI_add l 3]
            refine zq_ic hc hH (by rfl) (tg := 86) (by rfl) (fun h6 => ?_) (fun h6 => ?_)
            · have h6 : (decide ((nI (l + 3)) ≤ (nI (l + 1)))) = true := decide_eq_true (cm_ge.mp h6)
              exact absurd (Eq.trans (Eq.symm (kn_nlf (by omega) (by omega) (by omega))) h6) (by decide)
            · have h6 : (decide ((nI (l + 3)) ≤ (nI (l + 1)))) = false := decide_eq_false (cn_ge.mp h6)
              refine z_rcs hc hH 2 (pc' := 63) (lv' := [(3, .int (nI (l + 1))), (0, .ref 50), (1, .int (nI s)), (2, .int (nI l))]) (st' := [.ref 50, .int (nI (l + 1))]) (μ' := z_ui μ 50 0 0) (by rfl) ?_
              refine zq_gfi hc hH (by rfl) (ci := 6) (f := 49) (by rfl) (by decide +kernel) (by rfl) ?_
              refine zV1 (Z := Z) (ui_k (by first | decide | omega)) ?_
              rw [hc49]
              refine zq_ic hc hH (by rfl) (tg := 80) (by rfl) (fun h7 => ?_) (fun h7 => ?_)
              · have h7 : (decide ((nI (l + 1)) = (nI l))) = true := decide_eq_true (cm_eq9.mp h7)
                exact absurd (Eq.trans (Eq.symm (kn_ne (by omega) (by omega) (by omega))) h7) (by decide)
              · have h7 : (decide ((nI (l + 1)) = (nI l))) = false := decide_eq_false (cn_eq.mp h7)
                refine z_rcs hc hH 3 (pc' := 72) (lv' := [(3, .int (nI (l + 1))), (0, .ref 50), (1, .int (nI s)), (2, .int (nI l))]) (st' := [.int (nI (l + 1)), .int (nI s), .ref 50]) (μ' := z_ui μ 50 0 0) (by rfl) ?_
                refine zq_call hc (z_cx_ok hH (by rfl)) (fc_X7_has_ d' (by omega) (z_ui μ 50 0 0) s (l + 1) hs4 (by omega)) (by decide +kernel) (fun r9 μ9 hq => ?_)
                obtain ⟨hμ9, rfl⟩ := hq
                rw [hμ9]
                clear hμ9 μ9
                rw [ui_o (by first | decide | omega)]
                show Z 0 75 [(3, .int (nI (l + 1))), (0, .ref 50), (1, .int (nI s)), (2, .int (nI l))] [.int (μ.1 60 (34 * s + (l + 1)))] (z_ui μ 50 0 0)
                refine zq_if hc hH (by rfl) (tg := 80) (by rfl) (fun h8 => ?_) (fun h8 => ?_)
                · have h8 : (decide ((μ.1 60 (34 * s + (l + 1))) = 0)) = false := decide_eq_false (cm_ne.mp h8)
                  refine z_rcs hc hH 3 (pc' := 55) (lv' := [(3, .int ((nI (l + 1)) + 1)), (0, .ref 50), (1, .int (nI s)), (2, .int (nI l))]) (st' := [.int ((nI (l + 1)) + 1)]) (μ' := z_ui μ 50 0 0) (by rfl) ?_
                  rw [show nI (l + 1) + 1 = nI (l + 2) from nI_s1 _]
                  refine z_rcs hc hH 3 (pc' := 58) (lv' := [(3, .int (nI (l + 2))), (0, .ref 50), (1, .int (nI s)), (2, .int (nI l))]) (st' := [.int ((nI l) + 3), .int (nI (l + 2))]) (μ' := z_ui μ 50 0 0) (by rfl) ?_
                  rw [show nI l + 3 = nI (l + 3) from nI_add l 3]
                  refine zq_ic hc hH (by rfl) (tg := 86) (by rfl) (fun h9 => ?_) (fun h9 => ?_)
                  · have h9 : (decide ((nI (l + 3)) ≤ (nI (l + 2)))) = true := decide_eq_true (cm_ge.mp h9)
                    exact absurd (Eq.trans (Eq.symm (kn_nlf (by omega) (by omega) (by omega))) h9) (by decide)
                  · have h9 : (decide ((nI (l + 3)) ≤ (nI (l + 2)))) = false := decide_eq_false (cn_ge.mp h9)
                    refine z_rcs hc hH 2 (pc' := 63) (lv' := [(3, .int (nI (l + 2))), (0, .ref 50), (1, .int (nI s)), (2, .int (nI l))]) (st' := [.ref 50, .int (nI (l + 2))]) (μ' := z_ui μ 50 0 0) (by rfl) ?_
                    refine zq_gfi hc hH (by rfl) (ci := 6) (f := 49) (by rfl) (by decide +kernel) (by rfl) ?_
                    refine zV1 (Z := Z) (ui_k (by first | decide | omega)) ?_
                    rw [hc49]
                    refine zq_ic hc hH (by rfl) (tg := 80) (by rfl) (fun h10 => ?_) (fun h10 => ?_)
                    · have h10 : (decide ((nI (l + 2)) = (nI l))) = true := decide_eq_true (cm_eq9.mp h10)
                      exact absurd (Eq.trans (Eq.symm (kn_ne (by omega) (by omega) (by omega))) h10) (by decide)
                    · have h10 : (decide ((nI (l + 2)) = (nI l))) = false := decide_eq_false (cn_eq.mp h10)
                      refine z_rcs hc hH 3 (pc' := 72) (lv' := [(3, .int (nI (l + 2))), (0, .ref 50), (1, .int (nI s)), (2, .int (nI l))]) (st' := [.int (nI (l + 2)), .int (nI s), .ref 50]) (μ' := z_ui μ 50 0 0) (by rfl) ?_
                      refine zq_call hc (z_cx_ok hH (by rfl)) (fc_X7_has_ d' (by omega) (z_ui μ 50 0 0) s (l + 2) hs4 (by omega)) (by decide +kernel) (fun r9 μ9 hq => ?_)
                      obtain ⟨hμ9, rfl⟩ := hq
                      rw [hμ9]
                      clear hμ9 μ9
                      rw [ui_o (by first | decide | omega)]
                      show Z 0 75 [(3, .int (nI (l + 2))), (0, .ref 50), (1, .int (nI s)), (2, .int (nI l))] [.int (μ.1 60 (34 * s + (l + 2)))] (z_ui μ 50 0 0)
                      refine zq_if hc hH (by rfl) (tg := 80) (by rfl) (fun h11 => ?_) (fun h11 => ?_)
                      · have h11 : (decide ((μ.1 60 (34 * s + (l + 2))) = 0)) = false := decide_eq_false (cm_ne.mp h11)
                        exact absurd (Eq.trans (Eq.symm (hz2)) h11) (by decide)
                      · have h11 : (decide ((μ.1 60 (34 * s + (l + 2))) = 0)) = true := decide_eq_true (cn_ne.mp h11)
                        refine z_rcs hc hH 1 (pc' := 79) (lv' := [(3, .int (nI (l + 2))), (0, .ref 50), (1, .int (nI s)), (2, .int (nI l))]) (st' := [.int 0]) (μ' := z_ui μ 50 0 0) (by rfl) ?_
                        exact hr 0 79 _ _ _ (some (.int 0)) (by decide +kernel) (z_rx_ok hH (by rfl)) (⟨rfl, rfl⟩)
                · have h8 : (decide ((μ.1 60 (34 * s + (l + 1))) = 0)) = true := decide_eq_true (cn_ne.mp h8)
                  exact absurd (Eq.trans (Eq.symm (hz1)) h8) (by decide)
          · have h5 : (decide ((nI l) = (nI l))) = false := decide_eq_false (cn_eq.mp h5)
            exact absurd (Eq.trans (Eq.symm (kn_eq rfl)) h5) (by decide)
      · have h3 : (decide ((nI l) ≤ (nI (l + 2)))) = false := decide_eq_false (cn_le.mp h3)
        exact absurd (Eq.trans (Eq.symm (kn_nle (by omega) (by omega) (by omega))) h3) (by decide)
theorem mr_runA1 (d : Nat) (hd : 4 ≤ d) (μ : zM) (s l : Nat) (hs4 : s < 4) (hl : l + 2 ≤ 33) (hc49 : μ.1 50 49 = nI (l + 1)) (t u1 : Nat) (ht4 : t < 4) (ht : μ.1 50 45 = nI t) (hu1 : (t + 1) % 4 = u1) (hu14 : u1 < 4) (hmc : ∀ d, 2 ≤ d → z_C d mi_X7_mayClaim [.ref 50, .int (nI s)] (z_ui μ 50 0 0) (zR (z_ui μ 50 0 0) (.int 1))) (hsu : decide (nI s = nI u1) = true) (hsr : ∀ d, 1 ≤ d → z_C d mi_X7_isRun [.int (nI l)] (z_ui μ 50 0 0) (zR (z_ui μ 50 0 0) (.int 1))) (hz1 : decide (μ.1 60 (34 * s + l) = 0) = true) : z_C d mi_X7_run [.ref 50, .int (nI s), .int (nI l)] μ (fun r μ' => r = some (.int 0) ∧ μ' = z_ui μ 50 0 0) := by
  refine z_C_in (by decide) (by omega) (fun d' Z ed hc hr => ?_)
  have hH : zH mi_X7_run zt_X7_run 79 7 5 := hh_X7_run
  refine z_rcs hc hH 2 (pc' := 2) (lv' := [(0, .ref 50), (1, .int (nI s)), (2, .int (nI l))]) (st' := [.int 0, .ref 50]) (μ' := μ) (by rfl) ?_
  refine zq_pfi hc hH (by rfl) (ci := 6) (f := 0) (by rfl) (by decide +kernel) (by rfl) ?_
  show Z 0 5 [(0, .ref 50), (1, .int (nI s)), (2, .int (nI l))] [] (z_ui μ 50 0 0)
  refine z_rcs hc hH 2 (pc' := 7) (lv' := [(0, .ref 50), (1, .int (nI s)), (2, .int (nI l))]) (st' := [.int (nI s), .ref 50]) (μ' := z_ui μ 50 0 0) (by rfl) ?_
  refine zq_call hc (z_cx_ok hH (by rfl)) (hmc d' (by omega)) (by decide +kernel) (fun r9 μ9 hq => ?_)
  obtain ⟨hμ9, rfl⟩ := hq
  rw [hμ9]
  clear hμ9 μ9
  show Z 0 10 [(0, .ref 50), (1, .int (nI s)), (2, .int (nI l))] [.int 1] (z_ui μ 50 0 0)
  refine z_rcs hc hH 3 (pc' := 15) (lv' := [(0, .ref 50), (1, .int (nI s)), (2, .int (nI l))]) (st' := [.ref 50, .int (nI s)]) (μ' := z_ui μ 50 0 0) (by rfl) ?_
  refine zq_gfi hc hH (by rfl) (ci := 6) (f := 45) (by rfl) (by decide +kernel) (by rfl) ?_
  refine zV1 (Z := Z) (ui_k (by first | decide | omega)) ?_
  rw [ht]
  refine z_rcs hc hH 2 (pc' := 20) (lv' := [(0, .ref 50), (1, .int (nI s)), (2, .int (nI l))]) (st' := [.int ((nI t) + 1), .int (nI s)]) (μ' := z_ui μ 50 0 0) (by rfl) ?_
  rw [nI_s1]
  refine z_rcs hc hH 2 (pc' := 22) (lv' := [(0, .ref 50), (1, .int (nI s)), (2, .int (nI l))]) (st' := [.int ((nI (t + 1)) - (nI (t + 1)) / 4 * 4), .int (nI s)]) (μ' := z_ui μ 50 0 0) (by rfl) ?_
  rw [show nI (t + 1) - nI (t + 1) / 4 * 4 = nI u1 from by rw [rm4 _ (by omega), hu1]]
  refine zq_ic hc hH (by rfl) (tg := 50) (by rfl) (fun h1 => ?_) (fun h1 => ?_)
  · have h1 : (decide ((nI s) = (nI u1))) = false := decide_eq_false (cm_ne.mp h1)
    exact absurd (Eq.trans (Eq.symm (hsu)) h1) (by decide)
  · have h1 : (decide ((nI s) = (nI u1))) = true := decide_eq_true (cn_ne.mp h1)
    refine z_rcs hc hH 1 (pc' := 26) (lv' := [(0, .ref 50), (1, .int (nI s)), (2, .int (nI l))]) (st' := [.int (nI l)]) (μ' := z_ui μ 50 0 0) (by rfl) ?_
    refine zq_call hc (z_cx_ok hH (by rfl)) (hsr d' (by omega)) (by decide +kernel) (fun r9 μ9 hq => ?_)
    obtain ⟨hμ9, rfl⟩ := hq
    rw [hμ9]
    clear hμ9 μ9
    show Z 0 29 [(0, .ref 50), (1, .int (nI s)), (2, .int (nI l))] [.int 1] (z_ui μ 50 0 0)
    refine z_rcs hc hH 2 (pc' := 33) (lv' := [(0, .ref 50), (1, .int (nI s)), (2, .int (nI l))]) (st' := [.ref 50]) (μ' := z_ui μ 50 0 0) (by rfl) ?_
    refine zq_gfi hc hH (by rfl) (ci := 6) (f := 49) (by rfl) (by decide +kernel) (by rfl) ?_
    refine zV1 (Z := Z) (ui_k (by first | decide | omega)) ?_
    rw [hc49]
    refine z_rcs hc hH 1 (pc' := 37) (lv' := [(0, .ref 50), (1, .int (nI s)), (2, .int (nI l))]) (st' := [.int (nI l), .int (nI (l + 1))]) (μ' := z_ui μ 50 0 0) (by rfl) ?_
    refine zq_ic hc hH (by rfl) (tg := 50) (by rfl) (fun h2 => ?_) (fun h2 => ?_)
    · have h2 : (decide ((nI (l + 1)) < (nI l))) = true := decide_eq_true (cm_lt.mp h2)
      exact absurd (Eq.trans (Eq.symm (kn_nlg (by omega) (by omega) (by omega))) h2) (by decide)
    · have h2 : (decide ((nI (l + 1)) < (nI l))) = false := decide_eq_false (cn_lt.mp h2)
      refine z_rcs hc hH 1 (pc' := 41) (lv' := [(0, .ref 50), (1, .int (nI s)), (2, .int (nI l))]) (st' := [.ref 50]) (μ' := z_ui μ 50 0 0) (by rfl) ?_
      refine zq_gfi hc hH (by rfl) (ci := 6) (f := 49) (by rfl) (by decide +kernel) (by rfl) ?_
      refine zV1 (Z := Z) (ui_k (by first | decide | omega)) ?_
      rw [hc49]
      refine z_rcs hc hH 3 (pc' := 47) (lv' := [(0, .ref 50), (1, .int (nI s)), (2, .int (nI l))]) (st' := [.int ((nI l) + 2), .int (nI (l + 1))]) (μ' := z_ui μ 50 0 0) (by rfl) ?_
      rw [show nI l + 2 = nI (l + 2) from nI_add l 2]
      refine zq_ic hc hH (by rfl) (tg := 52) (by rfl) (fun h3 => ?_) (fun h3 => ?_)
      · have h3 : (decide ((nI (l + 1)) ≤ (nI (l + 2)))) = true := decide_eq_true (cm_le.mp h3)
        refine z_rcs hc hH 6 (pc' := 58) (lv' := [(3, .int (nI l)), (0, .ref 50), (1, .int (nI s)), (2, .int (nI l))]) (st' := [.int ((nI l) + 3), .int (nI l)]) (μ' := z_ui μ 50 0 0) (by rfl) ?_
        rw [show nI l + 3 = nI (l + 3) from nI_add l 3]
        refine zq_ic hc hH (by rfl) (tg := 86) (by rfl) (fun h4 => ?_) (fun h4 => ?_)
        · have h4 : (decide ((nI (l + 3)) ≤ (nI l))) = true := decide_eq_true (cm_ge.mp h4)
          exact absurd (Eq.trans (Eq.symm (kn_nlf (by omega) (by omega) (by omega))) h4) (by decide)
        · have h4 : (decide ((nI (l + 3)) ≤ (nI l))) = false := decide_eq_false (cn_ge.mp h4)
          refine z_rcs hc hH 2 (pc' := 63) (lv' := [(3, .int (nI l)), (0, .ref 50), (1, .int (nI s)), (2, .int (nI l))]) (st' := [.ref 50, .int (nI l)]) (μ' := z_ui μ 50 0 0) (by rfl) ?_
          refine zq_gfi hc hH (by rfl) (ci := 6) (f := 49) (by rfl) (by decide +kernel) (by rfl) ?_
          refine zV1 (Z := Z) (ui_k (by first | decide | omega)) ?_
          rw [hc49]
          refine zq_ic hc hH (by rfl) (tg := 80) (by rfl) (fun h5 => ?_) (fun h5 => ?_)
          · have h5 : (decide ((nI l) = (nI (l + 1)))) = true := decide_eq_true (cm_eq9.mp h5)
            exact absurd (Eq.trans (Eq.symm (kn_ne (by omega) (by omega) (by omega))) h5) (by decide)
          · have h5 : (decide ((nI l) = (nI (l + 1)))) = false := decide_eq_false (cn_eq.mp h5)
            refine z_rcs hc hH 3 (pc' := 72) (lv' := [(3, .int (nI l)), (0, .ref 50), (1, .int (nI s)), (2, .int (nI l))]) (st' := [.int (nI l), .int (nI s), .ref 50]) (μ' := z_ui μ 50 0 0) (by rfl) ?_
            refine zq_call hc (z_cx_ok hH (by rfl)) (fc_X7_has_ d' (by omega) (z_ui μ 50 0 0) s l hs4 (by omega)) (by decide +kernel) (fun r9 μ9 hq => ?_)
            obtain ⟨hμ9, rfl⟩ := hq
            rw [hμ9]
            clear hμ9 μ9
            rw [ui_o (by first | decide | omega)]
            show Z 0 75 [(3, .int (nI l)), (0, .ref 50), (1, .int (nI s)), (2, .int (nI l))] [.int (μ.1 60 (34 * s + l))] (z_ui μ 50 0 0)
            refine zq_if hc hH (by rfl) (tg := 80) (by rfl) (fun h6 => ?_) (fun h6 => ?_)
            · have h6 : (decide ((μ.1 60 (34 * s + l)) = 0)) = false := decide_eq_false (cm_ne.mp h6)
              exact absurd (Eq.trans (Eq.symm (hz1)) h6) (by decide)
            · have h6 : (decide ((μ.1 60 (34 * s + l)) = 0)) = true := decide_eq_true (cn_ne.mp h6)
              refine z_rcs hc hH 1 (pc' := 79) (lv' := [(3, .int (nI l)), (0, .ref 50), (1, .int (nI s)), (2, .int (nI l))]) (st' := [.int 0]) (μ' := z_ui μ 50 0 0) (by rfl) ?_
              exact hr 0 79 _ _ _ (some (.int 0)) (by decide +kernel) (z_rx_ok hH (by rfl)) (⟨rfl, rfl⟩)
      · have h3 : (decide ((nI (l + 1)) ≤ (nI (l + 2)))) = false := decide_eq_false (cn_le.mp h3)
        exact absurd (Eq.trans (Eq.symm (kn_nle (by omega) (by omega) (by omega))) h3) (by decide)
theorem mr_runB1 (d : Nat) (hd : 4 ≤ d) (μ : zM) (s l : Nat) (hs4 : s < 4) (hl : l + 2 ≤ 33) (hc49 : μ.1 50 49 = nI (l + 1)) (t u1 : Nat) (ht4 : t < 4) (ht : μ.1 50 45 = nI t) (hu1 : (t + 1) % 4 = u1) (hu14 : u1 < 4) (hmc : ∀ d, 2 ≤ d → z_C d mi_X7_mayClaim [.ref 50, .int (nI s)] (z_ui μ 50 0 0) (zR (z_ui μ 50 0 0) (.int 1))) (hsu : decide (nI s = nI u1) = true) (hsr : ∀ d, 1 ≤ d → z_C d mi_X7_isRun [.int (nI l)] (z_ui μ 50 0 0) (zR (z_ui μ 50 0 0) (.int 1))) (hz1 : decide (μ.1 60 (34 * s + l) = 0) = false) (hz2 : decide (μ.1 60 (34 * s + (l + 2)) = 0) = true) : z_C d mi_X7_run [.ref 50, .int (nI s), .int (nI l)] μ (fun r μ' => r = some (.int 0) ∧ μ' = z_ui μ 50 0 0) := by
  refine z_C_in (by decide) (by omega) (fun d' Z ed hc hr => ?_)
  have hH : zH mi_X7_run zt_X7_run 79 7 5 := hh_X7_run
  refine z_rcs hc hH 2 (pc' := 2) (lv' := [(0, .ref 50), (1, .int (nI s)), (2, .int (nI l))]) (st' := [.int 0, .ref 50]) (μ' := μ) (by rfl) ?_
  refine zq_pfi hc hH (by rfl) (ci := 6) (f := 0) (by rfl) (by decide +kernel) (by rfl) ?_
  show Z 0 5 [(0, .ref 50), (1, .int (nI s)), (2, .int (nI l))] [] (z_ui μ 50 0 0)
  refine z_rcs hc hH 2 (pc' := 7) (lv' := [(0, .ref 50), (1, .int (nI s)), (2, .int (nI l))]) (st' := [.int (nI s), .ref 50]) (μ' := z_ui μ 50 0 0) (by rfl) ?_
  refine zq_call hc (z_cx_ok hH (by rfl)) (hmc d' (by omega)) (by decide +kernel) (fun r9 μ9 hq => ?_)
  obtain ⟨hμ9, rfl⟩ := hq
  rw [hμ9]
  clear hμ9 μ9
  show Z 0 10 [(0, .ref 50), (1, .int (nI s)), (2, .int (nI l))] [.int 1] (z_ui μ 50 0 0)
  refine z_rcs hc hH 3 (pc' := 15) (lv' := [(0, .ref 50), (1, .int (nI s)), (2, .int (nI l))]) (st' := [.ref 50, .int (nI s)]) (μ' := z_ui μ 50 0 0) (by rfl) ?_
  refine zq_gfi hc hH (by rfl) (ci := 6) (f := 45) (by rfl) (by decide +kernel) (by rfl) ?_
  refine zV1 (Z := Z) (ui_k (by first | decide | omega)) ?_
  rw [ht]
  refine z_rcs hc hH 2 (pc' := 20) (lv' := [(0, .ref 50), (1, .int (nI s)), (2, .int (nI l))]) (st' := [.int ((nI t) + 1), .int (nI s)]) (μ' := z_ui μ 50 0 0) (by rfl) ?_
  rw [nI_s1]
  refine z_rcs hc hH 2 (pc' := 22) (lv' := [(0, .ref 50), (1, .int (nI s)), (2, .int (nI l))]) (st' := [.int ((nI (t + 1)) - (nI (t + 1)) / 4 * 4), .int (nI s)]) (μ' := z_ui μ 50 0 0) (by rfl) ?_
  rw [show nI (t + 1) - nI (t + 1) / 4 * 4 = nI u1 from by rw [rm4 _ (by omega), hu1]]
  refine zq_ic hc hH (by rfl) (tg := 50) (by rfl) (fun h1 => ?_) (fun h1 => ?_)
  · have h1 : (decide ((nI s) = (nI u1))) = false := decide_eq_false (cm_ne.mp h1)
    exact absurd (Eq.trans (Eq.symm (hsu)) h1) (by decide)
  · have h1 : (decide ((nI s) = (nI u1))) = true := decide_eq_true (cn_ne.mp h1)
    refine z_rcs hc hH 1 (pc' := 26) (lv' := [(0, .ref 50), (1, .int (nI s)), (2, .int (nI l))]) (st' := [.int (nI l)]) (μ' := z_ui μ 50 0 0) (by rfl) ?_
    refine zq_call hc (z_cx_ok hH (by rfl)) (hsr d' (by omega)) (by decide +kernel) (fun r9 μ9 hq => ?_)
    obtain ⟨hμ9, rfl⟩ := hq
    rw [hμ9]
    clear hμ9 μ9
    show Z 0 29 [(0, .ref 50), (1, .int (nI s)), (2, .int (nI l))] [.int 1] (z_ui μ 50 0 0)
    refine z_rcs hc hH 2 (pc' := 33) (lv' := [(0, .ref 50), (1, .int (nI s)), (2, .int (nI l))]) (st' := [.ref 50]) (μ' := z_ui μ 50 0 0) (by rfl) ?_
    refine zq_gfi hc hH (by rfl) (ci := 6) (f := 49) (by rfl) (by decide +kernel) (by rfl) ?_
    refine zV1 (Z := Z) (ui_k (by first | decide | omega)) ?_
    rw [hc49]
    refine z_rcs hc hH 1 (pc' := 37) (lv' := [(0, .ref 50), (1, .int (nI s)), (2, .int (nI l))]) (st' := [.int (nI l), .int (nI (l + 1))]) (μ' := z_ui μ 50 0 0) (by rfl) ?_
    refine zq_ic hc hH (by rfl) (tg := 50) (by rfl) (fun h2 => ?_) (fun h2 => ?_)
    · have h2 : (decide ((nI (l + 1)) < (nI l))) = true := decide_eq_true (cm_lt.mp h2)
      exact absurd (Eq.trans (Eq.symm (kn_nlg (by omega) (by omega) (by omega))) h2) (by decide)
    · have h2 : (decide ((nI (l + 1)) < (nI l))) = false := decide_eq_false (cn_lt.mp h2)
      refine z_rcs hc hH 1 (pc' := 41) (lv' := [(0, .ref 50), (1, .int (nI s)), (2, .int (nI l))]) (st' := [.ref 50]) (μ' := z_ui μ 50 0 0) (by rfl) ?_
      refine zq_gfi hc hH (by rfl) (ci := 6) (f := 49) (by rfl) (by decide +kernel) (by rfl) ?_
      refine zV1 (Z := Z) (ui_k (by first | decide | omega)) ?_
      rw [hc49]
      refine z_rcs hc hH 3 (pc' := 47) (lv' := [(0, .ref 50), (1, .int (nI s)), (2, .int (nI l))]) (st' := [.int ((nI l) + 2), .int (nI (l + 1))]) (μ' := z_ui μ 50 0 0) (by rfl) ?_
      rw [show nI l + 2 = nI (l + 2) from nI_add l 2]
      refine zq_ic hc hH (by rfl) (tg := 52) (by rfl) (fun h3 => ?_) (fun h3 => ?_)
      · have h3 : (decide ((nI (l + 1)) ≤ (nI (l + 2)))) = true := decide_eq_true (cm_le.mp h3)
        refine z_rcs hc hH 6 (pc' := 58) (lv' := [(3, .int (nI l)), (0, .ref 50), (1, .int (nI s)), (2, .int (nI l))]) (st' := [.int ((nI l) + 3), .int (nI l)]) (μ' := z_ui μ 50 0 0) (by rfl) ?_
        rw [show nI l + 3 = nI (l + 3) from nI_add l 3]
        refine zq_ic hc hH (by rfl) (tg := 86) (by rfl) (fun h4 => ?_) (fun h4 => ?_)
        · have h4 : (decide ((nI (l + 3)) ≤ (nI l))) = true := decide_eq_true (cm_ge.mp h4)
          exact absurd (Eq.trans (Eq.symm (kn_nlf (by omega) (by omega) (by omega))) h4) (by decide)
        · have h4 : (decide ((nI (l + 3)) ≤ (nI l))) = false := decide_eq_false (cn_ge.mp h4)
          refine z_rcs hc hH 2 (pc' := 63) (lv' := [(3, .int (nI l)), (0, .ref 50), (1, .int (nI s)), (2, .int (nI l))]) (st' := [.ref 50, .int (nI l)]) (μ' := z_ui μ 50 0 0) (by rfl) ?_
          refine zq_gfi hc hH (by rfl) (ci := 6) (f := 49) (by rfl) (by decide +kernel) (by rfl) ?_
          refine zV1 (Z := Z) (ui_k (by first | decide | omega)) ?_
          rw [hc49]
          refine zq_ic hc hH (by rfl) (tg := 80) (by rfl) (fun h5 => ?_) (fun h5 => ?_)
          · have h5 : (decide ((nI l) = (nI (l + 1)))) = true := decide_eq_true (cm_eq9.mp h5)
            exact absurd (Eq.trans (Eq.symm (kn_ne (by omega) (by omega) (by omega))) h5) (by decide)
          · have h5 : (decide ((nI l) = (nI (l + 1)))) = false := decide_eq_false (cn_eq.mp h5)
            refine z_rcs hc hH 3 (pc' := 72) (lv' := [(3, .int (nI l)), (0, .ref 50), (1, .int (nI s)), (2, .int (nI l))]) (st' := [.int (nI l), .int (nI s), .ref 50]) (μ' := z_ui μ 50 0 0) (by rfl) ?_
            refine zq_call hc (z_cx_ok hH (by rfl)) (fc_X7_has_ d' (by omega) (z_ui μ 50 0 0) s l hs4 (by omega)) (by decide +kernel) (fun r9 μ9 hq => ?_)
            obtain ⟨hμ9, rfl⟩ := hq
            rw [hμ9]
            clear hμ9 μ9
            rw [ui_o (by first | decide | omega)]
            show Z 0 75 [(3, .int (nI l)), (0, .ref 50), (1, .int (nI s)), (2, .int (nI l))] [.int (μ.1 60 (34 * s + l))] (z_ui μ 50 0 0)
            refine zq_if hc hH (by rfl) (tg := 80) (by rfl) (fun h6 => ?_) (fun h6 => ?_)
            · have h6 : (decide ((μ.1 60 (34 * s + l)) = 0)) = false := decide_eq_false (cm_ne.mp h6)
              refine z_rcs hc hH 3 (pc' := 55) (lv' := [(3, .int ((nI l) + 1)), (0, .ref 50), (1, .int (nI s)), (2, .int (nI l))]) (st' := [.int ((nI l) + 1)]) (μ' := z_ui μ 50 0 0) (by rfl) ?_
              rw [nI_s1]
              refine z_rcs hc hH 3 (pc' := 58) (lv' := [(3, .int (nI (l + 1))), (0, .ref 50), (1, .int (nI s)), (2, .int (nI l))]) (st' := [.int ((nI l) + 3), .int (nI (l + 1))]) (μ' := z_ui μ 50 0 0) (by rfl) ?_
              rw [show nI l + 3 = nI (l + 3) from nI_add l 3]
              refine zq_ic hc hH (by rfl) (tg := 86) (by rfl) (fun h7 => ?_) (fun h7 => ?_)
              · have h7 : (decide ((nI (l + 3)) ≤ (nI (l + 1)))) = true := decide_eq_true (cm_ge.mp h7)
                exact absurd (Eq.trans (Eq.symm (kn_nlf (by omega) (by omega) (by omega))) h7) (by decide)
              · have h7 : (decide ((nI (l + 3)) ≤ (nI (l + 1)))) = false := decide_eq_false (cn_ge.mp h7)
                refine z_rcs hc hH 2 (pc' := 63) (lv' := [(3, .int (nI (l + 1))), (0, .ref 50), (1, .int (nI s)), (2, .int (nI l))]) (st' := [.ref 50, .int (nI (l + 1))]) (μ' := z_ui μ 50 0 0) (by rfl) ?_
                refine zq_gfi hc hH (by rfl) (ci := 6) (f := 49) (by rfl) (by decide +kernel) (by rfl) ?_
                refine zV1 (Z := Z) (ui_k (by first | decide | omega)) ?_
                rw [hc49]
                refine zq_ic hc hH (by rfl) (tg := 80) (by rfl) (fun h8 => ?_) (fun h8 => ?_)
                · have h8 : (decide ((nI (l + 1)) = (nI (l + 1)))) = true := decide_eq_true (cm_eq9.mp h8)
                  refine z_rcs hc hH 3 (pc' := 55) (lv' := [(3, .int ((nI (l + 1)) + 1)), (0, .ref 50), (1, .int (nI s)), (2, .int (nI l))]) (st' := [.int ((nI (l + 1)) + 1)]) (μ' := z_ui μ 50 0 0) (by rfl) ?_
                  rw [show nI (l + 1) + 1 = nI (l + 2) from nI_s1 _]
                  refine z_rcs hc hH 3 (pc' := 58) (lv' := [(3, .int (nI (l + 2))), (0, .ref 50), (1, .int (nI s)), (2, .int (nI l))]) (st' := [.int ((nI l) + 3), .int (nI (l + 2))]) (μ' := z_ui μ 50 0 0) (by rfl) ?_
                  rw [show nI l + 3 = nI (l + 3) from nI_add l 3]
                  refine zq_ic hc hH (by rfl) (tg := 86) (by rfl) (fun h9 => ?_) (fun h9 => ?_)
                  · have h9 : (decide ((nI (l + 3)) ≤ (nI (l + 2)))) = true := decide_eq_true (cm_ge.mp h9)
                    exact absurd (Eq.trans (Eq.symm (kn_nlf (by omega) (by omega) (by omega))) h9) (by decide)
                  · have h9 : (decide ((nI (l + 3)) ≤ (nI (l + 2)))) = false := decide_eq_false (cn_ge.mp h9)
                    refine z_rcs hc hH 2 (pc' := 63) (lv' := [(3, .int (nI (l + 2))), (0, .ref 50), (1, .int (nI s)), (2, .int (nI l))]) (st' := [.ref 50, .int (nI (l + 2))]) (μ' := z_ui μ 50 0 0) (by rfl) ?_
                    refine zq_gfi hc hH (by rfl) (ci := 6) (f := 49) (by rfl) (by decide +kernel) (by rfl) ?_
                    refine zV1 (Z := Z) (ui_k (by first | decide | omega)) ?_
                    rw [hc49]
                    refine zq_ic hc hH (by rfl) (tg := 80) (by rfl) (fun h10 => ?_) (fun h10 => ?_)
                    · have h10 : (decide ((nI (l + 2)) = (nI (l + 1)))) = true := decide_eq_true (cm_eq9.mp h10)
                      exact absurd (Eq.trans (Eq.symm (kn_ne (by omega) (by omega) (by omega))) h10) (by decide)
                    · have h10 : (decide ((nI (l + 2)) = (nI (l + 1)))) = false := decide_eq_false (cn_eq.mp h10)
                      refine z_rcs hc hH 3 (pc' := 72) (lv' := [(3, .int (nI (l + 2))), (0, .ref 50), (1, .int (nI s)), (2, .int (nI l))]) (st' := [.int (nI (l + 2)), .int (nI s), .ref 50]) (μ' := z_ui μ 50 0 0) (by rfl) ?_
                      refine zq_call hc (z_cx_ok hH (by rfl)) (fc_X7_has_ d' (by omega) (z_ui μ 50 0 0) s (l + 2) hs4 (by omega)) (by decide +kernel) (fun r9 μ9 hq => ?_)
                      obtain ⟨hμ9, rfl⟩ := hq
                      rw [hμ9]
                      clear hμ9 μ9
                      rw [ui_o (by first | decide | omega)]
                      show Z 0 75 [(3, .int (nI (l + 2))), (0, .ref 50), (1, .int (nI s)), (2, .int (nI l))] [.int (μ.1 60 (34 * s + (l + 2)))] (z_ui μ 50 0 0)
                      refine zq_if hc hH (by rfl) (tg := 80) (by rfl) (fun h11 => ?_) (fun h11 => ?_)
                      · have h11 : (decide ((μ.1 60 (34 * s + (l + 2))) = 0)) = false := decide_eq_false (cm_ne.mp h11)
                        exact absurd (Eq.trans (Eq.symm (hz2)) h11) (by decide)
                      · have h11 : (decide ((μ.1 60 (34 * s + (l + 2))) = 0)) = true := decide_eq_true (cn_ne.mp h11)
                        refine z_rcs hc hH 1 (pc' := 79) (lv' := [(3, .int (nI (l + 2))), (0, .ref 50), (1, .int (nI s)), (2, .int (nI l))]) (st' := [.int 0]) (μ' := z_ui μ 50 0 0) (by rfl) ?_
                        exact hr 0 79 _ _ _ (some (.int 0)) (by decide +kernel) (z_rx_ok hH (by rfl)) (⟨rfl, rfl⟩)
                · have h8 : (decide ((nI (l + 1)) = (nI (l + 1)))) = false := decide_eq_false (cn_eq.mp h8)
                  exact absurd (Eq.trans (Eq.symm (kn_eq rfl)) h8) (by decide)
            · have h6 : (decide ((μ.1 60 (34 * s + l)) = 0)) = true := decide_eq_true (cn_ne.mp h6)
              exact absurd (Eq.trans (Eq.symm (hz1)) h6) (by decide)
      · have h3 : (decide ((nI (l + 1)) ≤ (nI (l + 2)))) = false := decide_eq_false (cn_le.mp h3)
        exact absurd (Eq.trans (Eq.symm (kn_nle (by omega) (by omega) (by omega))) h3) (by decide)
theorem mr_runA2 (d : Nat) (hd : 4 ≤ d) (μ : zM) (s l : Nat) (hs4 : s < 4) (hl : l + 2 ≤ 33) (hc49 : μ.1 50 49 = nI (l + 2)) (t u1 : Nat) (ht4 : t < 4) (ht : μ.1 50 45 = nI t) (hu1 : (t + 1) % 4 = u1) (hu14 : u1 < 4) (hmc : ∀ d, 2 ≤ d → z_C d mi_X7_mayClaim [.ref 50, .int (nI s)] (z_ui μ 50 0 0) (zR (z_ui μ 50 0 0) (.int 1))) (hsu : decide (nI s = nI u1) = true) (hsr : ∀ d, 1 ≤ d → z_C d mi_X7_isRun [.int (nI l)] (z_ui μ 50 0 0) (zR (z_ui μ 50 0 0) (.int 1))) (hz1 : decide (μ.1 60 (34 * s + l) = 0) = true) : z_C d mi_X7_run [.ref 50, .int (nI s), .int (nI l)] μ (fun r μ' => r = some (.int 0) ∧ μ' = z_ui μ 50 0 0) := by
  refine z_C_in (by decide) (by omega) (fun d' Z ed hc hr => ?_)
  have hH : zH mi_X7_run zt_X7_run 79 7 5 := hh_X7_run
  refine z_rcs hc hH 2 (pc' := 2) (lv' := [(0, .ref 50), (1, .int (nI s)), (2, .int (nI l))]) (st' := [.int 0, .ref 50]) (μ' := μ) (by rfl) ?_
  refine zq_pfi hc hH (by rfl) (ci := 6) (f := 0) (by rfl) (by decide +kernel) (by rfl) ?_
  show Z 0 5 [(0, .ref 50), (1, .int (nI s)), (2, .int (nI l))] [] (z_ui μ 50 0 0)
  refine z_rcs hc hH 2 (pc' := 7) (lv' := [(0, .ref 50), (1, .int (nI s)), (2, .int (nI l))]) (st' := [.int (nI s), .ref 50]) (μ' := z_ui μ 50 0 0) (by rfl) ?_
  refine zq_call hc (z_cx_ok hH (by rfl)) (hmc d' (by omega)) (by decide +kernel) (fun r9 μ9 hq => ?_)
  obtain ⟨hμ9, rfl⟩ := hq
  rw [hμ9]
  clear hμ9 μ9
  show Z 0 10 [(0, .ref 50), (1, .int (nI s)), (2, .int (nI l))] [.int 1] (z_ui μ 50 0 0)
  refine z_rcs hc hH 3 (pc' := 15) (lv' := [(0, .ref 50), (1, .int (nI s)), (2, .int (nI l))]) (st' := [.ref 50, .int (nI s)]) (μ' := z_ui μ 50 0 0) (by rfl) ?_
  refine zq_gfi hc hH (by rfl) (ci := 6) (f := 45) (by rfl) (by decide +kernel) (by rfl) ?_
  refine zV1 (Z := Z) (ui_k (by first | decide | omega)) ?_
  rw [ht]
  refine z_rcs hc hH 2 (pc' := 20) (lv' := [(0, .ref 50), (1, .int (nI s)), (2, .int (nI l))]) (st' := [.int ((nI t) + 1), .int (nI s)]) (μ' := z_ui μ 50 0 0) (by rfl) ?_
  rw [nI_s1]
  refine z_rcs hc hH 2 (pc' := 22) (lv' := [(0, .ref 50), (1, .int (nI s)), (2, .int (nI l))]) (st' := [.int ((nI (t + 1)) - (nI (t + 1)) / 4 * 4), .int (nI s)]) (μ' := z_ui μ 50 0 0) (by rfl) ?_
  rw [show nI (t + 1) - nI (t + 1) / 4 * 4 = nI u1 from by rw [rm4 _ (by omega), hu1]]
  refine zq_ic hc hH (by rfl) (tg := 50) (by rfl) (fun h1 => ?_) (fun h1 => ?_)
  · have h1 : (decide ((nI s) = (nI u1))) = false := decide_eq_false (cm_ne.mp h1)
    exact absurd (Eq.trans (Eq.symm (hsu)) h1) (by decide)
  · have h1 : (decide ((nI s) = (nI u1))) = true := decide_eq_true (cn_ne.mp h1)
    refine z_rcs hc hH 1 (pc' := 26) (lv' := [(0, .ref 50), (1, .int (nI s)), (2, .int (nI l))]) (st' := [.int (nI l)]) (μ' := z_ui μ 50 0 0) (by rfl) ?_
    refine zq_call hc (z_cx_ok hH (by rfl)) (hsr d' (by omega)) (by decide +kernel) (fun r9 μ9 hq => ?_)
    obtain ⟨hμ9, rfl⟩ := hq
    rw [hμ9]
    clear hμ9 μ9
    show Z 0 29 [(0, .ref 50), (1, .int (nI s)), (2, .int (nI l))] [.int 1] (z_ui μ 50 0 0)
    refine z_rcs hc hH 2 (pc' := 33) (lv' := [(0, .ref 50), (1, .int (nI s)), (2, .int (nI l))]) (st' := [.ref 50]) (μ' := z_ui μ 50 0 0) (by rfl) ?_
    refine zq_gfi hc hH (by rfl) (ci := 6) (f := 49) (by rfl) (by decide +kernel) (by rfl) ?_
    refine zV1 (Z := Z) (ui_k (by first | decide | omega)) ?_
    rw [hc49]
    refine z_rcs hc hH 1 (pc' := 37) (lv' := [(0, .ref 50), (1, .int (nI s)), (2, .int (nI l))]) (st' := [.int (nI l), .int (nI (l + 2))]) (μ' := z_ui μ 50 0 0) (by rfl) ?_
    refine zq_ic hc hH (by rfl) (tg := 50) (by rfl) (fun h2 => ?_) (fun h2 => ?_)
    · have h2 : (decide ((nI (l + 2)) < (nI l))) = true := decide_eq_true (cm_lt.mp h2)
      exact absurd (Eq.trans (Eq.symm (kn_nlg (by omega) (by omega) (by omega))) h2) (by decide)
    · have h2 : (decide ((nI (l + 2)) < (nI l))) = false := decide_eq_false (cn_lt.mp h2)
      refine z_rcs hc hH 1 (pc' := 41) (lv' := [(0, .ref 50), (1, .int (nI s)), (2, .int (nI l))]) (st' := [.ref 50]) (μ' := z_ui μ 50 0 0) (by rfl) ?_
      refine zq_gfi hc hH (by rfl) (ci := 6) (f := 49) (by rfl) (by decide +kernel) (by rfl) ?_
      refine zV1 (Z := Z) (ui_k (by first | decide | omega)) ?_
      rw [hc49]
      refine z_rcs hc hH 3 (pc' := 47) (lv' := [(0, .ref 50), (1, .int (nI s)), (2, .int (nI l))]) (st' := [.int ((nI l) + 2), .int (nI (l + 2))]) (μ' := z_ui μ 50 0 0) (by rfl) ?_
      rw [show nI l + 2 = nI (l + 2) from nI_add l 2]
      refine zq_ic hc hH (by rfl) (tg := 52) (by rfl) (fun h3 => ?_) (fun h3 => ?_)
      · have h3 : (decide ((nI (l + 2)) ≤ (nI (l + 2)))) = true := decide_eq_true (cm_le.mp h3)
        refine z_rcs hc hH 6 (pc' := 58) (lv' := [(3, .int (nI l)), (0, .ref 50), (1, .int (nI s)), (2, .int (nI l))]) (st' := [.int ((nI l) + 3), .int (nI l)]) (μ' := z_ui μ 50 0 0) (by rfl) ?_
        rw [show nI l + 3 = nI (l + 3) from nI_add l 3]
        refine zq_ic hc hH (by rfl) (tg := 86) (by rfl) (fun h4 => ?_) (fun h4 => ?_)
        · have h4 : (decide ((nI (l + 3)) ≤ (nI l))) = true := decide_eq_true (cm_ge.mp h4)
          exact absurd (Eq.trans (Eq.symm (kn_nlf (by omega) (by omega) (by omega))) h4) (by decide)
        · have h4 : (decide ((nI (l + 3)) ≤ (nI l))) = false := decide_eq_false (cn_ge.mp h4)
          refine z_rcs hc hH 2 (pc' := 63) (lv' := [(3, .int (nI l)), (0, .ref 50), (1, .int (nI s)), (2, .int (nI l))]) (st' := [.ref 50, .int (nI l)]) (μ' := z_ui μ 50 0 0) (by rfl) ?_
          refine zq_gfi hc hH (by rfl) (ci := 6) (f := 49) (by rfl) (by decide +kernel) (by rfl) ?_
          refine zV1 (Z := Z) (ui_k (by first | decide | omega)) ?_
          rw [hc49]
          refine zq_ic hc hH (by rfl) (tg := 80) (by rfl) (fun h5 => ?_) (fun h5 => ?_)
          · have h5 : (decide ((nI l) = (nI (l + 2)))) = true := decide_eq_true (cm_eq9.mp h5)
            exact absurd (Eq.trans (Eq.symm (kn_ne (by omega) (by omega) (by omega))) h5) (by decide)
          · have h5 : (decide ((nI l) = (nI (l + 2)))) = false := decide_eq_false (cn_eq.mp h5)
            refine z_rcs hc hH 3 (pc' := 72) (lv' := [(3, .int (nI l)), (0, .ref 50), (1, .int (nI s)), (2, .int (nI l))]) (st' := [.int (nI l), .int (nI s), .ref 50]) (μ' := z_ui μ 50 0 0) (by rfl) ?_
            refine zq_call hc (z_cx_ok hH (by rfl)) (fc_X7_has_ d' (by omega) (z_ui μ 50 0 0) s l hs4 (by omega)) (by decide +kernel) (fun r9 μ9 hq => ?_)
            obtain ⟨hμ9, rfl⟩ := hq
            rw [hμ9]
            clear hμ9 μ9
            rw [ui_o (by first | decide | omega)]
            show Z 0 75 [(3, .int (nI l)), (0, .ref 50), (1, .int (nI s)), (2, .int (nI l))] [.int (μ.1 60 (34 * s + l))] (z_ui μ 50 0 0)
            refine zq_if hc hH (by rfl) (tg := 80) (by rfl) (fun h6 => ?_) (fun h6 => ?_)
            · have h6 : (decide ((μ.1 60 (34 * s + l)) = 0)) = false := decide_eq_false (cm_ne.mp h6)
              exact absurd (Eq.trans (Eq.symm (hz1)) h6) (by decide)
            · have h6 : (decide ((μ.1 60 (34 * s + l)) = 0)) = true := decide_eq_true (cn_ne.mp h6)
              refine z_rcs hc hH 1 (pc' := 79) (lv' := [(3, .int (nI l)), (0, .ref 50), (1, .int (nI s)), (2, .int (nI l))]) (st' := [.int 0]) (μ' := z_ui μ 50 0 0) (by rfl) ?_
              exact hr 0 79 _ _ _ (some (.int 0)) (by decide +kernel) (z_rx_ok hH (by rfl)) (⟨rfl, rfl⟩)
      · have h3 : (decide ((nI (l + 2)) ≤ (nI (l + 2)))) = false := decide_eq_false (cn_le.mp h3)
        exact absurd (Eq.trans (Eq.symm (kn_nle (by omega) (by omega) (by omega))) h3) (by decide)
theorem mr_runB2 (d : Nat) (hd : 4 ≤ d) (μ : zM) (s l : Nat) (hs4 : s < 4) (hl : l + 2 ≤ 33) (hc49 : μ.1 50 49 = nI (l + 2)) (t u1 : Nat) (ht4 : t < 4) (ht : μ.1 50 45 = nI t) (hu1 : (t + 1) % 4 = u1) (hu14 : u1 < 4) (hmc : ∀ d, 2 ≤ d → z_C d mi_X7_mayClaim [.ref 50, .int (nI s)] (z_ui μ 50 0 0) (zR (z_ui μ 50 0 0) (.int 1))) (hsu : decide (nI s = nI u1) = true) (hsr : ∀ d, 1 ≤ d → z_C d mi_X7_isRun [.int (nI l)] (z_ui μ 50 0 0) (zR (z_ui μ 50 0 0) (.int 1))) (hz1 : decide (μ.1 60 (34 * s + l) = 0) = false) (hz2 : decide (μ.1 60 (34 * s + (l + 1)) = 0) = true) : z_C d mi_X7_run [.ref 50, .int (nI s), .int (nI l)] μ (fun r μ' => r = some (.int 0) ∧ μ' = z_ui μ 50 0 0) := by
  refine z_C_in (by decide) (by omega) (fun d' Z ed hc hr => ?_)
  have hH : zH mi_X7_run zt_X7_run 79 7 5 := hh_X7_run
  refine z_rcs hc hH 2 (pc' := 2) (lv' := [(0, .ref 50), (1, .int (nI s)), (2, .int (nI l))]) (st' := [.int 0, .ref 50]) (μ' := μ) (by rfl) ?_
  refine zq_pfi hc hH (by rfl) (ci := 6) (f := 0) (by rfl) (by decide +kernel) (by rfl) ?_
  show Z 0 5 [(0, .ref 50), (1, .int (nI s)), (2, .int (nI l))] [] (z_ui μ 50 0 0)
  refine z_rcs hc hH 2 (pc' := 7) (lv' := [(0, .ref 50), (1, .int (nI s)), (2, .int (nI l))]) (st' := [.int (nI s), .ref 50]) (μ' := z_ui μ 50 0 0) (by rfl) ?_
  refine zq_call hc (z_cx_ok hH (by rfl)) (hmc d' (by omega)) (by decide +kernel) (fun r9 μ9 hq => ?_)
  obtain ⟨hμ9, rfl⟩ := hq
  rw [hμ9]
  clear hμ9 μ9
  show Z 0 10 [(0, .ref 50), (1, .int (nI s)), (2, .int (nI l))] [.int 1] (z_ui μ 50 0 0)
  refine z_rcs hc hH 3 (pc' := 15) (lv' := [(0, .ref 50), (1, .int (nI s)), (2, .int (nI l))]) (st' := [.ref 50, .int (nI s)]) (μ' := z_ui μ 50 0 0) (by rfl) ?_
  refine zq_gfi hc hH (by rfl) (ci := 6) (f := 45) (by rfl) (by decide +kernel) (by rfl) ?_
  refine zV1 (Z := Z) (ui_k (by first | decide | omega)) ?_
  rw [ht]
  refine z_rcs hc hH 2 (pc' := 20) (lv' := [(0, .ref 50), (1, .int (nI s)), (2, .int (nI l))]) (st' := [.int ((nI t) + 1), .int (nI s)]) (μ' := z_ui μ 50 0 0) (by rfl) ?_
  rw [nI_s1]
  refine z_rcs hc hH 2 (pc' := 22) (lv' := [(0, .ref 50), (1, .int (nI s)), (2, .int (nI l))]) (st' := [.int ((nI (t + 1)) - (nI (t + 1)) / 4 * 4), .int (nI s)]) (μ' := z_ui μ 50 0 0) (by rfl) ?_
  rw [show nI (t + 1) - nI (t + 1) / 4 * 4 = nI u1 from by rw [rm4 _ (by omega), hu1]]
  refine zq_ic hc hH (by rfl) (tg := 50) (by rfl) (fun h1 => ?_) (fun h1 => ?_)
  · have h1 : (decide ((nI s) = (nI u1))) = false := decide_eq_false (cm_ne.mp h1)
    exact absurd (Eq.trans (Eq.symm (hsu)) h1) (by decide)
  · have h1 : (decide ((nI s) = (nI u1))) = true := decide_eq_true (cn_ne.mp h1)
    refine z_rcs hc hH 1 (pc' := 26) (lv' := [(0, .ref 50), (1, .int (nI s)), (2, .int (nI l))]) (st' := [.int (nI l)]) (μ' := z_ui μ 50 0 0) (by rfl) ?_
    refine zq_call hc (z_cx_ok hH (by rfl)) (hsr d' (by omega)) (by decide +kernel) (fun r9 μ9 hq => ?_)
    obtain ⟨hμ9, rfl⟩ := hq
    rw [hμ9]
    clear hμ9 μ9
    show Z 0 29 [(0, .ref 50), (1, .int (nI s)), (2, .int (nI l))] [.int 1] (z_ui μ 50 0 0)
    refine z_rcs hc hH 2 (pc' := 33) (lv' := [(0, .ref 50), (1, .int (nI s)), (2, .int (nI l))]) (st' := [.ref 50]) (μ' := z_ui μ 50 0 0) (by rfl) ?_
    refine zq_gfi hc hH (by rfl) (ci := 6) (f := 49) (by rfl) (by decide +kernel) (by rfl) ?_
    refine zV1 (Z := Z) (ui_k (by first | decide | omega)) ?_
    rw [hc49]
    refine z_rcs hc hH 1 (pc' := 37) (lv' := [(0, .ref 50), (1, .int (nI s)), (2, .int (nI l))]) (st' := [.int (nI l), .int (nI (l + 2))]) (μ' := z_ui μ 50 0 0) (by rfl) ?_
    refine zq_ic hc hH (by rfl) (tg := 50) (by rfl) (fun h2 => ?_) (fun h2 => ?_)
    · have h2 : (decide ((nI (l + 2)) < (nI l))) = true := decide_eq_true (cm_lt.mp h2)
      exact absurd (Eq.trans (Eq.symm (kn_nlg (by omega) (by omega) (by omega))) h2) (by decide)
    · have h2 : (decide ((nI (l + 2)) < (nI l))) = false := decide_eq_false (cn_lt.mp h2)
      refine z_rcs hc hH 1 (pc' := 41) (lv' := [(0, .ref 50), (1, .int (nI s)), (2, .int (nI l))]) (st' := [.ref 50]) (μ' := z_ui μ 50 0 0) (by rfl) ?_
      refine zq_gfi hc hH (by rfl) (ci := 6) (f := 49) (by rfl) (by decide +kernel) (by rfl) ?_
      refine zV1 (Z := Z) (ui_k (by first | decide | omega)) ?_
      rw [hc49]
      refine z_rcs hc hH 3 (pc' := 47) (lv' := [(0, .ref 50), (1, .int (nI s)), (2, .int (nI l))]) (st' := [.int ((nI l) + 2), .int (nI (l + 2))]) (μ' := z_ui μ 50 0 0) (by rfl) ?_
      rw [show nI l + 2 = nI (l + 2) from nI_add l 2]
      refine zq_ic hc hH (by rfl) (tg := 52) (by rfl) (fun h3 => ?_) (fun h3 => ?_)
      · have h3 : (decide ((nI (l + 2)) ≤ (nI (l + 2)))) = true := decide_eq_true (cm_le.mp h3)
        refine z_rcs hc hH 6 (pc' := 58) (lv' := [(3, .int (nI l)), (0, .ref 50), (1, .int (nI s)), (2, .int (nI l))]) (st' := [.int ((nI l) + 3), .int (nI l)]) (μ' := z_ui μ 50 0 0) (by rfl) ?_
        rw [show nI l + 3 = nI (l + 3) from nI_add l 3]
        refine zq_ic hc hH (by rfl) (tg := 86) (by rfl) (fun h4 => ?_) (fun h4 => ?_)
        · have h4 : (decide ((nI (l + 3)) ≤ (nI l))) = true := decide_eq_true (cm_ge.mp h4)
          exact absurd (Eq.trans (Eq.symm (kn_nlf (by omega) (by omega) (by omega))) h4) (by decide)
        · have h4 : (decide ((nI (l + 3)) ≤ (nI l))) = false := decide_eq_false (cn_ge.mp h4)
          refine z_rcs hc hH 2 (pc' := 63) (lv' := [(3, .int (nI l)), (0, .ref 50), (1, .int (nI s)), (2, .int (nI l))]) (st' := [.ref 50, .int (nI l)]) (μ' := z_ui μ 50 0 0) (by rfl) ?_
          refine zq_gfi hc hH (by rfl) (ci := 6) (f := 49) (by rfl) (by decide +kernel) (by rfl) ?_
          refine zV1 (Z := Z) (ui_k (by first | decide | omega)) ?_
          rw [hc49]
          refine zq_ic hc hH (by rfl) (tg := 80) (by rfl) (fun h5 => ?_) (fun h5 => ?_)
          · have h5 : (decide ((nI l) = (nI (l + 2)))) = true := decide_eq_true (cm_eq9.mp h5)
            exact absurd (Eq.trans (Eq.symm (kn_ne (by omega) (by omega) (by omega))) h5) (by decide)
          · have h5 : (decide ((nI l) = (nI (l + 2)))) = false := decide_eq_false (cn_eq.mp h5)
            refine z_rcs hc hH 3 (pc' := 72) (lv' := [(3, .int (nI l)), (0, .ref 50), (1, .int (nI s)), (2, .int (nI l))]) (st' := [.int (nI l), .int (nI s), .ref 50]) (μ' := z_ui μ 50 0 0) (by rfl) ?_
            refine zq_call hc (z_cx_ok hH (by rfl)) (fc_X7_has_ d' (by omega) (z_ui μ 50 0 0) s l hs4 (by omega)) (by decide +kernel) (fun r9 μ9 hq => ?_)
            obtain ⟨hμ9, rfl⟩ := hq
            rw [hμ9]
            clear hμ9 μ9
            rw [ui_o (by first | decide | omega)]
            show Z 0 75 [(3, .int (nI l)), (0, .ref 50), (1, .int (nI s)), (2, .int (nI l))] [.int (μ.1 60 (34 * s + l))] (z_ui μ 50 0 0)
            refine zq_if hc hH (by rfl) (tg := 80) (by rfl) (fun h6 => ?_) (fun h6 => ?_)
            · have h6 : (decide ((μ.1 60 (34 * s + l)) = 0)) = false := decide_eq_false (cm_ne.mp h6)
              refine z_rcs hc hH 3 (pc' := 55) (lv' := [(3, .int ((nI l) + 1)), (0, .ref 50), (1, .int (nI s)), (2, .int (nI l))]) (st' := [.int ((nI l) + 1)]) (μ' := z_ui μ 50 0 0) (by rfl) ?_
              rw [nI_s1]
              refine z_rcs hc hH 3 (pc' := 58) (lv' := [(3, .int (nI (l + 1))), (0, .ref 50), (1, .int (nI s)), (2, .int (nI l))]) (st' := [.int ((nI l) + 3), .int (nI (l + 1))]) (μ' := z_ui μ 50 0 0) (by rfl) ?_
              rw [show nI l + 3 = nI (l + 3) from nI_add l 3]
              refine zq_ic hc hH (by rfl) (tg := 86) (by rfl) (fun h7 => ?_) (fun h7 => ?_)
              · have h7 : (decide ((nI (l + 3)) ≤ (nI (l + 1)))) = true := decide_eq_true (cm_ge.mp h7)
                exact absurd (Eq.trans (Eq.symm (kn_nlf (by omega) (by omega) (by omega))) h7) (by decide)
              · have h7 : (decide ((nI (l + 3)) ≤ (nI (l + 1)))) = false := decide_eq_false (cn_ge.mp h7)
                refine z_rcs hc hH 2 (pc' := 63) (lv' := [(3, .int (nI (l + 1))), (0, .ref 50), (1, .int (nI s)), (2, .int (nI l))]) (st' := [.ref 50, .int (nI (l + 1))]) (μ' := z_ui μ 50 0 0) (by rfl) ?_
                refine zq_gfi hc hH (by rfl) (ci := 6) (f := 49) (by rfl) (by decide +kernel) (by rfl) ?_
                refine zV1 (Z := Z) (ui_k (by first | decide | omega)) ?_
                rw [hc49]
                refine zq_ic hc hH (by rfl) (tg := 80) (by rfl) (fun h8 => ?_) (fun h8 => ?_)
                · have h8 : (decide ((nI (l + 1)) = (nI (l + 2)))) = true := decide_eq_true (cm_eq9.mp h8)
                  exact absurd (Eq.trans (Eq.symm (kn_ne (by omega) (by omega) (by omega))) h8) (by decide)
                · have h8 : (decide ((nI (l + 1)) = (nI (l + 2)))) = false := decide_eq_false (cn_eq.mp h8)
                  refine z_rcs hc hH 3 (pc' := 72) (lv' := [(3, .int (nI (l + 1))), (0, .ref 50), (1, .int (nI s)), (2, .int (nI l))]) (st' := [.int (nI (l + 1)), .int (nI s), .ref 50]) (μ' := z_ui μ 50 0 0) (by rfl) ?_
                  refine zq_call hc (z_cx_ok hH (by rfl)) (fc_X7_has_ d' (by omega) (z_ui μ 50 0 0) s (l + 1) hs4 (by omega)) (by decide +kernel) (fun r9 μ9 hq => ?_)
                  obtain ⟨hμ9, rfl⟩ := hq
                  rw [hμ9]
                  clear hμ9 μ9
                  rw [ui_o (by first | decide | omega)]
                  show Z 0 75 [(3, .int (nI (l + 1))), (0, .ref 50), (1, .int (nI s)), (2, .int (nI l))] [.int (μ.1 60 (34 * s + (l + 1)))] (z_ui μ 50 0 0)
                  refine zq_if hc hH (by rfl) (tg := 80) (by rfl) (fun h9 => ?_) (fun h9 => ?_)
                  · have h9 : (decide ((μ.1 60 (34 * s + (l + 1))) = 0)) = false := decide_eq_false (cm_ne.mp h9)
                    exact absurd (Eq.trans (Eq.symm (hz2)) h9) (by decide)
                  · have h9 : (decide ((μ.1 60 (34 * s + (l + 1))) = 0)) = true := decide_eq_true (cn_ne.mp h9)
                    refine z_rcs hc hH 1 (pc' := 79) (lv' := [(3, .int (nI (l + 1))), (0, .ref 50), (1, .int (nI s)), (2, .int (nI l))]) (st' := [.int 0]) (μ' := z_ui μ 50 0 0) (by rfl) ?_
                    exact hr 0 79 _ _ _ (some (.int 0)) (by decide +kernel) (z_rx_ok hH (by rfl)) (⟨rfl, rfl⟩)
            · have h6 : (decide ((μ.1 60 (34 * s + l)) = 0)) = true := decide_eq_true (cn_ne.mp h6)
              exact absurd (Eq.trans (Eq.symm (hz1)) h6) (by decide)
      · have h3 : (decide ((nI (l + 2)) ≤ (nI (l + 2)))) = false := decide_eq_false (cn_le.mp h3)
        exact absurd (Eq.trans (Eq.symm (kn_nle (by omega) (by omega) (by omega))) h3) (by decide)
theorem mr_discH (d : Nat) (hd : 4 ≤ d) (μ : zM) (t k : Nat) (ht4 : t < 4) (ht : μ.1 50 45 = nI t) (hk : k < 34) (b : Int32) (hp : decide (μ.1 50 44 = 1) = true) (hz : decide (μ.1 60 (34 * t + k) = 0) = true) : z_C d mi_X7_discard [.ref 50, .int (nI k), .int b] μ (fun r μ' => r = some (.int 0) ∧ μ' = z_ui μ 50 0 0) := by
  refine z_C_in (by decide) (by omega) (fun d' Z ed hc hr => ?_)
  have hH : zH mi_X7_discard zt_X7_discard 79 7 5 := hh_X7_discard
  refine z_rcs hc hH 2 (pc' := 2) (lv' := [(0, .ref 50), (1, .int (nI k)), (2, .int b)]) (st' := [.int 0, .ref 50]) (μ' := μ) (by rfl) ?_
  refine zq_pfi hc hH (by rfl) (ci := 6) (f := 0) (by rfl) (by decide +kernel) (by rfl) ?_
  show Z 0 5 [(0, .ref 50), (1, .int (nI k)), (2, .int b)] [] (z_ui μ 50 0 0)
  refine z_rcs hc hH 1 (pc' := 6) (lv' := [(0, .ref 50), (1, .int (nI k)), (2, .int b)]) (st' := [.ref 50]) (μ' := z_ui μ 50 0 0) (by rfl) ?_
  refine zq_gfi hc hH (by rfl) (ci := 6) (f := 44) (by rfl) (by decide +kernel) (by rfl) ?_
  refine zV1 (Z := Z) (ui_k (by first | decide | omega)) ?_
  refine z_rcs hc hH 1 (pc' := 10) (lv' := [(0, .ref 50), (1, .int (nI k)), (2, .int b)]) (st' := [.int 1, .int (μ.1 50 44)]) (μ' := z_ui μ 50 0 0) (by rfl) ?_
  refine zq_ic hc hH (by rfl) (tg := 32) (by rfl) (fun h1 => ?_) (fun h1 => ?_)
  · have h1 : (decide ((μ.1 50 44) = 1)) = false := decide_eq_false (cm_ne.mp h1)
    exact absurd (Eq.trans (Eq.symm (hp)) h1) (by decide)
  · have h1 : (decide ((μ.1 50 44) = 1)) = true := decide_eq_true (cn_ne.mp h1)
    refine z_rcs hc hH 1 (pc' := 14) (lv' := [(0, .ref 50), (1, .int (nI k)), (2, .int b)]) (st' := [.int (nI k)]) (μ' := z_ui μ 50 0 0) (by rfl) ?_
    refine zq_call hc (z_cx_ok hH (by rfl)) (gm_isKindN d' (by omega) (z_ui μ 50 0 0) k hk) (by decide +kernel) (fun r9 μ9 hq => ?_)
    obtain ⟨hμ9, rfl⟩ := hq
    rw [hμ9]
    clear hμ9 μ9
    show Z 0 17 [(0, .ref 50), (1, .int (nI k)), (2, .int b)] [.int 1] (z_ui μ 50 0 0)
    refine z_rcs hc hH 3 (pc' := 22) (lv' := [(0, .ref 50), (1, .int (nI k)), (2, .int b)]) (st' := [.ref 50, .ref 50]) (μ' := z_ui μ 50 0 0) (by rfl) ?_
    refine zq_gfi hc hH (by rfl) (ci := 6) (f := 45) (by rfl) (by decide +kernel) (by rfl) ?_
    refine zV1 (Z := Z) (ui_k (by first | decide | omega)) ?_
    rw [ht]
    refine z_rcs hc hH 1 (pc' := 26) (lv' := [(0, .ref 50), (1, .int (nI k)), (2, .int b)]) (st' := [.int (nI k), .int (nI t), .ref 50]) (μ' := z_ui μ 50 0 0) (by rfl) ?_
    refine zq_call hc (z_cx_ok hH (by rfl)) (fc_X7_has_ d' (by omega) (z_ui μ 50 0 0) t k ht4 hk) (by decide +kernel) (fun r9 μ9 hq => ?_)
    obtain ⟨hμ9, rfl⟩ := hq
    rw [hμ9]
    clear hμ9 μ9
    rw [ui_o (by first | decide | omega)]
    show Z 0 29 [(0, .ref 50), (1, .int (nI k)), (2, .int b)] [.int (μ.1 60 (34 * t + k))] (z_ui μ 50 0 0)
    refine zq_if hc hH (by rfl) (tg := 34) (by rfl) (fun h2 => ?_) (fun h2 => ?_)
    · have h2 : (decide ((μ.1 60 (34 * t + k)) = 0)) = false := decide_eq_false (cm_ne.mp h2)
      exact absurd (Eq.trans (Eq.symm (hz)) h2) (by decide)
    · have h2 : (decide ((μ.1 60 (34 * t + k)) = 0)) = true := decide_eq_true (cn_ne.mp h2)
      refine z_rcs hc hH 1 (pc' := 33) (lv' := [(0, .ref 50), (1, .int (nI k)), (2, .int b)]) (st' := [.int 0]) (μ' := z_ui μ 50 0 0) (by rfl) ?_
      exact hr 0 33 _ _ _ (some (.int 0)) (by decide +kernel) (z_rx_ok hH (by rfl)) (⟨rfl, rfl⟩)
theorem gx_atZ (d : Nat) (hd : 3 ≤ d) (μ : zM) (j : Nat) (hj : j < 4) (x : Int32) (hf : decide (fr μ (20 + 8 * j) x = 0) = true) : z_C d mi_X3_addToThree [.ref (19 + 8 * j), .int x] μ (fun r μ' => r = some (.int 0) ∧ μ' = μ) := by
  refine z_C_in (by decide) (by omega) (fun d' Z ed hc hr => ?_)
  have hH : zH mi_X3_addToThree zt_X3_addToThree 79 3 3 := hh_X3_addToThree
  refine z_rcs hc hH 2 (pc' := 2) (lv' := [(0, .ref (19 + 8 * j)), (1, .int x)]) (st' := [.int x, .ref (19 + 8 * j)]) (μ' := μ) (by rfl) ?_
  refine zq_call hc (z_clv9 hH (by rfl) (by rfl) (by rfl) (by rfl) (sj (P := fun i => okr 79 2 (19 + 8 * i)) hj (by decide +kernel)) (by rfl) (by rfl)) (gc_free d' (by omega) μ j hj x) (by decide +kernel) (fun r9 μ9 hq => ?_)
  obtain ⟨hμ9, rfl⟩ := hq
  rw [hμ9]
  clear hμ9 μ9
  show Z 0 5 [(0, .ref (19 + 8 * j)), (1, .int x)] [.int (fr μ (20 + 8 * j) x)] μ
  refine zq_if hc hH (by rfl) (tg := 10) (by rfl) (fun h1 => ?_) (fun h1 => ?_)
  · have h1 : (decide ((fr μ (20 + 8 * j) x) = 0)) = false := decide_eq_false (cm_ne.mp h1)
    exact absurd (Eq.trans (Eq.symm (hf)) h1) (by decide)
  · have h1 : (decide ((fr μ (20 + 8 * j) x) = 0)) = true := decide_eq_true (cn_ne.mp h1)
    refine z_rcs hc hH 1 (pc' := 9) (lv' := [(0, .ref (19 + 8 * j)), (1, .int x)]) (st' := [.int 0]) (μ' := μ) (by rfl) ?_
    exact hr 0 9 _ _ _ (some (.int 0)) (by decide +kernel) (z_rx_ok hH (by rfl)) (⟨rfl, rfl⟩)
theorem gx_addF (d : Nat) (hd : 4 ≤ d) (μ : zM) (x : Int32) (t : Nat) (ht4 : t < 4) (ht : μ.1 0 8 = nI t) (hmm : ∀ d, 3 ≤ d → z_C d mi_X6_mayMakeFour [.ref 0] μ (zR μ (.int 1))) (hat : ∀ d, 3 ≤ d → z_C d mi_X3_addToThree [.ref (19 + 8 * t), .int x] μ (zR μ (.int 0))) : z_C d mi_X6_add [.ref 0, .int x] μ (fun r μ' => r = some (.int 0) ∧ μ' = μ) := by
  refine z_C_in (by decide) (by omega) (fun d' Z ed hc hr => ?_)
  have hH : zH mi_X6_add zt_X6_add 79 6 2 := hh_X6_add
  refine z_rcs hc hH 1 (pc' := 1) (lv' := [(0, .ref 0), (1, .int x)]) (st' := [.ref 0]) (μ' := μ) (by rfl) ?_
  refine zq_call hc (z_cx_ok hH (by rfl)) (hmm d' (by omega)) (by decide +kernel) (fun r9 μ9 hq => ?_)
  obtain ⟨hμ9, rfl⟩ := hq
  rw [hμ9]
  clear hμ9 μ9
  show Z 0 4 [(0, .ref 0), (1, .int x)] [.int 1] μ
  refine z_rcs hc hH 3 (pc' := 9) (lv' := [(0, .ref 0), (1, .int x)]) (st' := [.ref 0, .ref 0]) (μ' := μ) (by rfl) ?_
  refine zq_gfi hc hH (by rfl) (ci := 5) (f := 8) (by rfl) (by decide +kernel) (by rfl) ?_
  rw [ht]
  refine zq_call hc (z_cx_ok hH (by rfl)) (gc_at4 d' (by omega) μ t ht4) (by decide +kernel) (fun r9 μ9 hq => ?_)
  obtain ⟨hμ9, rfl⟩ := hq
  rw [hμ9]
  clear hμ9 μ9
  show Z 0 15 [(0, .ref 0), (1, .int x)] [.ref (18 + 8 * t)] μ
  refine zq_gfr hc hH (by rfl) (ci := 1) (f := 0) (q := 19 + 8 * t) (by rfl) (sj (P := fun i => okf 79 1 0 (18 + 8 * i)) ht4 (by decide +kernel)) (by rfl) (sj (P := fun i => Nat.beq (z_gr (18 + 8 * i) 0) (19 + 8 * i)) ht4 (by decide +kernel)) ?_
  refine z_rcs hc hH 1 (pc' := 19) (lv' := [(0, .ref 0), (1, .int x)]) (st' := [.int x, .ref (19 + 8 * t)]) (μ' := μ) (by rfl) ?_
  refine zq_call hc (z_clv9 hH (by rfl) (by rfl) (by rfl) (by rfl) (sj (P := fun i => okr 79 2 (19 + 8 * i)) ht4 (by decide +kernel)) (by rfl) (by rfl)) (hat d' (by omega)) (by decide +kernel) (fun r9 μ9 hq => ?_)
  obtain ⟨hμ9, rfl⟩ := hq
  rw [hμ9]
  clear hμ9 μ9
  show Z 0 22 [(0, .ref 0), (1, .int x)] [.int 0] μ
  refine z_rcs hc hH 2 (pc' := 26) (lv' := [(0, .ref 0), (1, .int x)]) (st' := [.int 0]) (μ' := μ) (by rfl) ?_
  exact hr 0 26 _ _ _ (some (.int 0)) (by decide +kernel) (z_rx_ok hH (by rfl)) (⟨rfl, rfl⟩)
theorem gx_nineP (d : Nat) (hd : 2 ≤ d) (μ : zM) (hp : decide (μ.1 0 7 = 1) = false) : z_C d mi_X6_nine [.ref 0] μ (fun r μ' => r = some (.int 0) ∧ μ' = μ) := by
  refine z_C_in (by decide) (by omega) (fun d' Z ed hc hr => ?_)
  have hH : zH mi_X6_nine zt_X6_nine 79 6 1 := hh_X6_nine
  refine z_rcs hc hH 1 (pc' := 1) (lv' := [(0, .ref 0)]) (st' := [.ref 0]) (μ' := μ) (by rfl) ?_
  refine zq_gfi hc hH (by rfl) (ci := 5) (f := 7) (by rfl) (by decide +kernel) (by rfl) ?_
  refine z_rcs hc hH 1 (pc' := 5) (lv' := [(0, .ref 0)]) (st' := [.int 1, .int (μ.1 0 7)]) (μ' := μ) (by rfl) ?_
  refine zq_ic hc hH (by rfl) (tg := 29) (by rfl) (fun h1 => ?_) (fun h1 => ?_)
  · have h1 : (decide ((μ.1 0 7) = 1)) = false := decide_eq_false (cm_ne.mp h1)
    refine z_rcs hc hH 1 (pc' := 30) (lv' := [(0, .ref 0)]) (st' := [.int 0]) (μ' := μ) (by rfl) ?_
    exact hr 0 30 _ _ _ (some (.int 0)) (by decide +kernel) (z_rx_ok hH (by rfl)) (⟨rfl, rfl⟩)
  · have h1 : (decide ((μ.1 0 7) = 1)) = true := decide_eq_true (cn_ne.mp h1)
    exact absurd (Eq.trans (Eq.symm (hp)) h1) (by decide)
/-! both calls together; the tile is let go, whoever's turn it is -/
set_option maxRecDepth 8000
noncomputable abbrev GO (d j j' : Nat) (As As' : List Value) (μ : zM) : Prop := z_C d j As μ (fun r μ1 => LJ μ1 ∧ ∃ y, r = some (.int y) ∧ z_C d j' As' μ1 (fun r2 μ2 => LGm μ2 ∧ r2 = some (.int y)))
theorem eqX_tr {a b c : zM} (h : EqX a b) (g : EqX b c) : EqX a c := fun r k q => ⟨(g r k q).1.trans (h r k q).1, (g r k q).2.trans (h r k q).2⟩
theorem eqM_tr {a b c : zM} (h : EqM a b) (g : EqM b c) : EqM a c := fun r k q => ⟨(g r k q).1.trans (h r k q).1, (g r k q).2.trans (h r k q).2⟩
theorem go_no {d j j' : Nat} {As As' : List Value} {μ : zM} (hR : RG μ μ) (kx : z_C d j As μ (fun _ μ' => LJ μ' ∧ EqM μ μ')) (km : ∀ μ1, LJ μ1 → z_C d j' As' μ1 (fun _ μ' => LJ μ' ∧ EqX μ1 μ')) (c1 : z_C d j As μ (fun r μ' => r = some (.int 0) ∧ μ' = μ)) (c2 : z_C d j' As' μ (fun r μ' => r = some (.int 0) ∧ μ' = z_ui μ 50 0 0)) : GO d j j' As As' μ := z_C_mono (zC_and d kx c1) (fun r μ1 q => by
  obtain ⟨⟨q1, _⟩, q2, rfl⟩ := q
  exact ⟨q1, 0, q2, z_C_mono (zC_and d (km _ q1) c2) (fun r2 μ2 z => ⟨lg_no hR z.2.2 z.1.1, z.2.1⟩)⟩)
theorem go_yes {d j j' : Nat} {As As' : List Value} {μ : zM} {X : zM} {y : Int32} (kx : z_C d j As μ (fun _ μ' => LJ μ' ∧ EqM μ μ')) (km : ∀ μ1, LJ μ1 → z_C d j' As' μ1 (fun _ μ' => LJ μ' ∧ EqX μ1 μ')) (c1 : z_C d j As μ (fun r μ' => r = some (.int y) ∧ EqX X μ')) (c2 : ∀ μ1, LJ μ1 → EqM μ μ1 → z_C d j' As' μ1 (fun r μ' => r = some (.int y) ∧ RG X μ')) : GO d j j' As As' μ := z_C_mono (zC_and d kx c1) (fun r μ1 q => ⟨q.1.1, y, q.2.1, z_C_mono (zC_and d (km μ1 q.1.1) (c2 μ1 q.1.1 q.1.2)) (fun r2 μ2 z => ⟨⟨z.1.1, z.2.2.cg (eqX_tr q.2.2 z.1.2) (eqM_rf _)⟩, z.2.1⟩)⟩)
/-- the reference's cells of the game but for what may not be discarded -/
noncomputable def EqB (m m' : zM) : Prop := ∀ r k, gMc r k → ¬ (r = 50 ∧ (k = 50 ∨ k = 51)) → m'.1 r k = m.1 r k ∧ m'.2.1 r k = m.2.1 r k
theorem RCl.cgB {x m m' : zM} (e : EqB m m') (h : RCl x m) : RCl x m' := RCl.cg2 (q2_x _) (fun r k g => e r k (by unfold gM2 at g; unfold gMc; omega) (by unfold gM2 at g; omega)) h
theorem RPh.cgB {x m m' : zM} (hm : EqB m m') {p t c : Nat} (hp : p ≠ 1) (h : RPh x m p t c) : RPh x m' p t c := by
  have M : ∀ r k, gMc r k → ¬ (r = 50 ∧ (k = 50 ∨ k = 51)) → m'.1 r k = m.1 r k := fun r k q z => (hm r k q z).1
  unfold gMc at M
  have m44 := M 50 44 (by omega) (by omega)
  have m45 := M 50 45 (by omega) (by omega)
  have m46 := M 50 46 (by omega) (by omega)
  have m47 := M 50 47 (by omega) (by omega)
  have m48 := M 50 48 (by omega) (by omega)
  have m49 := M 50 49 (by omega) (by omega)
  have m40 := M 50 40 (by omega) (by omega)
  have m53 := M 50 53 (by omega) (by omega)
  have m55 := M 50 55 (by omega) (by omega)
  have m56 := M 50 56 (by omega) (by omega)
  have m57 := M 50 57 (by omega) (by omega)
  have m58 := M 50 58 (by omega) (by omega)
  have m59 := M 50 59 (by omega) (by omega)
  have m64 : ∀ s, m'.1 64 s = m.1 64 s := fun s => M 64 s (by omega) (by omega)
  have m66 : ∀ s, m'.1 66 s = m.1 66 s := fun s => M 66 s (by omega) (by omega)
  have m68 : ∀ s, m'.1 68 s = m.1 68 s := fun s => M 68 s (by omega) (by omega)
  have m71 : ∀ s, m'.1 71 s = m.1 71 s := fun s => M 71 s (by omega) (by omega)
  have mW : fW m' = fW m := funext fun i => M 59 i (by omega) (by omega)
  exact ⟨(by rw [m47]; exact h.fo), (by exact h.px), (by rw [m44]; exact h.pm), (by exact h.tx), (by rw [m45]; exact h.tm), h.t4, h.p3, (by exact h.cx), (by rw [m49]; exact h.cm), h.c3, fun q => absurd q hp, (by rw [m56]; exact h.br), (by simp only [m56, m64]; exact h.us), (by rw [m58]; exact h.bf), fun q => absurd q hp, fun q => absurd q hp, fun q => absurd q hp, h.a3, fun s hs => by rw [m59]; exact h.ow s hs, (by rw [m59]; exact h.o1), (by rw [m55]; exact h.is), (by rw [m71]; exact h.s0), (by simp only [m71]; exact h.s1), (by rw [m53]; exact h.w0), (by simp only [m68, m46, m48, m40]; exact h.dn), (by simp only [m56, m68, m66]; exact h.dr), (by rw [m56, m40, m68]; exact h.d2), h.tc.elim fun a z => ⟨a, fun s k hs hk => by exact z.1 s k hs hk, by rw [mW, m46, m48]; exact z.2⟩⟩
theorem eB_M {m m' : zM} (h : EqM m m') : EqB m m' := fun r k g _ => h r k g
theorem eB_tr {a b c : zM} (h : EqB a b) (g : EqB b c) : EqB a c := fun r k q z => ⟨(g r k q z).1.trans (h r k q z).1, (g r k q z).2.trans (h r k q z).2⟩
theorem eB_0 (m : zM) (v : Int32) : EqB m (z_ui m 50 0 v) := eB_M (t0_EqM m v)
theorem eB_50 (m : zM) (v w : Int32) : EqB m (z_ui (z_ui m 50 50 v) 50 51 w) := fun r k g z => ⟨by
  by_cases e : r = 50
  · subst e
    rw [ui_k (by first | decide | omega), ui_k (by first | decide | omega)]
  · rw [ui_o e, ui_o e], rfl⟩
theorem gv_c {m : zM} {s c : Nat} {n n' : Int32} (h : n + n' = 0) (r k : Nat) : (z_giv (z_giv m s c n) s c n').1 r k = m.1 r k := by
  unfold z_giv
  by_cases e : r = 60
  · subst e
    by_cases e2 : k = 34 * s + c
    · subst e2; rw [ui_s, ui_s, Int32.add_assoc, h, Int32.add_zero]
    · rw [ui_k e2, ui_k e2]
  · rw [ui_o e, ui_o e]
theorem gv_c4 {m : zM} {s a b : Nat} {n n' : Int32} (hab : a ≠ b) (h : n + n' = 0) (r k : Nat) : (z_giv (z_giv (z_giv (z_giv m s a n) s b n) s a n') s b n').1 r k = m.1 r k := by
  unfold z_giv
  by_cases e : r = 60
  · subst e
    by_cases e2 : k = 34 * s + a
    · subst e2
      simp (disch := first | decide | exact ad_ne (by decide) | exact ad_m (by decide) | exact ad_l (by decide) | exact ad_g (by decide) | exact ad_lt (by decide) | exact ad_o (by decide) | omega) only [↓ui_s, ↓ui_k, ui_s, ui_k]
      rw [Int32.add_assoc, h, Int32.add_zero]
    · by_cases e3 : k = 34 * s + b
      · subst e3
        simp (disch := first | decide | exact ad_ne (by decide) | exact ad_m (by decide) | exact ad_l (by decide) | exact ad_g (by decide) | exact ad_lt (by decide) | exact ad_o (by decide) | omega) only [↓ui_s, ↓ui_k, ui_s, ui_k]
        rw [Int32.add_assoc, h, Int32.add_zero]
      · simp (disch := first | decide | exact ad_ne (by decide) | exact ad_m (by decide) | exact ad_l (by decide) | exact ad_g (by decide) | exact ad_lt (by decide) | exact ad_o (by decide) | omega) only [↓ui_s, ↓ui_k, ui_s, ui_k]
  · rw [ui_o e, ui_o e, ui_o e, ui_o e]
theorem eB_g {m : zM} {s c : Nat} {n n' : Int32} (h : n + n' = 0) : EqB m (z_giv (z_giv m s c n) s c n') := fun r k _ _ => ⟨gv_c h r k, rfl⟩
theorem eB_g4 {m : zM} {s a b : Nat} {n n' : Int32} (hab : a ≠ b) (h : n + n' = 0) : EqB m (z_giv (z_giv (z_giv (z_giv m s a n) s b n) s a n') s b n') := fun r k _ _ => ⟨gv_c4 hab h r k, rfl⟩
theorem eB_SE {m m' : zM} (h : EqB m m') : SE m m' := fun r k g => (h r k (Or.inl ⟨by omega, by omega⟩) (by omega)).1
theorem RG.cgB2 {x m m' : zM} {t c : Nat} (R : RCl x m) (P : RPh x m 2 t c) (e : EqB m m') : RG x m' := ⟨R.cgB e, Or.inr ⟨2, t, c, P.cgB e (by decide)⟩⟩
/-- the WAITS of all four, as both sides ask for them -/
noncomputable def WW (x m : zM) (c : Nat) (W : Nat → Int64) : Prop := ∀ u, u < 4 → (∀ μ1, TE x μ1 → ∀ d, 6 ≤ d → z_C d mi_X3_waitsFor [.ref (19 + 8 * u), .int (nI c)] μ1 (zR μ1 (.int (nB (bw (W u) c))))) ∧ (∀ M, SE m M → a_H M → ∀ d, 699 ≤ d → z_C d mi_X7_waitsAt [.ref 50, .int (nI u)] M (fun r V => r = some (.long (W u)) ∧ SMj M V ∧ a_H V)) ∧ (∀ μ1, TE x μ1 → ∀ d, 7 ≤ d → z_C d mi_X3_waiting [.ref (19 + 8 * u)] μ1 (zR μ1 (.long (W u)))) ∧ (∃ f : Nat → Bool, W u = kb f 34)
theorem ww_of {x m : zM} {p t c : Nat} (R : RCl x m) (P : RPh x m p t c) (hA : a_H m) (hG : GP m) (hc : c < 34) : ∃ W, WW x m c W := by
  have H : ∀ u, ∃ v : Int64, u < 4 → (∀ μ1, TE x μ1 → ∀ d, 6 ≤ d → z_C d mi_X3_waitsFor [.ref (19 + 8 * u), .int (nI c)] μ1 (zR μ1 (.int (nB (bw v c))))) ∧ (∀ M, SE m M → a_H M → ∀ d, 699 ≤ d → z_C d mi_X7_waitsAt [.ref 50, .int (nI u)] M (fun r V => r = some (.long v) ∧ SMj M V ∧ a_H V)) ∧ (∀ μ1, TE x μ1 → ∀ d, 7 ≤ d → z_C d mi_X3_waiting [.ref (19 + 8 * u)] μ1 (zR μ1 (.long v))) ∧ (∃ f : Nat → Bool, v = kb f 34) := fun u => by
    by_cases hu : u < 4
    · obtain ⟨w, aw, q, sL, lL, H⟩ := hf_of R P hA hG hu
      exact ⟨WV m u w q, fun _ => ⟨cw_for H hu hc, mw_wait H.1 hu, cw_wait H hu, _, rfl⟩⟩
    · exact ⟨0, fun h => absurd h hu⟩
  exact ⟨fun u => Classical.choose (H u), fun u hu => Classical.choose_spec (H u) hu⟩
theorem WW.m {x m m' : zM} {c : Nat} {W : Nat → Int64} (h : WW x m c W) (e : SE m m') : WW x m' c W := fun u hu => ⟨(h u hu).1, fun M hM => (h u hu).2.1 M (fun r k g => (hM r k g).trans (e r k g)), (h u hu).2.2⟩
noncomputable def ovF (m : zM) (t c : Nat) (W : Nat → Int64) : zM := match t with
  | 0 => ovM0 m c (W 1) (W 2) (W 3)
  | 1 => ovM1 m c (W 0) (W 2) (W 3)
  | 2 => ovM2 m c (W 0) (W 1) (W 3)
  | _ => ovM3 m c (W 0) (W 1) (W 2)
noncomputable def lTf (x : zM) (t c : Nat) (W : Nat → Int64) : zM := lT x t ((t + 1) % 4) ((t + 2) % 4) ((t + 3) % 4) (bw (W ((t + 1) % 4)) c) (bw (W ((t + 2) % 4)) c) (bw (W ((t + 3) % 4)) c)
theorem t_four {t : Nat} (h : t < 4) : t = 0 ∨ t = 1 ∨ t = 2 ∨ t = 3 := by omega
theorem ov_go {x m : zM} {t c : Nat} {W : Nat → Int64} (hW : WW x m c W) (hA : a_H m) (ht4 : t < 4) (ht : m.1 50 45 = nI t) (hc : m.1 50 49 = nI c) : ∀ d, 701 ≤ d → z_C d mi_X7_over [.ref 50] m (fun r V => r = none ∧ SMj (ovF m t c W) V ∧ a_H V) := fun d hd => by
  have k : z_C d mi_X7_over [.ref 50] m (fun _ V => a_H V) := z_C_mono (a_use (i := 122) (K := ak_122) rfl (by omega) [.ref 50] m (aArg_pre ⟨⟨50, by decide, rfl⟩, trivial⟩ rfl) hA) (fun _ _ q => q.1)
  have g : z_C d mi_X7_over [.ref 50] m (fun r V => r = none ∧ SMj (ovF m t c W) V) := by
    obtain rfl | rfl | rfl | rfl := t_four ht4
    · exact gm_over0 d (by omega) m hA c hc ht _ (hW 1 (by decide)).2.1 _ (hW 2 (by decide)).2.1 _ (hW 3 (by decide)).2.1
    · exact gm_over1 d (by omega) m hA c hc ht _ (hW 0 (by decide)).2.1 _ (hW 2 (by decide)).2.1 _ (hW 3 (by decide)).2.1
    · exact gm_over2 d (by omega) m hA c hc ht _ (hW 0 (by decide)).2.1 _ (hW 1 (by decide)).2.1 _ (hW 3 (by decide)).2.1
    · exact gm_over3 d (by omega) m hA c hc ht _ (hW 0 (by decide)).2.1 _ (hW 1 (by decide)).2.1 _ (hW 2 (by decide)).2.1
  exact z_C_mono (zC_and d k g) (fun r V q => ⟨q.2.1, q.2.2, q.1⟩)
theorem ov_rq {x m : zM} {p t c : Nat} {W : Nat → Int64} (R : RCl x m) (P : RPh x m p t c) (hp : p = 2 ∨ p = 3) (hs : ∀ s, s < 4 → m.1 71 s = 0) : RCl (lTf x t c W) (ovF m t c W) ∧ RQ (lTf x t c W) (ovF m t c W) (if p = 2 then c else 34) ∧ (lTf x t c W).1 2 3 = (ovF m t c W).1 50 47 := by
  obtain rfl | rfl | rfl | rfl := t_four P.t4
  · exact ⟨rc_over0 R ((P.ow 0 (by decide)).trans (if_pos rfl)), rq_over0 P hp hs⟩
  · exact ⟨rc_over1 R ((P.ow 1 (by decide)).trans (if_pos rfl)), rq_over1 P hp hs⟩
  · exact ⟨rc_over2 R ((P.ow 2 (by decide)).trans (if_pos rfl)), rq_over2 P hp hs⟩
  · exact ⟨rc_over3 R ((P.ow 3 (by decide)).trans (if_pos rfl)), rq_over3 P hp hs⟩
theorem ovF_o {m : zM} {t c : Nat} {W : Nat → Int64} {r k : Nat} (h1 : r ≠ 70) (h2 : r ≠ 61) (h3 : r ≠ 50 ∨ (k ≠ 43 ∧ k ≠ 59)) : (ovF m t c W).1 r k = m.1 r k := by
  have U : ∀ (i : Nat) (a b e : Int32), (z_ui (z_ui (z_ui m 61 i a) 50 43 b) 50 59 e).1 r k = m.1 r k := fun i a b e => by
    by_cases q : r = 50
    · subst q; rw [ui_k (by first | decide | omega), ui_k (by first | decide | omega), ui_o h2]
    · rw [ui_o q, ui_o q, ui_o h2]
  unfold ovF
  split
  · unfold ovM0; cases decide (m.1 50 59 = 0)
    · rw [cond_false, lgM_o h1, lgM_o h1, lgM_o h1, U]
    · rw [cond_true, lgM_o h1, lgM_o h1, lgM_o h1]
  · unfold ovM1; cases decide (m.1 50 59 = 0)
    · rw [cond_false, lgM_o h1, lgM_o h1, lgM_o h1, U]
    · rw [cond_true, lgM_o h1, lgM_o h1, lgM_o h1]
  · unfold ovM2; cases decide (m.1 50 59 = 0)
    · rw [cond_false, lgM_o h1, lgM_o h1, lgM_o h1, U]
    · rw [cond_true, lgM_o h1, lgM_o h1, lgM_o h1]
  · unfold ovM3; cases decide (m.1 50 59 = 0)
    · rw [cond_false, lgM_o h1, lgM_o h1, lgM_o h1, U]
    · rw [cond_true, lgM_o h1, lgM_o h1, lgM_o h1]
/-- who may claim a SET: as the contracts ask -/
theorem mMC_0 {m : zM} {s : Nat} {v : Int32} : mMC (z_ui m 50 0 v) s = mMC m s := by
  unfold mMC anS
  simp (disch := first | decide | exact ad_ne (by decide) | exact ad_m (by decide) | exact ad_l (by decide) | exact ad_g (by decide) | exact ad_lt (by decide) | exact ad_o (by decide) | omega) only [ui_o, ui_k]
theorem mMC_e {m m' : zM} {s : Nat} (h : EqM m m') : mMC m' s = mMC m s := by
  have e : ∀ k, 40 ≤ k → k ≤ 59 → m'.1 50 k = m.1 50 k := fun k h1 h2 => (h 50 k (Or.inr ⟨rfl, h1, h2⟩)).1
  have e7 : ∀ k, m'.1 71 k = m.1 71 k := fun k => (h 71 k (Or.inl ⟨by decide, by decide⟩)).1
  unfold mMC anS
  rw [e 44 (by decide) (by decide), e 45 (by decide) (by decide), e 47 (by decide) (by decide), e 46 (by decide) (by decide), (h 67 s (Or.inl ⟨by decide, by decide⟩)).1, e7 0, e7 1, e7 2, e7 3]
theorem mC_x {μ : zM} {s : Nat} (hs : s < 4) {b : Bool} (h : xMC μ s = b) : ∀ d, 3 ≤ d → z_C d mi_X6_mayClaimSet [.ref 0, .int (nI s)] μ (zR μ (.int (nB b))) := fun d hd => by
  rw [← h]; exact gc_mayClaimSet d hd μ s hs
theorem mC_m {μ : zM} {s : Nat} (hs : s < 4) {b : Bool} (h : mMC μ s = b) : ∀ d, 2 ≤ d → z_C d mi_X7_mayClaim [.ref 50, .int (nI s)] (z_ui μ 50 0 0) (zR (z_ui μ 50 0 0) (.int (nB b))) := fun d hd => by
  rw [← h, ← mMC_0 (m := μ) (v := 0)]
  exact gm_mayClaim d hd (z_ui μ 50 0 0) s hs
theorem or_ff {a b : Bool} (h : (a || b) = false) : a = false ∧ b = false := by cases a <;> cases b <;> first | exact ⟨rfl, rfl⟩ | cases h
theorem not_t {a : Bool} (h : (!a) = true) : a = false := by cases a; rfl; cases h
theorem not_f {a : Bool} (h : (!a) = false) : a = true := by cases a; cases h; rfl
theorem an_z {m : zM} (h : anS m = false) : ∀ s, s < 4 → m.1 71 s = 0 := by
  unfold anS at h
  obtain ⟨a, h⟩ := or_ff h
  obtain ⟨b, h⟩ := or_ff h
  obtain ⟨c, h⟩ := or_ff h
  intro s hs
  obtain rfl | rfl | rfl | rfl := t_four hs
  · exact of_decide_eq_true (not_f a)
  · exact of_decide_eq_true (not_f b)
  · exact of_decide_eq_true (not_f c)
  · exact of_decide_eq_true (not_f h)
theorem mc_in {x m : zM} {s : Nat} (hR : RG x m) (h : mMC m s = true) : ∃ t c, RPh x m 2 t c ∧ c < 34 ∧ (∀ j, j < 4 → m.1 71 j = 0) ∧ decide (122 - m.1 50 47 - m.1 50 46 ≤ 0) = false ∧ decide (nI s = m.1 50 45) = false := by
  unfold mMC at h
  obtain ⟨a, h⟩ := z_and h
  obtain ⟨b, h⟩ := z_and h
  obtain ⟨c, h⟩ := z_and h
  obtain ⟨e, h⟩ := z_and h
  have a := of_decide_eq_true a
  rcases hR.2 with ⟨p1, p2, -, -, -⟩ | ⟨p, t, k, P⟩
  · rw [p2] at a; exact absurd a (by decide)
  · have hp : p = 2 := by
      rw [P.pm] at a
      rcases P.p3 with q | q | q
      · rw [q] at a; exact absurd a (by decide)
      · exact q
      · rw [q] at a; exact absurd a (by decide)
    subst hp
    refine ⟨t, k, P, ?_, an_z (not_t b), not_t c, not_t e⟩
    rcases P.c3 with q | ⟨_, q⟩
    · exact q
    · exact absurd q (by decide)
/-- a hand of which two tiles go has fewer than four SETS -/
theorem q3_of {μ : zM} {s q : Nat} (hG : GP μ) (hs : s < 4) (hp : ¬ μ.1 50 44 = 1) (hq : μ.1 64 s = nI q) (hq4 : q ≤ 4) (h2 : 2 ≤ hs9 μ s) : q ≤ 3 := by
  have g1 := hG.1.2 s hs
  have g3 : glim μ s ≤ 13 := by unfold glim; rw [if_neg (by intro z; exact hp z.1)]; decide
  have g5 : mI μ s = q := by unfold mI; rw [hq]; exact nI_toInt (by omega)
  unfold hs9 at h2
  omega
/-! three answers alike -/
set_option maxRecDepth 8000
theorem nI_le2 {a b : Nat} (ha : a < 1000) (hb : b < 1000) : decide (nI a ≤ nI b) = decide (a ≤ b) := by
  by_cases e : a ≤ b
  · rw [decide_eq_true e]; exact decide_eq_true (by rw [Int32.le_iff_toInt_le, nI_toInt (by omega), nI_toInt (by omega)]; omega)
  · rw [decide_eq_false e]; exact decide_eq_false (by rw [Int32.le_iff_toInt_le, nI_toInt (by omega), nI_toInt (by omega)]; omega)
theorem nI_lt2 {a b : Nat} (ha : a < 1000) (hb : b < 1000) : decide (nI a < nI b) = decide (a < b) := by
  by_cases e : a < b
  · rw [decide_eq_true e]; exact decide_eq_true (by rw [Int32.lt_iff_toInt_lt, nI_toInt (by omega), nI_toInt (by omega)]; omega)
  · rw [decide_eq_false e]; exact decide_eq_false (by rw [Int32.lt_iff_toInt_lt, nI_toInt (by omega), nI_toInt (by omega)]; omega)
theorem or_z (a : Int64) : a ||| 0 = a := by
  apply Int64.toBitVec_inj.mp
  rw [Int64.toBitVec_or]
  exact BitVec.or_zero
theorem m4_of {μ : zM} (hA : a_H μ) : ∀ j, j < 4 → (μ.1 64 j).toNatClampNeg ≤ 4 := fun j hj => by
  obtain ⟨a, b1, b2⟩ := i_nat (v := μ.1 64 j) (n := 4) (hA 64 j).1 (hA 64 j).2 (by decide)
  rw [b2, nI_clamp (by omega)]; exact b1
theorem isS_x {μ : zM} {y : Int32} (h : ¬ vp_in y 4) : ∀ d, 1 ≤ d → z_C d mi_X6_isSeat [.int y] μ (zR μ (.int 0)) := fun d hd => by
  have z := gc_isSeat d hd μ y
  rw [show (!(decide (y < 0)) && (!(decide (4 ≤ y)))) = false from sI_no h] at z
  exact z
theorem lg_three {d : Nat} (hd : 705 ≤ d) {μ : zM} (h : LGm μ) (x : Int32) : GO d mi_X6_three mi_X7_three [.ref 0, .int x] [.ref 50, .int x] μ := by
  obtain ⟨hJ, hR⟩ := h
  have kx : z_C d mi_X6_three [.ref 0, .int x] μ (fun _ μ' => LJ μ' ∧ EqM μ μ') := lg_k (i := 62) (K := ak_62) rfl (by omega) (by decide +kernel) (by decide +kernel) rfl (by decide +kernel) [.ref 0, .int x] μ hJ ⟨⟨0, by decide, rfl⟩, ⟨_, rfl, bI_top _⟩, trivial⟩
  have km : ∀ μ1, LJ μ1 → z_C d mi_X7_three [.ref 50, .int x] μ1 (fun _ μ' => LJ μ' ∧ EqX μ1 μ') := fun μ1 h1 => lg_g h1 (fc_X7_three d (by omega) μ1 x h1.1)
  have hA := hJ.1.1
  by_cases hx : vp_in x 4
  · obtain ⟨s, hs, rfl⟩ := vp_in_of hx (by decide)
    have eq := mc_eq hR hs
    cases hm : mMC μ s with
    | false => exact go_no hR kx km (gx_three d (by omega) μ _ (mC_x hs (eq.trans hm))) (mr_three d (by omega) μ _ (mC_m hs hm))
    | true =>
      have hx1 := mC_x hs (eq.trans hm)
      have hm1 := mC_m hs hm
      obtain ⟨t, c, P, hc, hsy, -⟩ := mc_in hR hm
      have R := hR.1
      have hp0 : ¬ μ.1 50 44 = 0 := by rw [P.pm]; decide
      have hp1 : ¬ μ.1 50 44 = 1 := by rw [P.pm]; decide
      have G := hJ.1.2.2 hp0
      have ht4 := P.t4
      obtain ⟨W, hW⟩ := ww_of R P hA G hc
      obtain ⟨w, aw, q, sL, lL, H⟩ := hf_of R P hA G hs
      have cx : μ.1 0 15 = nI c := P.cx.trans (if_neg (by omega))
      have cm : μ.1 50 49 = nI c := P.cm.trans (if_neg (by omega))
      have hwc := H.1.1 c hc
      have fx : fr μ (20 + 8 * s) (nI c) = nI (w c) := by rw [fr_yes hc, R.hd s c hs hc]; exact hwc.1
      by_cases h2 : 2 ≤ w c
      · have f2 : decide (2 ≤ fr μ (20 + 8 * s) (nI c)) = true := by rw [fx]; exact (nI_le2 (a := 2) (by decide) (by omega)).trans (decide_eq_true h2)
        have hq3 : q ≤ 3 := q3_of G hs hp1 H.1.2.1 H.1.2.2.1 (by
          have g2 := G.1.le hs hc
          have g4 : hI μ (34 * s + c) = w c := by unfold hI; rw [hwc.1]; exact nI_toInt (by omega)
          unfold hs9
          omega)
        cases hk : kA (koF μ s 0 ((1 : Int64) <<< ((nI c).toInt64 &&& 63))) 34 with
        | true =>
          have hko : ∀ d, 3 ≤ d → z_C d mi_X6_keepsOther [.ref (19 + 8 * s), .long 0, .long (1 <<< ((nI c).toInt64 &&& 63))] μ (zR μ (.int (nB true))) := fun d hd => by rw [← hk]; exact gc_keepsOther d (by omega) μ s hs _ _
          refine go_yes (X := z_uj (tkS μ s c q 1 t c ((t + 1) % 4) ((t + 2) % 4) ((t + 3) % 4) (bw (W ((t + 1) % 4)) c) (bw (W ((t + 2) % 4)) c) (bw (W ((t + 3) % 4)) c)) 0 18 (1 <<< ((nI c).toInt64 &&& 63))) (y := 1) kx km (z_C_mono (gc_three d (by omega) μ s q hs hq3 H.2.2.2.1 t c ((t + 1) % 4) ((t + 2) % 4) ((t + 3) % 4) _ _ _ ht4 P.tx hc cx rfl (Nat.mod_lt _ (by decide)) (hW ((t + 1) % 4) (Nat.mod_lt _ (by decide))).1 rfl (Nat.mod_lt _ (by decide)) (hW ((t + 2) % 4) (Nat.mod_lt _ (by decide))).1 rfl (Nat.mod_lt _ (by decide)) (hW ((t + 3) % 4) (Nat.mod_lt _ (by decide))).1 (by rw [show zl 1 = 0 from by decide]; omega) true hx1 true hko) (fun r μ' z => ?_)) (fun μ1 h1 qM => ?_)
          · rw [f2] at z
            simp only [cond_true, cond_false] at z
            exact ⟨z.1, by rw [z.2]; exact eqX_rf _⟩
          · have E : ∀ r k', gMc r k' → μ1.1 r k' = μ.1 r k' := fun r k' g => (qM r k' g).1
            have eB : EqB μ (z_giv (z_giv (z_ui (z_ui (z_ui μ1 50 0 0) 50 50 (nI c)) 50 51 (-1)) s c (-2)) s c 2) := eB_tr (eB_M qM) (eB_tr (eB_0 μ1 0) (eB_tr (eB_50 _ _ _) (eB_g (by decide))))
            have hA' : a_H (z_giv (z_giv (z_ui (z_ui (z_ui μ1 50 0 0) 50 50 (nI c)) 50 51 (-1)) s c (-2)) s c 2) := a_H_ui (a_H_ui (a_H_ui (a_H_ui (a_H_ui h1.1.1 (bI_top _)) (bI_top _)) (bI_top _)) (bI_top _)) (bI_top _)
            have e50 : (z_giv (z_giv (z_ui (z_ui (z_ui μ1 50 0 0) 50 50 (nI c)) 50 51 (-1)) s c (-2)) s c 2).1 50 50 = nI c := by rw [giv_o (by decide), giv_o (by decide), ui_k (by decide), ui_s]
            have e51 : (z_giv (z_giv (z_ui (z_ui (z_ui μ1 50 0 0) 50 50 (nI c)) 50 51 (-1)) s c (-2)) s c 2).1 50 51 = -1 := by rw [giv_o (by decide), giv_o (by decide), ui_s]
            have hcd : ∀ d, 2 ≤ d → z_C d mi_X7_canDiscard [.ref 50, .int (nI s)] (z_giv (z_ui (z_ui (z_ui μ1 50 0 0) 50 50 (nI c)) 50 51 (-1)) s c (-2)) (zR (z_giv (z_ui (z_ui (z_ui μ1 50 0 0) 50 50 (nI c)) 50 51 (-1)) s c (-2)) (.int (nB true))) := fun d hd => by
              have z := gm_canDiscard d hd (z_giv (z_ui (z_ui (z_ui μ1 50 0 0) 50 50 (nI c)) 50 51 (-1)) s c (-2)) s hs
              rw [← ko_three (x := μ) (R.cg (eqX_rf _) qM) hs hc, hk] at z
              exact z
            revert eB hA' e50 e51
            generalize hM : z_giv (z_giv (z_ui (z_ui (z_ui μ1 50 0 0) 50 50 (nI c)) 50 51 (-1)) s c (-2)) s c 2 = M
            intro eB hA' e50 e51
            have R' := R.cgB eB
            have P' := P.cgB eB (by decide)
            have ov := ov_go (hW.m (eB_SE eB)) hA' ht4 P'.tm (P'.cm.trans (if_neg (by omega)))
            obtain ⟨RO, QO, fO⟩ := ov_rq (W := W) R' P' (Or.inl rfl) (fun j hj => (eB 71 j (Or.inl ⟨by decide, by decide⟩) (by omega)).1.trans (hsy j hj))
            rw [if_pos rfl] at QO
            have o64 : ∀ j, (ovF M t c W).1 64 j = μ.1 64 j := fun j => (ovF_o (by decide) (by decide) (Or.inl (by decide))).trans (eB 64 j (Or.inl ⟨by decide, by decide⟩) (by omega)).1
            have o49 : (ovF M t c W).1 50 49 = nI c := (ovF_o (by decide) (by decide) (Or.inr ⟨by decide, by decide⟩)).trans (P'.cm.trans (if_neg (by omega)))
            refine z_C_mono (gm_three d (by omega) μ1 s c q hs hc ((E 50 49 (Or.inr ⟨rfl, by decide, by decide⟩)).trans cm) (by omega) true (mC_m hs ((mMC_e qM).trans hm)) true hcd (ovF M t c W) (fun d hd => by rw [hM]; exact z_C_mono (ov d hd) (fun r V z => ⟨z.1, z.2.1⟩)) o49 ((o64 s).trans H.1.2.1)) (fun r μ' z => ?_)
            rcases z with ⟨-, z2, z3⟩ | ⟨z1, -, -⟩
            · refine ⟨z2, ?_⟩
              have g := rg_three (bs := (1 : Int64) <<< ((nI c).toInt64 &&& 63)) RO QO fO hs hc hq3 ((o64 s).trans H.1.2.1) (fun j hj => by rw [o64]; exact m4_of hA j hj) (by rw [ovF_o (by decide) (by decide) (Or.inr ⟨by decide, by decide⟩), ovF_o (by decide) (by decide) (Or.inr ⟨by decide, by decide⟩), e50, e51, show decide ((-1 : Int32) = -1) = true from by decide, cond_true, or_z]) ⟨c, hc, (ovF_o (by decide) (by decide) (Or.inr ⟨by decide, by decide⟩)).trans e50, Or.inl ((ovF_o (by decide) (by decide) (Or.inr ⟨by decide, by decide⟩)).trans e51)⟩
              exact RG.cg (eqX_rf _) (sm_EqM z3) g
            · exfalso
              have y : decide (2 ≤ μ1.1 60 (34 * s + c)) = true := by rw [E 60 _ (Or.inl ⟨by decide, by decide⟩), hwc.1]; exact (nI_le2 (a := 2) (by decide) (by omega)).trans (decide_eq_true h2)
              unfold thC at z1
              rw [y] at z1
              cases z1
        | false =>
          have hko : ∀ d, 3 ≤ d → z_C d mi_X6_keepsOther [.ref (19 + 8 * s), .long 0, .long (1 <<< ((nI c).toInt64 &&& 63))] μ (zR μ (.int (nB false))) := fun d hd => by rw [← hk]; exact gc_keepsOther d (by omega) μ s hs _ _
          refine go_yes (X := μ) (y := 0) kx km (z_C_mono (gc_three d (by omega) μ s q hs hq3 H.2.2.2.1 t c ((t + 1) % 4) ((t + 2) % 4) ((t + 3) % 4) _ _ _ ht4 P.tx hc cx rfl (Nat.mod_lt _ (by decide)) (hW ((t + 1) % 4) (Nat.mod_lt _ (by decide))).1 rfl (Nat.mod_lt _ (by decide)) (hW ((t + 2) % 4) (Nat.mod_lt _ (by decide))).1 rfl (Nat.mod_lt _ (by decide)) (hW ((t + 3) % 4) (Nat.mod_lt _ (by decide))).1 (by rw [show zl 1 = 0 from by decide]; omega) true hx1 false hko) (fun r μ' z => ?_)) (fun μ1 h1 qM => ?_)
          · rw [f2] at z
            simp only [cond_true, cond_false] at z
            exact ⟨z.1, by rw [z.2]; exact eqX_rf _⟩
          · have E : ∀ r k', gMc r k' → μ1.1 r k' = μ.1 r k' := fun r k' g => (qM r k' g).1
            have eB : EqB μ (z_giv (z_giv (z_ui (z_ui (z_ui μ1 50 0 0) 50 50 (nI c)) 50 51 (-1)) s c (-2)) s c 2) := eB_tr (eB_M qM) (eB_tr (eB_0 μ1 0) (eB_tr (eB_50 _ _ _) (eB_g (by decide))))
            have hA' : a_H (z_giv (z_giv (z_ui (z_ui (z_ui μ1 50 0 0) 50 50 (nI c)) 50 51 (-1)) s c (-2)) s c 2) := a_H_ui (a_H_ui (a_H_ui (a_H_ui (a_H_ui h1.1.1 (bI_top _)) (bI_top _)) (bI_top _)) (bI_top _)) (bI_top _)
            have hcd : ∀ d, 2 ≤ d → z_C d mi_X7_canDiscard [.ref 50, .int (nI s)] (z_giv (z_ui (z_ui (z_ui μ1 50 0 0) 50 50 (nI c)) 50 51 (-1)) s c (-2)) (zR (z_giv (z_ui (z_ui (z_ui μ1 50 0 0) 50 50 (nI c)) 50 51 (-1)) s c (-2)) (.int (nB false))) := fun d hd => by
              have z := gm_canDiscard d hd (z_giv (z_ui (z_ui (z_ui μ1 50 0 0) 50 50 (nI c)) 50 51 (-1)) s c (-2)) s hs
              rw [← ko_three (x := μ) (R.cg (eqX_rf _) qM) hs hc, hk] at z
              exact z
            revert eB hA'
            generalize hM : z_giv (z_giv (z_ui (z_ui (z_ui μ1 50 0 0) 50 50 (nI c)) 50 51 (-1)) s c (-2)) s c 2 = M
            intro eB hA'
            have R' := R.cgB eB
            have P' := P.cgB eB (by decide)
            have ov := ov_go (hW.m (eB_SE eB)) hA' ht4 P'.tm (P'.cm.trans (if_neg (by omega)))
            have o64 : ∀ j, (ovF M t c W).1 64 j = μ.1 64 j := fun j => (ovF_o (by decide) (by decide) (Or.inl (by decide))).trans (eB 64 j (Or.inl ⟨by decide, by decide⟩) (by omega)).1
            have o49 : (ovF M t c W).1 50 49 = nI c := (ovF_o (by decide) (by decide) (Or.inr ⟨by decide, by decide⟩)).trans (P'.cm.trans (if_neg (by omega)))
            have z := gm_three d (by omega) μ1 s c q hs hc ((E 50 49 (Or.inr ⟨rfl, by decide, by decide⟩)).trans cm) (by omega) true (mC_m hs ((mMC_e qM).trans hm)) false hcd (ovF M t c W) (fun d hd => by rw [hM]; exact z_C_mono (ov d hd) (fun r V z => ⟨z.1, z.2.1⟩)) o49 ((o64 s).trans H.1.2.1)
            rw [hM] at z
            refine z_C_mono z (fun r μ' z => ?_)
            rcases z with ⟨z1, -, -⟩ | ⟨-, z2, z3⟩
            · exfalso
              unfold thC at z1
              rw [Bool.and_false] at z1
              cases z1
            · refine ⟨z2, ?_⟩
              rcases z3 with z3 | z3
              · rw [z3]; exact RG.cgB2 R P (eB_tr (eB_M qM) (eB_0 μ1 0))
              · rw [z3]; exact RG.cgB2 R P eB
      · have f2 : decide (2 ≤ nI (w c)) = false := (nI_le2 (a := 2) (by decide) (by omega)).trans (decide_eq_false h2)
        exact go_no hR kx km (gx_threeF d (by omega) μ s c hs cx hx1 (by rw [fx]; exact f2)) (mr_threeH d (by omega) μ s c hs hc cm hm1 (by rw [hwc.1]; exact f2))
  · exact go_no hR kx km (gx_three d (by omega) μ x (fun d hd => z_C_mono (gx_mayClaim d (by omega) μ x (isS_x hx)) (fun r m z => ⟨z.2, z.1⟩))) (mr_three d (by omega) μ x (fun d hd => z_C_mono (mr_mayClaim d (by omega) _ x (isS_no hx)) (fun r m z => ⟨z.2, z.1⟩)))
/-! four answers alike -/
set_option maxRecDepth 8000
theorem lg_four {d : Nat} (hd : 705 ≤ d) {μ : zM} (h : LGm μ) (x : Int32) : GO d mi_X6_four mi_X7_four [.ref 0, .int x] [.ref 50, .int x] μ := by
  obtain ⟨hJ, hR⟩ := h
  have kx : z_C d mi_X6_four [.ref 0, .int x] μ (fun _ μ' => LJ μ' ∧ EqM μ μ') := lg_k (i := 63) (K := ak_63) rfl (by omega) (by decide +kernel) (by decide +kernel) rfl (by decide +kernel) [.ref 0, .int x] μ hJ ⟨⟨0, by decide, rfl⟩, ⟨_, rfl, bI_top _⟩, trivial⟩
  have km : ∀ μ1, LJ μ1 → z_C d mi_X7_four [.ref 50, .int x] μ1 (fun _ μ' => LJ μ' ∧ EqX μ1 μ') := fun μ1 h1 => lg_g h1 (fc_X7_four d (by omega) μ1 x h1.1)
  have hA := hJ.1.1
  by_cases hx : vp_in x 4
  · obtain ⟨s, hs, rfl⟩ := vp_in_of hx (by decide)
    have eq := mc_eq hR hs
    cases hm : mMC μ s with
    | false => exact go_no hR kx km (gx_four d (by omega) μ _ (mC_x hs (eq.trans hm))) (mr_four d (by omega) μ _ (mC_m hs hm))
    | true =>
      have hx1 := mC_x hs (eq.trans hm)
      have hm1 := mC_m hs hm
      obtain ⟨t, c, P, hc, hsy, -⟩ := mc_in hR hm
      have R := hR.1
      have hp0 : ¬ μ.1 50 44 = 0 := by rw [P.pm]; decide
      have hp1 : ¬ μ.1 50 44 = 1 := by rw [P.pm]; decide
      have G := hJ.1.2.2 hp0
      have ht4 := P.t4
      obtain ⟨W, hW⟩ := ww_of R P hA G hc
      obtain ⟨w, aw, q, sL, lL, H⟩ := hf_of R P hA G hs
      have cx : μ.1 0 15 = nI c := P.cx.trans (if_neg (by omega))
      have cm : μ.1 50 49 = nI c := P.cm.trans (if_neg (by omega))
      have hwc := H.1.1 c hc
      have fx : fr μ (20 + 8 * s) (nI c) = nI (w c) := by rw [fr_yes hc, R.hd s c hs hc]; exact hwc.1
      by_cases h2 : w c < 3
      · have f2 : decide (nI (w c) < 3) = true := (nI_lt2 (b := 3) (by omega) (by decide)).trans (decide_eq_true h2)
        exact go_no hR kx km (gx_fourF d (by omega) μ s c hs cx hx1 (by rw [fx]; exact f2)) (mr_fourH d (by omega) μ s c hs hc cm hm1 (by rw [hwc.1]; exact f2))
      · have f2 : decide (nI (w c) < 3) = false := (nI_lt2 (b := 3) (by omega) (by decide)).trans (decide_eq_false h2)
        have hq3 : q ≤ 3 := q3_of G hs hp1 H.1.2.1 H.1.2.2.1 (by
          have g2 := G.1.le hs hc
          have g4 : hI μ (34 * s + c) = w c := by unfold hI; rw [hwc.1]; exact nI_toInt (by omega)
          unfold hs9
          omega)
        obtain ⟨n, hn1, hn2⟩ := i_nat (v := μ.1 50 47) (n := 4) (hA 50 47).1 (hA 50 47).2 (by decide)
        obtain ⟨k2, hk2a, hk2b⟩ := i_nat (v := μ.1 59 (122 + n)) (n := 33) (hA 59 _).1 (hA 59 _).2 (by decide)
        have hk2 : k2 < 34 := by omega
        have e48 : μ.1 50 48 = nI n := G.2.2.1.trans hn2
        have cc := gc_four d (by omega) μ s q hs hq3 H.2.2.2.1 n k2 (by omega) (P.fo.trans hn2) (R.sd.trans P.is) hk2 ((R.wl _ (by omega)).trans hk2b) t c ((t + 1) % 4) ((t + 2) % 4) ((t + 3) % 4) _ _ _ ht4 P.tx hc cx rfl (Nat.mod_lt _ (by decide)) (hW ((t + 1) % 4) (Nat.mod_lt _ (by decide))).1 rfl (Nat.mod_lt _ (by decide)) (hW ((t + 2) % 4) (Nat.mod_lt _ (by decide))).1 rfl (Nat.mod_lt _ (by decide)) (hW ((t + 3) % 4) (Nat.mod_lt _ (by decide))).1 (by rw [show zl 2 = 0 from by decide]; omega) true hx1
        rw [fx, f2, P.fo, hn2] at cc
        have mm : ∀ μ1, LJ μ1 → EqM μ μ1 → z_C d mi_X7_four [.ref 50, .int (nI s)] μ1 (fun r μ' => (foC μ1 s c true = true ∧ r = some (.int 1) ∧ SMj (dM1 (z_ui (toM (z_lys (z_giv (ovF (z_ui μ1 50 0 0) t c W) s c (-3)) s q 2 (nI c))) 50 47 ((ovF (z_ui μ1 50 0 0) t c W).1 50 47 + 1)) s n k2) μ') ∨ (foC μ1 s c true = false ∧ r = some (.int 0) ∧ μ' = z_ui μ1 50 0 0)) := fun μ1 h1 qM => by
          have E : ∀ r k', gMc r k' → μ1.1 r k' = μ.1 r k' := fun r k' g => (qM r k' g).1
          have eB : EqM μ (z_ui μ1 50 0 0) := eqM_tr qM (t0_EqM μ1 0)
          have P' := P.cg (eqX_rf _) eB
          have o : ∀ r k, gMc r k → r ≠ 70 → r ≠ 61 → (r ≠ 50 ∨ (k ≠ 43 ∧ k ≠ 59)) → (ovF (z_ui μ1 50 0 0) t c W).1 r k = μ.1 r k := fun r k g z1 z2 z3 => (ovF_o z1 z2 z3).trans (eB r k g).1
          have ov := ov_go (hW.m (eB_SE (eB_M eB))) (a_H_ui h1.1.1 (bI_top _)) ht4 P'.tm (P'.cm.trans (if_neg (by omega)))
          exact gm_four d (by omega) μ1 s c q n k2 hs hc ((E 50 49 (Or.inr ⟨rfl, by decide, by decide⟩)).trans cm) (by omega) true (mC_m hs ((mMC_e qM).trans hm)) (ovF (z_ui μ1 50 0 0) t c W) (fun d hd => z_C_mono (ov d hd) (fun r V z => ⟨z.1, z.2.1⟩)) ((o 50 49 (Or.inr ⟨rfl, by decide, by decide⟩) (by decide) (by decide) (Or.inr ⟨by decide, by decide⟩)).trans cm) ((o 64 s (Or.inl ⟨by decide, by decide⟩) (by decide) (by decide) (Or.inl (by decide))).trans H.1.2.1) (by omega) ((o 50 48 (Or.inr ⟨rfl, by decide, by decide⟩) (by decide) (by decide) (Or.inr ⟨by decide, by decide⟩)).trans e48) hk2 ((o 59 _ (Or.inl ⟨by decide, by decide⟩) (by decide) (by decide) (Or.inl (by decide))).trans hk2b)
        by_cases hn4 : n < 4
        · have f4 : decide (nI n < 4) = true := (nI_lt2 (b := 4) (by omega) (by decide)).trans (decide_eq_true hn4)
          rw [f4] at cc
          simp only [cond_true, cond_false] at cc
          refine go_yes (X := dT1 (bkH (tkS μ s c q 2 t c ((t + 1) % 4) ((t + 2) % 4) ((t + 3) % 4) (bw (W ((t + 1) % 4)) c) (bw (W ((t + 2) % 4)) c) (bw (W ((t + 3) % 4)) c))) s n k2) (y := 1) kx km (z_C_mono cc (fun r μ' z => ⟨z.1, by rw [z.2]; exact eqX_rf _⟩)) (fun μ1 h1 qM => z_C_mono (mm μ1 h1 qM) (fun r μ' z => ?_))
          have E : ∀ r k', gMc r k' → μ1.1 r k' = μ.1 r k' := fun r k' g => (qM r k' g).1
          have eB : EqM μ (z_ui μ1 50 0 0) := eqM_tr qM (t0_EqM μ1 0)
          rcases z with ⟨-, z2, z3⟩ | ⟨z1, -, -⟩
          · refine ⟨z2, ?_⟩
            revert eB z3
            generalize z_ui μ1 50 0 0 = M
            intro eB z3
            have R' := R.cg (eqX_rf _) eB
            have P' := P.cg (eqX_rf _) eB
            have o : ∀ r k, gMc r k → r ≠ 70 → r ≠ 61 → (r ≠ 50 ∨ (k ≠ 43 ∧ k ≠ 59)) → (ovF M t c W).1 r k = μ.1 r k := fun r k g z1 z2 z3 => (ovF_o z1 z2 z3).trans (eB r k g).1
            obtain ⟨RO, QO, fO⟩ := ov_rq (W := W) R' P' (Or.inl rfl) (fun j hj => (eB 71 j (Or.inl ⟨by decide, by decide⟩)).1.trans (hsy j hj))
            rw [if_pos rfl] at QO
            have g := rg_four (n := n) (k2 := k2) RO QO hs hc hq3 ((o 64 s (Or.inl ⟨by decide, by decide⟩) (by decide) (by decide) (Or.inl (by decide))).trans H.1.2.1) (fun j hj => by rw [o 64 j (Or.inl ⟨by decide, by decide⟩) (by decide) (by decide) (Or.inl (by decide))]; exact m4_of hA j hj) hn4 ((o 50 47 (Or.inr ⟨rfl, by decide, by decide⟩) (by decide) (by decide) (Or.inr ⟨by decide, by decide⟩)).trans hn2) ((o 50 48 (Or.inr ⟨rfl, by decide, by decide⟩) (by decide) (by decide) (Or.inr ⟨by decide, by decide⟩)).trans e48) hk2 ((o 59 _ (Or.inl ⟨by decide, by decide⟩) (by decide) (by decide) (Or.inl (by decide))).trans hk2b) (by rw [o 50 46 (Or.inr ⟨rfl, by decide, by decide⟩) (by decide) (by decide) (Or.inr ⟨by decide, by decide⟩)]; exact hA 50 46) (by
              rw [giv_60, o 60 _ (Or.inl ⟨by decide, by decide⟩) (by decide) (by decide) (Or.inl (by decide)), (H.1.1 k2 hk2).1]
              by_cases e : 34 * s + k2 = 34 * s + c
              · have e : k2 = c := by omega
                rw [if_pos (by omega), e]
                obtain e4 | e4 : w c = 3 ∨ w c = 4 := by omega
                · rw [e4]; decide
                · rw [e4]; decide
              · rw [if_neg e]; exact of_decide_eq_false (kn_m1 (by have := (H.1.1 k2 hk2).2; omega)))
            exact RG.cg (eqX_rf _) (sm_EqM z3) g
          · exfalso
            unfold foC at z1
            rw [E 60 _ (Or.inl ⟨by decide, by decide⟩), hwc.1, f2, E 50 47 (Or.inr ⟨rfl, by decide, by decide⟩), hn2, show decide (nI n = 4) = false from decide_eq_false (fun e => by have := (nI_eq (a := n) (b := 4) (by omega) (by decide)).mp e; omega)] at z1
            cases z1
        · have f4 : decide (nI n < 4) = false := (nI_lt2 (b := 4) (by omega) (by decide)).trans (decide_eq_false hn4)
          rw [f4] at cc
          simp only [cond_true, cond_false] at cc
          refine go_no hR kx km cc (z_C_mono (mm μ hJ (eqM_rf _)) (fun r μ' z => ?_))
          rcases z with ⟨z1, -, -⟩ | ⟨-, z2, z3⟩
          · exfalso
            obtain rfl : n = 4 := by omega
            unfold foC at z1
            rw [hn2, show decide (nI 4 = 4) = true from by decide, Bool.not_true, Bool.and_false] at z1
            cases z1
          · exact ⟨z2, z3⟩
  · exact go_no hR kx km (gx_four d (by omega) μ x (fun d hd => z_C_mono (gx_mayClaim d (by omega) μ x (isS_x hx)) (fun r m z => ⟨z.2, z.1⟩))) (mr_four d (by omega) μ x (fun d hd => z_C_mono (mr_mayClaim d (by omega) _ x (isS_no hx)) (fun r m z => ⟨z.2, z.1⟩)))
/-! run answers alike: what may not be discarded -/
set_option maxRecDepth 8000
noncomputable def abL0 (l : Nat) : Int32 := (bif decide (6 ≤ ((nI l) - (nI l) / 9 * 9)) then (-1 : Int32) else nI (l + 3))
noncomputable def oeL0 (l : Nat) : Int64 := (bif srB (nI l + 1) then (1 : Int64) <<< ((nI l + 3).toInt64 &&& 63) else 0)
noncomputable def bsL0 (l : Nat) : Int64 := ((1 : Int64) <<< ((nI l).toInt64 &&& 63)) ||| oeL0 l
noncomputable def usL0 (l : Nat) : Int64 := ((7 : Int64) <<< ((nI l).toInt64 &&& 63)) &&& (((1 : Int64) <<< ((nI l).toInt64 &&& 63)) ^^^ (-1))
theorem oe_eq0 : ∀ l, l < 32 → (bif decide ((nI l) = nI l) then bif srB (nI l + 1) then 1 <<< ((nI l + 3).toInt64 &&& 63) else bif decide ((nI l) = (nI l + 2)) then bif decide (nI l ≤ 0) then (0 : Int64) else bif srB (nI l - 1) then 1 <<< ((nI l - 1).toInt64 &&& 63) else 0 else 0 else bif decide ((nI l) = (nI l + 2)) then bif decide (nI l ≤ 0) then (0 : Int64) else bif srB (nI l - 1) then 1 <<< ((nI l - 1).toInt64 &&& 63) else 0 else 0) = oeL0 l := by decide +kernel
theorem us_hd0 : ∀ l, l < 32 → ∀ k, k < 34 → xHd (usL0 l) (nI k) = (decide (k = (l + 1)) || decide (k = (l + 2))) := by decide +kernel
theorem bs_hd0 : ∀ l, l < 32 → srB (nI l) = true → ∀ k, k < 34 → xHd (bsL0 l) (nI k) = (decide (nI k = nI l) || decide (nI k = abL0 l)) := by decide +kernel
theorem bs_eq0 : ∀ l, l < 32 → srB (nI l) = true → bsL0 l = (((1 : Int64) <<< ((nI l).toInt64 &&& 63)) ||| (bif decide (abL0 l = -1) then (0 : Int64) else 1 <<< ((abL0 l).toInt64 &&& 63))) := by decide +kernel
theorem ab_k0 (l : Nat) (hl : l < 32) (h : srB (nI l) = true) : abL0 l = -1 ∨ ∃ e, e < 34 ∧ abL0 l = nI e := by
  have z := (show ∀ l, l < 32 → srB (nI l) = true → (decide (abL0 l = -1) || (decide (0 ≤ (abL0 l).toInt) && decide ((abL0 l).toInt < 34))) = true by decide +kernel) l hl h
  rw [Bool.or_eq_true] at z
  rcases z with q | q
  · exact Or.inl (of_decide_eq_true q)
  · obtain ⟨q1, q2⟩ := z_and q
    obtain ⟨e, he, q3⟩ := i_nat (n := 33) (of_decide_eq_true q1) (by have := of_decide_eq_true q2; omega) (by decide)
    exact Or.inr ⟨e, by omega, q3⟩
theorem ko_run0 {x m : zM} (R : RCl x m) {s l : Nat} (hs : s < 4) (hl : l + 2 ≤ 33) (hsr : srB (nI l) = true) : kA (koF x s (usL0 l) (bsL0 l)) 34 = kA (cdF (z_giv (z_giv (z_ui (z_ui (z_ui m 50 0 0) 50 50 (nI l)) 50 51 (abL0 l)) s (l + 1) (-1)) s (l + 2) (-1)) s) 34 := by
  refine kA_cg (fun k hk => ?_)
  have e50 : (z_giv (z_giv (z_ui (z_ui (z_ui m 50 0 0) 50 50 (nI l)) 50 51 (abL0 l)) s (l + 1) (-1)) s (l + 2) (-1)).1 50 50 = nI l := by rw [giv_o (by decide), giv_o (by decide), ui_k (by decide), ui_s]
  have e51 : (z_giv (z_giv (z_ui (z_ui (z_ui m 50 0 0) 50 50 (nI l)) 50 51 (abL0 l)) s (l + 1) (-1)) s (l + 2) (-1)).1 50 51 = abL0 l := by rw [giv_o (by decide), giv_o (by decide), ui_s]
  unfold koF cdF
  rw [us_hd0 l (by omega) k hk, bs_hd0 l (by omega) hsr k hk, R.hd s k hs hk, e50, e51, giv_60, giv_60, ui_o (by decide), ui_o (by decide), ui_o (by decide), Bool.not_or]
  by_cases ea : k = (l + 1)
  · rw [decide_eq_true ea, if_neg (by omega), if_pos (by omega), Bool.true_or, show nB true = 1 from rfl, sub1]
  · by_cases eb : k = (l + 2)
    · rw [decide_eq_true eb, if_pos (by omega), if_neg (by omega), Bool.or_true, show nB true = 1 from rfl, sub1]
    · rw [decide_eq_false ea, decide_eq_false eb, if_neg (by omega), if_neg (by omega), Bool.false_or, show nB false = 0 from rfl, Int32.sub_zero]
noncomputable def abL1 (l : Nat) : Int32 := ((-1 : Int32))
noncomputable def oeL1 (l : Nat) : Int64 := ((0 : Int64))
noncomputable def bsL1 (l : Nat) : Int64 := ((1 : Int64) <<< ((nI (l + 1)).toInt64 &&& 63)) ||| oeL1 l
noncomputable def usL1 (l : Nat) : Int64 := ((7 : Int64) <<< ((nI l).toInt64 &&& 63)) &&& (((1 : Int64) <<< ((nI (l + 1)).toInt64 &&& 63)) ^^^ (-1))
theorem oe_eq1 : ∀ l, l < 32 → (bif decide ((nI (l + 1)) = nI l) then bif srB (nI l + 1) then 1 <<< ((nI l + 3).toInt64 &&& 63) else bif decide ((nI (l + 1)) = (nI l + 2)) then bif decide (nI l ≤ 0) then (0 : Int64) else bif srB (nI l - 1) then 1 <<< ((nI l - 1).toInt64 &&& 63) else 0 else 0 else bif decide ((nI (l + 1)) = (nI l + 2)) then bif decide (nI l ≤ 0) then (0 : Int64) else bif srB (nI l - 1) then 1 <<< ((nI l - 1).toInt64 &&& 63) else 0 else 0) = oeL1 l := by decide +kernel
theorem us_hd1 : ∀ l, l < 32 → ∀ k, k < 34 → xHd (usL1 l) (nI k) = (decide (k = l) || decide (k = (l + 2))) := by decide +kernel
theorem bs_hd1 : ∀ l, l < 32 → srB (nI l) = true → ∀ k, k < 34 → xHd (bsL1 l) (nI k) = (decide (nI k = nI (l + 1)) || decide (nI k = abL1 l)) := by decide +kernel
theorem bs_eq1 : ∀ l, l < 32 → srB (nI l) = true → bsL1 l = (((1 : Int64) <<< ((nI (l + 1)).toInt64 &&& 63)) ||| (bif decide (abL1 l = -1) then (0 : Int64) else 1 <<< ((abL1 l).toInt64 &&& 63))) := by decide +kernel
theorem ab_k1 (l : Nat) (hl : l < 32) (h : srB (nI l) = true) : abL1 l = -1 ∨ ∃ e, e < 34 ∧ abL1 l = nI e := by
  have z := (show ∀ l, l < 32 → srB (nI l) = true → (decide (abL1 l = -1) || (decide (0 ≤ (abL1 l).toInt) && decide ((abL1 l).toInt < 34))) = true by decide +kernel) l hl h
  rw [Bool.or_eq_true] at z
  rcases z with q | q
  · exact Or.inl (of_decide_eq_true q)
  · obtain ⟨q1, q2⟩ := z_and q
    obtain ⟨e, he, q3⟩ := i_nat (n := 33) (of_decide_eq_true q1) (by have := of_decide_eq_true q2; omega) (by decide)
    exact Or.inr ⟨e, by omega, q3⟩
theorem ko_run1 {x m : zM} (R : RCl x m) {s l : Nat} (hs : s < 4) (hl : l + 2 ≤ 33) (hsr : srB (nI l) = true) : kA (koF x s (usL1 l) (bsL1 l)) 34 = kA (cdF (z_giv (z_giv (z_ui (z_ui (z_ui m 50 0 0) 50 50 (nI (l + 1))) 50 51 (abL1 l)) s l (-1)) s (l + 2) (-1)) s) 34 := by
  refine kA_cg (fun k hk => ?_)
  have e50 : (z_giv (z_giv (z_ui (z_ui (z_ui m 50 0 0) 50 50 (nI (l + 1))) 50 51 (abL1 l)) s l (-1)) s (l + 2) (-1)).1 50 50 = nI (l + 1) := by rw [giv_o (by decide), giv_o (by decide), ui_k (by decide), ui_s]
  have e51 : (z_giv (z_giv (z_ui (z_ui (z_ui m 50 0 0) 50 50 (nI (l + 1))) 50 51 (abL1 l)) s l (-1)) s (l + 2) (-1)).1 50 51 = abL1 l := by rw [giv_o (by decide), giv_o (by decide), ui_s]
  unfold koF cdF
  rw [us_hd1 l (by omega) k hk, bs_hd1 l (by omega) hsr k hk, R.hd s k hs hk, e50, e51, giv_60, giv_60, ui_o (by decide), ui_o (by decide), ui_o (by decide), Bool.not_or]
  by_cases ea : k = l
  · rw [decide_eq_true ea, if_neg (by omega), if_pos (by omega), Bool.true_or, show nB true = 1 from rfl, sub1]
  · by_cases eb : k = (l + 2)
    · rw [decide_eq_true eb, if_pos (by omega), if_neg (by omega), Bool.or_true, show nB true = 1 from rfl, sub1]
    · rw [decide_eq_false ea, decide_eq_false eb, if_neg (by omega), if_neg (by omega), Bool.false_or, show nB false = 0 from rfl, Int32.sub_zero]
noncomputable def abL2 (l : Nat) : Int32 := (bif decide (((nI l) - (nI l) / 9 * 9) ≤ 0) then (-1 : Int32) else (nI l) - 1)
noncomputable def oeL2 (l : Nat) : Int64 := (bif decide (nI l ≤ 0) then (0 : Int64) else bif srB (nI l - 1) then (1 : Int64) <<< ((nI l - 1).toInt64 &&& 63) else 0)
noncomputable def bsL2 (l : Nat) : Int64 := ((1 : Int64) <<< ((nI (l + 2)).toInt64 &&& 63)) ||| oeL2 l
noncomputable def usL2 (l : Nat) : Int64 := ((7 : Int64) <<< ((nI l).toInt64 &&& 63)) &&& (((1 : Int64) <<< ((nI (l + 2)).toInt64 &&& 63)) ^^^ (-1))
theorem oe_eq2 : ∀ l, l < 32 → (bif decide ((nI (l + 2)) = nI l) then bif srB (nI l + 1) then 1 <<< ((nI l + 3).toInt64 &&& 63) else bif decide ((nI (l + 2)) = (nI l + 2)) then bif decide (nI l ≤ 0) then (0 : Int64) else bif srB (nI l - 1) then 1 <<< ((nI l - 1).toInt64 &&& 63) else 0 else 0 else bif decide ((nI (l + 2)) = (nI l + 2)) then bif decide (nI l ≤ 0) then (0 : Int64) else bif srB (nI l - 1) then 1 <<< ((nI l - 1).toInt64 &&& 63) else 0 else 0) = oeL2 l := by decide +kernel
theorem us_hd2 : ∀ l, l < 32 → ∀ k, k < 34 → xHd (usL2 l) (nI k) = (decide (k = l) || decide (k = (l + 1))) := by decide +kernel
theorem bs_hd2 : ∀ l, l < 32 → srB (nI l) = true → ∀ k, k < 34 → xHd (bsL2 l) (nI k) = (decide (nI k = nI (l + 2)) || decide (nI k = abL2 l)) := by decide +kernel
theorem bs_eq2 : ∀ l, l < 32 → srB (nI l) = true → bsL2 l = (((1 : Int64) <<< ((nI (l + 2)).toInt64 &&& 63)) ||| (bif decide (abL2 l = -1) then (0 : Int64) else 1 <<< ((abL2 l).toInt64 &&& 63))) := by decide +kernel
theorem ab_k2 (l : Nat) (hl : l < 32) (h : srB (nI l) = true) : abL2 l = -1 ∨ ∃ e, e < 34 ∧ abL2 l = nI e := by
  have z := (show ∀ l, l < 32 → srB (nI l) = true → (decide (abL2 l = -1) || (decide (0 ≤ (abL2 l).toInt) && decide ((abL2 l).toInt < 34))) = true by decide +kernel) l hl h
  rw [Bool.or_eq_true] at z
  rcases z with q | q
  · exact Or.inl (of_decide_eq_true q)
  · obtain ⟨q1, q2⟩ := z_and q
    obtain ⟨e, he, q3⟩ := i_nat (n := 33) (of_decide_eq_true q1) (by have := of_decide_eq_true q2; omega) (by decide)
    exact Or.inr ⟨e, by omega, q3⟩
theorem ko_run2 {x m : zM} (R : RCl x m) {s l : Nat} (hs : s < 4) (hl : l + 2 ≤ 33) (hsr : srB (nI l) = true) : kA (koF x s (usL2 l) (bsL2 l)) 34 = kA (cdF (z_giv (z_giv (z_ui (z_ui (z_ui m 50 0 0) 50 50 (nI (l + 2))) 50 51 (abL2 l)) s l (-1)) s (l + 1) (-1)) s) 34 := by
  refine kA_cg (fun k hk => ?_)
  have e50 : (z_giv (z_giv (z_ui (z_ui (z_ui m 50 0 0) 50 50 (nI (l + 2))) 50 51 (abL2 l)) s l (-1)) s (l + 1) (-1)).1 50 50 = nI (l + 2) := by rw [giv_o (by decide), giv_o (by decide), ui_k (by decide), ui_s]
  have e51 : (z_giv (z_giv (z_ui (z_ui (z_ui m 50 0 0) 50 50 (nI (l + 2))) 50 51 (abL2 l)) s l (-1)) s (l + 1) (-1)).1 50 51 = abL2 l := by rw [giv_o (by decide), giv_o (by decide), ui_s]
  unfold koF cdF
  rw [us_hd2 l (by omega) k hk, bs_hd2 l (by omega) hsr k hk, R.hd s k hs hk, e50, e51, giv_60, giv_60, ui_o (by decide), ui_o (by decide), ui_o (by decide), Bool.not_or]
  by_cases ea : k = l
  · rw [decide_eq_true ea, if_neg (by omega), if_pos (by omega), Bool.true_or, show nB true = 1 from rfl, sub1]
  · by_cases eb : k = (l + 1)
    · rw [decide_eq_true eb, if_pos (by omega), if_neg (by omega), Bool.or_true, show nB true = 1 from rfl, sub1]
    · rw [decide_eq_false ea, decide_eq_false eb, if_neg (by omega), if_neg (by omega), Bool.false_or, show nB false = 0 from rfl, Int32.sub_zero]
theorem si_two {f : Nat → Int} {a b : Nat} (hab : a ≠ b) : ∀ n, (∀ k, k < n → 0 ≤ f k) → a < n → b < n → f a + f b ≤ si f n
  | 0, _, h, _ => absurd h (by omega)
  | n + 1, h, ha, hb => by
    show f a + f b ≤ si f n + f n
    by_cases e : a = n
    · subst e
      have := si_le (f := f) (c := b) (n := a) (fun k hk => h k (by omega)) (by omega)
      omega
    · by_cases e2 : b = n
      · subst e2
        have := si_le (f := f) (c := a) (n := b) (fun k hk => h k (by omega)) (by omega)
        omega
      · have := si_two hab n (fun k hk => h k (by omega)) (by omega) (by omega)
        have := h n (by omega)
        omega
theorem GH.le2 {μ : zM} {lim : Nat → Int} (h : GH μ lim) {s a b : Nat} (hs4 : s < 4) (ha : a < 34) (hb : b < 34) (hab : a ≠ b) : hI μ (34 * s + a) + hI μ (34 * s + b) ≤ hs9 μ s := si_two (f := fun k => hI μ (34 * s + k)) hab 34 (fun k hk => h.1 _ (by omega)) ha hb
theorem oe_x {μ : zM} {l : Nat} {c : Int32} (hc : μ.1 0 15 = c) {v : Int64} (h : (bif decide (c = nI l) then bif srB (nI l + 1) then 1 <<< ((nI l + 3).toInt64 &&& 63) else bif decide (c = (nI l + 2)) then bif decide (nI l ≤ 0) then (0 : Int64) else bif srB (nI l - 1) then 1 <<< ((nI l - 1).toInt64 &&& 63) else 0 else 0 else bif decide (c = (nI l + 2)) then bif decide (nI l ≤ 0) then (0 : Int64) else bif srB (nI l - 1) then 1 <<< ((nI l - 1).toInt64 &&& 63) else 0 else 0) = v) : ∀ d, 2 ≤ d → z_C d mi_X6_otherEnd [.ref 0, .int (nI l)] μ (zR μ (.long v)) := fun d hd => by
  have z := gc_otherEnd d hd μ (nI l)
  rw [hc, h] at z
  exact z
theorem sr_x {μ : zM} {x : Int32} {b : Bool} (h : srB x = b) : ∀ d, 1 ≤ d → z_C d mi_X6_startsRun [.int x] μ (zR μ (.int (nB b))) := fun d hd => by
  rw [← h]; exact gc_startsRun d hd μ x
theorem sr_iff (x : Int32) : srB x = true ↔ sr x := by
  unfold srB sr
  have e : (6 : Int32) < (x - x / 9 * 9) ↔ (7 : Int32) ≤ (x - x / 9 * 9) := by
    generalize (x - x / 9 * 9) = y
    rw [Int32.lt_iff_toInt_lt, Int32.le_iff_toInt_le, show (6 : Int32).toInt = 6 from by decide, show (7 : Int32).toInt = 7 from by decide]
    omega
  constructor
  · intro h
    obtain ⟨a, h⟩ := z_and h
    obtain ⟨b, c⟩ := z_and h
    exact ⟨of_decide_eq_false (not_t a), of_decide_eq_false (not_t b), fun z => of_decide_eq_false (not_t c) (e.mpr z)⟩
  · rintro ⟨a, b, c⟩
    rw [decide_eq_false a, decide_eq_false b, decide_eq_false (fun z => c (e.mp z))]
    rfl
theorem sr_m {μ : zM} {x : Int32} {b : Bool} (h : srB x = b) : ∀ d, 1 ≤ d → z_C d mi_X7_isRun [.int x] μ (zR μ (.int (nB b))) := fun d hd => z_C_mono (fc_X7_isRun d hd μ x) (fun r m z => ⟨z.1, by
  have e := sr_iff x
  rcases z.2 with ⟨y, q⟩ | ⟨y, q⟩
  · rw [e.mpr q] at h; rw [y, ← h]; rfl
  · cases b with
    | true => exact absurd (e.mp h) q
    | false => exact y⟩)
theorem sr_nat : ∀ x : Int32, srB x = true → ∃ l, l + 2 ≤ 26 ∧ x = nI l := fun x h => by
  obtain ⟨a, b, c⟩ := (sr_iff x).mp h
  have a1 : 0 ≤ x.toInt := by have z : ¬ x.toInt < (0 : Int32).toInt := fun q => a (Int32.lt_iff_toInt_lt.mpr q); have : (0 : Int32).toInt = 0 := (by decide); omega
  have b1 : x.toInt < 27 := by have z : ¬ (27 : Int32).toInt ≤ x.toInt := fun q => b (Int32.le_iff_toInt_le.mpr q); have : (27 : Int32).toInt = 27 := (by decide); omega
  obtain ⟨l, hl, e⟩ := i_nat (v := x) (n := 26) a1 (by omega) (by decide)
  subst e
  exact ⟨l, (show ∀ l, l < 27 → srB (nI l) = true → l + 2 ≤ 26 by decide +kernel) l (by omega) h, rfl⟩
/-! run answers alike -/
set_option maxRecDepth 8000
theorem lg_run0 {d : Nat} (hd : 705 ≤ d) {μ : zM} (hJ : LJ μ) (hR : RG μ μ) {s l t : Nat} (hs : s < 4) (hl : l + 2 ≤ 33) (hsr : srB (nI l) = true) (P : RPh μ μ 2 t l) (hsu : s = (t + 1) % 4) (hm : mMC μ s = true) (hsy : ∀ j, j < 4 → μ.1 71 j = 0) (kx : z_C d mi_X6_run [.ref 0, .int (nI s), .int (nI l)] μ (fun _ μ' => LJ μ' ∧ EqM μ μ')) (km : ∀ μ1, LJ μ1 → z_C d mi_X7_run [.ref 50, .int (nI s), .int (nI l)] μ1 (fun _ μ' => LJ μ' ∧ EqX μ1 μ')) : GO d mi_X6_run mi_X7_run [.ref 0, .int (nI s), .int (nI l)] [.ref 50, .int (nI s), .int (nI l)] μ := by
  have hA := hJ.1.1
  have hx1 := mC_x hs ((mc_eq hR hs).trans hm)
  have hm1 := mC_m hs hm
  have R := hR.1
  have hp0 : ¬ μ.1 50 44 = 0 := by rw [P.pm]; decide
  have hp1 : ¬ μ.1 50 44 = 1 := by rw [P.pm]; decide
  have G := hJ.1.2.2 hp0
  have ht4 := P.t4
  have hc : l < 34 := by omega
  obtain ⟨W, hW⟩ := ww_of R P hA G hc
  obtain ⟨w, aw, q, sL, lL, H⟩ := hf_of R P hA G hs
  have cx : μ.1 0 15 = nI l := P.cx.trans (if_neg (by omega))
  have cm : μ.1 50 49 = nI l := P.cm.trans (if_neg (by omega))
  have fsu : decide (nI s = nI ((t + 1) % 4)) = true := decide_eq_true (by rw [hsu])
  have hwa := H.1.1 (l + 1) (by omega)
  have hwb := H.1.1 (l + 2) (by omega)
  have xa : μ.1 (20 + 8 * s) (l + 1) = nI (w (l + 1)) := (R.hd s (l + 1) hs (by omega)).trans hwa.1
  have xb : μ.1 (20 + 8 * s) (l + 2) = nI (w (l + 2)) := (R.hd s (l + 2) hs (by omega)).trans hwb.1
  have hu4 : (t + 1) % 4 < 4 := by omega
  have z0 : ∀ v : Nat, v ≤ 4 → decide (nI v = 0) = decide (v = 0) := fun v hv => nI_dec (a := v) (b := 0) (by omega) (by decide)
  by_cases ha : w (l + 1) = 0
  · have fa : decide (nI (w (l + 1)) = 0) = true := (z0 _ hwa.2).trans (decide_eq_true ha)
    exact go_no hR kx km (gx_runA0 d (by omega) μ s l hs hl cx t _ ht4 P.tx rfl hu4 hx1 fsu (sr_x hsr) (by rw [xa]; exact fa)) (mr_runA0 d (by omega) μ s l hs hl cm t _ ht4 P.tm rfl hu4 hm1 fsu (sr_m hsr) (by rw [hwa.1]; exact fa))
  have fa : decide (nI (w (l + 1)) = 0) = false := (z0 _ hwa.2).trans (decide_eq_false ha)
  by_cases hb : w (l + 2) = 0
  · have fb : decide (nI (w (l + 2)) = 0) = true := (z0 _ hwb.2).trans (decide_eq_true hb)
    exact go_no hR kx km (gx_runB0 d (by omega) μ s l hs hl cx t _ ht4 P.tx rfl hu4 hx1 fsu (sr_x hsr) (by rw [xa]; exact fa) (by rw [xb]; exact fb)) (mr_runB0 d (by omega) μ s l hs hl cm t _ ht4 P.tm rfl hu4 hm1 fsu (sr_m hsr) (by rw [hwa.1]; exact fa) (by rw [hwb.1]; exact fb))
  have fb : decide (nI (w (l + 2)) = 0) = false := (z0 _ hwb.2).trans (decide_eq_false hb)
  have hq3 : q ≤ 3 := q3_of G hs hp1 H.1.2.1 H.1.2.2.1 (by
    have g2 := G.1.le2 hs (a := (l + 1)) (b := (l + 2)) (by omega) (by omega) (by omega)
    have g4 : hI μ (34 * s + (l + 1)) = w (l + 1) := by unfold hI; rw [hwa.1]; exact nI_toInt (by omega)
    have g5 : hI μ (34 * s + (l + 2)) = w (l + 2) := by unfold hI; rw [hwb.1]; exact nI_toInt (by omega)
    omega)
  have d1 : decide ((nI l) < (nI l)) = false := (nI_lt2 (by omega) (by omega)).trans (decide_eq_false (by omega))
  have d2 : decide ((nI l) ≤ (nI (l + 2))) = true := (nI_le2 (by omega) (by omega)).trans (decide_eq_true (by omega))
  have d3 : decide ((nI l) = (nI l)) = true := (nI_dec (by omega) (by omega)).trans (decide_eq_true (by omega))
  have d4 : decide ((nI (l + 1)) = (nI l)) = false := (nI_dec (by omega) (by omega)).trans (decide_eq_false (by omega))
  have d5 : decide ((nI (l + 2)) = (nI l)) = false := (nI_dec (by omega) (by omega)).trans (decide_eq_false (by omega))
  have cdK : ∀ (kk : Bool), kA (koF μ s (usL0 l) (bsL0 l)) 34 = kk → ∀ μ1, EqM μ μ1 → ∀ d, 2 ≤ d → z_C d mi_X7_canDiscard [.ref 50, .int (nI s)] (z_giv (z_giv (z_ui (z_ui (z_ui μ1 50 0 0) 50 50 (nI l)) 50 51 (abL0 l)) s (l + 1) (-1)) s (l + 2) (-1)) (zR (z_giv (z_giv (z_ui (z_ui (z_ui μ1 50 0 0) 50 50 (nI l)) 50 51 (abL0 l)) s (l + 1) (-1)) s (l + 2) (-1)) (.int (nB kk))) := fun kk hk μ1 qM d hd => by
    have z := gm_canDiscard d hd (z_giv (z_giv (z_ui (z_ui (z_ui μ1 50 0 0) 50 50 (nI l)) 50 51 (abL0 l)) s (l + 1) (-1)) s (l + 2) (-1)) s hs
    rw [← ko_run0 (x := μ) (R.cg (eqX_rf _) qM) hs hl hsr, hk] at z
    exact z
  have cc := fun (ko : Bool) (hko : ∀ d, 3 ≤ d → z_C d mi_X6_keepsOther [.ref (19 + 8 * s), .long ((7 <<< ((nI l).toInt64 &&& 63)) &&& (((1 : Int64) <<< ((nI l).toInt64 &&& 63)) ^^^ (-1))), .long (((1 : Int64) <<< ((nI l).toInt64 &&& 63)) ||| oeL0 l)] μ (zR μ (.int (nB ko)))) => gc_run d (by omega) μ s q l hs hq3 H.2.2.2.1 hl (by rw [show zl 0 = 2 from by decide]; omega) t l ((t + 1) % 4) ((t + 2) % 4) ((t + 3) % 4) _ _ _ ht4 P.tx hc cx rfl (Nat.mod_lt _ (by decide)) (hW ((t + 1) % 4) (Nat.mod_lt _ (by decide))).1 rfl (Nat.mod_lt _ (by decide)) (hW ((t + 2) % 4) (Nat.mod_lt _ (by decide))).1 rfl (Nat.mod_lt _ (by decide)) (hW ((t + 3) % 4) (Nat.mod_lt _ (by decide))).1 true hx1 true (sr_x hsr) (oeL0 l) (oe_x cx (oe_eq0 l (by omega))) ko hko
  rw [fsu, d1, d2, d3, d4, d5, xa, xb, fa, fb] at cc
  simp only [cond_true, cond_false] at cc
  have mm : ∀ (kk : Bool), kA (koF μ s (usL0 l) (bsL0 l)) 34 = kk → ∀ μ1, LJ μ1 → EqM μ μ1 → EqB μ (ruM0 μ1 s l) ∧ z_C d mi_X7_run [.ref 50, .int (nI s), .int (nI l)] μ1 (fun r μ' => (ruC0 μ1 s l ((t + 1) % 4) true true kk = true ∧ r = some (.int 1) ∧ SMj (ruO0 (ovF (ruM0 μ1 s l) t l W) s l q) μ') ∨ (ruC0 μ1 s l ((t + 1) % 4) true true kk = false ∧ r = some (.int 0) ∧ (μ' = z_ui μ1 50 0 0 ∨ μ' = ruM0 μ1 s l))) := fun kk hk μ1 h1 qM => by
    have E : ∀ r k', gMc r k' → μ1.1 r k' = μ.1 r k' := fun r k' g => (qM r k' g).1
    have eB : EqB μ (ruM0 μ1 s l) := eB_tr (eB_M qM) (eB_tr (eB_0 μ1 0) (eB_tr (eB_50 _ _ _) (eB_g4 (by omega) (by decide))))
    have hA' : a_H (ruM0 μ1 s l) := a_H_ui (a_H_ui (a_H_ui (a_H_ui (a_H_ui (a_H_ui (a_H_ui h1.1.1 (bI_top _)) (bI_top _)) (bI_top _)) (bI_top _)) (bI_top _)) (bI_top _)) (bI_top _)
    have P' := P.cgB eB (by decide)
    have ov := ov_go (hW.m (eB_SE eB)) hA' ht4 P'.tm (P'.cm.trans (if_neg (by omega)))
    exact ⟨eB, gm_run0 d (by omega) μ1 s q l t ((t + 1) % 4) hs (by omega) hl ht4 ((E 50 45 (Or.inr ⟨rfl, by decide, by decide⟩)).trans P.tm) rfl hu4 ((E 50 49 (Or.inr ⟨rfl, by decide, by decide⟩)).trans cm) true (mC_m hs ((mMC_e qM).trans hm)) true (sr_m hsr) kk (cdK kk hk μ1 qM) (ovF (ruM0 μ1 s l) t l W) ov ((ovF_o (by decide) (by decide) (Or.inr ⟨by decide, by decide⟩)).trans (P'.cm.trans (if_neg (by omega)))) (((ovF_o (by decide) (by decide) (Or.inl (by decide))).trans (eB 64 s (Or.inl ⟨by decide, by decide⟩) (by omega)).1).trans H.1.2.1)⟩
  cases hk : kA (koF μ s (usL0 l) (bsL0 l)) 34 with
  | true =>
    have c1 := cc true (fun d hd => by rw [← hk]; exact gc_keepsOther d (by omega) μ s hs _ _)
    simp only [cond_true, cond_false] at c1
    refine go_yes (X := z_uj (tkS μ s l q 0 t l ((t + 1) % 4) ((t + 2) % 4) ((t + 3) % 4) (bw (W ((t + 1) % 4)) l) (bw (W ((t + 2) % 4)) l) (bw (W ((t + 3) % 4)) l)) 0 18 (((1 : Int64) <<< ((nI l).toInt64 &&& 63)) ||| oeL0 l)) (y := 1) kx km (z_C_mono c1 (fun r μ' z => ⟨z.1, by rw [z.2]; exact eqX_rf _⟩)) (fun μ1 h1 qM => ?_)
    obtain ⟨eB, z⟩ := mm true hk μ1 h1 qM
    refine z_C_mono z (fun r μ' z => ?_)
    have E : ∀ r k', gMc r k' → μ1.1 r k' = μ.1 r k' := fun r k' g => (qM r k' g).1
    rcases z with ⟨-, z2, z3⟩ | ⟨z1, -, -⟩
    · refine ⟨z2, ?_⟩
      have e50 : (ruM0 μ1 s l).1 50 50 = nI l := by unfold ruM0; rw [giv_o (by decide), giv_o (by decide), giv_o (by decide), giv_o (by decide), ui_k (by decide), ui_s]
      have e51 : (ruM0 μ1 s l).1 50 51 = abL0 l := by unfold ruM0; rw [giv_o (by decide), giv_o (by decide), giv_o (by decide), giv_o (by decide), ui_s]; rfl
      revert eB z3 e50 e51
      generalize (ruM0 μ1 s l) = M
      intro eB z3 e50 e51
      have R' := R.cgB eB
      have P' := P.cgB eB (by decide)
      obtain ⟨RO, QO, fO⟩ := ov_rq (W := W) R' P' (Or.inl rfl) (fun j hj => (eB 71 j (Or.inl ⟨by decide, by decide⟩) (by omega)).1.trans (hsy j hj))
      rw [if_pos rfl] at QO
      have o64 : ∀ j, (ovF M t l W).1 64 j = μ.1 64 j := fun j => (ovF_o (by decide) (by decide) (Or.inl (by decide))).trans (eB 64 j (Or.inl ⟨by decide, by decide⟩) (by omega)).1
      have g := rg_run0 (bs := bsL0 l) RO QO fO hs (by omega) ((sr_iff _).mp hsr) hq3 ((o64 s).trans H.1.2.1) (fun j hj => by rw [o64]; exact m4_of hA j hj) (by rw [ovF_o (by decide) (by decide) (Or.inr ⟨by decide, by decide⟩), ovF_o (by decide) (by decide) (Or.inr ⟨by decide, by decide⟩), e50, e51]; exact bs_eq0 l (by omega) hsr) ⟨l, hc, (ovF_o (by decide) (by decide) (Or.inr ⟨by decide, by decide⟩)).trans e50, by rw [ovF_o (by decide) (by decide) (Or.inr ⟨by decide, by decide⟩), e51]; exact ab_k0 l (by omega) hsr⟩
      exact RG.cg (eqX_rf _) (sm_EqM z3) g
    · exfalso
      unfold ruC0 at z1
      rw [fsu, E 60 _ (Or.inl ⟨by decide, by decide⟩), hwa.1, fa, E 60 _ (Or.inl ⟨by decide, by decide⟩), hwb.1, fb] at z1
      cases z1
  | false =>
    have c1 := cc false (fun d hd => by rw [← hk]; exact gc_keepsOther d (by omega) μ s hs _ _)
    simp only [cond_true, cond_false] at c1
    refine go_yes (X := μ) (y := 0) kx km (z_C_mono c1 (fun r μ' z => ⟨z.1, by rw [z.2]; exact eqX_rf _⟩)) (fun μ1 h1 qM => ?_)
    obtain ⟨eB, z⟩ := mm false hk μ1 h1 qM
    refine z_C_mono z (fun r μ' z => ?_)
    rcases z with ⟨z1, -, -⟩ | ⟨-, z2, z3⟩
    · exfalso
      unfold ruC0 at z1
      rw [Bool.and_false] at z1
      cases z1
    · refine ⟨z2, ?_⟩
      rcases z3 with z3 | z3
      · rw [z3]; exact RG.cgB2 R P (eB_tr (eB_M qM) (eB_0 μ1 0))
      · rw [z3]; exact RG.cgB2 R P eB
theorem lg_run1 {d : Nat} (hd : 705 ≤ d) {μ : zM} (hJ : LJ μ) (hR : RG μ μ) {s l t : Nat} (hs : s < 4) (hl : l + 2 ≤ 33) (hsr : srB (nI l) = true) (P : RPh μ μ 2 t (l + 1)) (hsu : s = (t + 1) % 4) (hm : mMC μ s = true) (hsy : ∀ j, j < 4 → μ.1 71 j = 0) (kx : z_C d mi_X6_run [.ref 0, .int (nI s), .int (nI l)] μ (fun _ μ' => LJ μ' ∧ EqM μ μ')) (km : ∀ μ1, LJ μ1 → z_C d mi_X7_run [.ref 50, .int (nI s), .int (nI l)] μ1 (fun _ μ' => LJ μ' ∧ EqX μ1 μ')) : GO d mi_X6_run mi_X7_run [.ref 0, .int (nI s), .int (nI l)] [.ref 50, .int (nI s), .int (nI l)] μ := by
  have hA := hJ.1.1
  have hx1 := mC_x hs ((mc_eq hR hs).trans hm)
  have hm1 := mC_m hs hm
  have R := hR.1
  have hp0 : ¬ μ.1 50 44 = 0 := by rw [P.pm]; decide
  have hp1 : ¬ μ.1 50 44 = 1 := by rw [P.pm]; decide
  have G := hJ.1.2.2 hp0
  have ht4 := P.t4
  have hc : (l + 1) < 34 := by omega
  obtain ⟨W, hW⟩ := ww_of R P hA G hc
  obtain ⟨w, aw, q, sL, lL, H⟩ := hf_of R P hA G hs
  have cx : μ.1 0 15 = nI (l + 1) := P.cx.trans (if_neg (by omega))
  have cm : μ.1 50 49 = nI (l + 1) := P.cm.trans (if_neg (by omega))
  have fsu : decide (nI s = nI ((t + 1) % 4)) = true := decide_eq_true (by rw [hsu])
  have hwa := H.1.1 l (by omega)
  have hwb := H.1.1 (l + 2) (by omega)
  have xa : μ.1 (20 + 8 * s) l = nI (w l) := (R.hd s l hs (by omega)).trans hwa.1
  have xb : μ.1 (20 + 8 * s) (l + 2) = nI (w (l + 2)) := (R.hd s (l + 2) hs (by omega)).trans hwb.1
  have hu4 : (t + 1) % 4 < 4 := by omega
  have z0 : ∀ v : Nat, v ≤ 4 → decide (nI v = 0) = decide (v = 0) := fun v hv => nI_dec (a := v) (b := 0) (by omega) (by decide)
  by_cases ha : w l = 0
  · have fa : decide (nI (w l) = 0) = true := (z0 _ hwa.2).trans (decide_eq_true ha)
    exact go_no hR kx km (gx_runA1 d (by omega) μ s l hs hl cx t _ ht4 P.tx rfl hu4 hx1 fsu (sr_x hsr) (by rw [xa]; exact fa)) (mr_runA1 d (by omega) μ s l hs hl cm t _ ht4 P.tm rfl hu4 hm1 fsu (sr_m hsr) (by rw [hwa.1]; exact fa))
  have fa : decide (nI (w l) = 0) = false := (z0 _ hwa.2).trans (decide_eq_false ha)
  by_cases hb : w (l + 2) = 0
  · have fb : decide (nI (w (l + 2)) = 0) = true := (z0 _ hwb.2).trans (decide_eq_true hb)
    exact go_no hR kx km (gx_runB1 d (by omega) μ s l hs hl cx t _ ht4 P.tx rfl hu4 hx1 fsu (sr_x hsr) (by rw [xa]; exact fa) (by rw [xb]; exact fb)) (mr_runB1 d (by omega) μ s l hs hl cm t _ ht4 P.tm rfl hu4 hm1 fsu (sr_m hsr) (by rw [hwa.1]; exact fa) (by rw [hwb.1]; exact fb))
  have fb : decide (nI (w (l + 2)) = 0) = false := (z0 _ hwb.2).trans (decide_eq_false hb)
  have hq3 : q ≤ 3 := q3_of G hs hp1 H.1.2.1 H.1.2.2.1 (by
    have g2 := G.1.le2 hs (a := l) (b := (l + 2)) (by omega) (by omega) (by omega)
    have g4 : hI μ (34 * s + l) = w l := by unfold hI; rw [hwa.1]; exact nI_toInt (by omega)
    have g5 : hI μ (34 * s + (l + 2)) = w (l + 2) := by unfold hI; rw [hwb.1]; exact nI_toInt (by omega)
    omega)
  have d1 : decide ((nI (l + 1)) < (nI l)) = false := (nI_lt2 (by omega) (by omega)).trans (decide_eq_false (by omega))
  have d2 : decide ((nI (l + 1)) ≤ (nI (l + 2))) = true := (nI_le2 (by omega) (by omega)).trans (decide_eq_true (by omega))
  have d3 : decide ((nI l) = (nI (l + 1))) = false := (nI_dec (by omega) (by omega)).trans (decide_eq_false (by omega))
  have d4 : decide ((nI (l + 1)) = (nI (l + 1))) = true := (nI_dec (by omega) (by omega)).trans (decide_eq_true (by omega))
  have d5 : decide ((nI (l + 2)) = (nI (l + 1))) = false := (nI_dec (by omega) (by omega)).trans (decide_eq_false (by omega))
  have cdK : ∀ (kk : Bool), kA (koF μ s (usL1 l) (bsL1 l)) 34 = kk → ∀ μ1, EqM μ μ1 → ∀ d, 2 ≤ d → z_C d mi_X7_canDiscard [.ref 50, .int (nI s)] (z_giv (z_giv (z_ui (z_ui (z_ui μ1 50 0 0) 50 50 (nI (l + 1))) 50 51 (abL1 l)) s l (-1)) s (l + 2) (-1)) (zR (z_giv (z_giv (z_ui (z_ui (z_ui μ1 50 0 0) 50 50 (nI (l + 1))) 50 51 (abL1 l)) s l (-1)) s (l + 2) (-1)) (.int (nB kk))) := fun kk hk μ1 qM d hd => by
    have z := gm_canDiscard d hd (z_giv (z_giv (z_ui (z_ui (z_ui μ1 50 0 0) 50 50 (nI (l + 1))) 50 51 (abL1 l)) s l (-1)) s (l + 2) (-1)) s hs
    rw [← ko_run1 (x := μ) (R.cg (eqX_rf _) qM) hs hl hsr, hk] at z
    exact z
  have cc := fun (ko : Bool) (hko : ∀ d, 3 ≤ d → z_C d mi_X6_keepsOther [.ref (19 + 8 * s), .long ((7 <<< ((nI l).toInt64 &&& 63)) &&& (((1 : Int64) <<< ((nI (l + 1)).toInt64 &&& 63)) ^^^ (-1))), .long (((1 : Int64) <<< ((nI (l + 1)).toInt64 &&& 63)) ||| oeL1 l)] μ (zR μ (.int (nB ko)))) => gc_run d (by omega) μ s q l hs hq3 H.2.2.2.1 hl (by rw [show zl 0 = 2 from by decide]; omega) t (l + 1) ((t + 1) % 4) ((t + 2) % 4) ((t + 3) % 4) _ _ _ ht4 P.tx hc cx rfl (Nat.mod_lt _ (by decide)) (hW ((t + 1) % 4) (Nat.mod_lt _ (by decide))).1 rfl (Nat.mod_lt _ (by decide)) (hW ((t + 2) % 4) (Nat.mod_lt _ (by decide))).1 rfl (Nat.mod_lt _ (by decide)) (hW ((t + 3) % 4) (Nat.mod_lt _ (by decide))).1 true hx1 true (sr_x hsr) (oeL1 l) (oe_x cx (oe_eq1 l (by omega))) ko hko
  rw [fsu, d1, d2, d3, d4, d5, xa, xb, fa, fb] at cc
  simp only [cond_true, cond_false] at cc
  have mm : ∀ (kk : Bool), kA (koF μ s (usL1 l) (bsL1 l)) 34 = kk → ∀ μ1, LJ μ1 → EqM μ μ1 → EqB μ (ruM1 μ1 s l) ∧ z_C d mi_X7_run [.ref 50, .int (nI s), .int (nI l)] μ1 (fun r μ' => (ruC1 μ1 s l ((t + 1) % 4) true true kk = true ∧ r = some (.int 1) ∧ SMj (ruO1 (ovF (ruM1 μ1 s l) t (l + 1) W) s l q) μ') ∨ (ruC1 μ1 s l ((t + 1) % 4) true true kk = false ∧ r = some (.int 0) ∧ (μ' = z_ui μ1 50 0 0 ∨ μ' = ruM1 μ1 s l))) := fun kk hk μ1 h1 qM => by
    have E : ∀ r k', gMc r k' → μ1.1 r k' = μ.1 r k' := fun r k' g => (qM r k' g).1
    have eB : EqB μ (ruM1 μ1 s l) := eB_tr (eB_M qM) (eB_tr (eB_0 μ1 0) (eB_tr (eB_50 _ _ _) (eB_g4 (by omega) (by decide))))
    have hA' : a_H (ruM1 μ1 s l) := a_H_ui (a_H_ui (a_H_ui (a_H_ui (a_H_ui (a_H_ui (a_H_ui h1.1.1 (bI_top _)) (bI_top _)) (bI_top _)) (bI_top _)) (bI_top _)) (bI_top _)) (bI_top _)
    have P' := P.cgB eB (by decide)
    have ov := ov_go (hW.m (eB_SE eB)) hA' ht4 P'.tm (P'.cm.trans (if_neg (by omega)))
    exact ⟨eB, gm_run1 d (by omega) μ1 s q l t ((t + 1) % 4) hs (by omega) hl ht4 ((E 50 45 (Or.inr ⟨rfl, by decide, by decide⟩)).trans P.tm) rfl hu4 ((E 50 49 (Or.inr ⟨rfl, by decide, by decide⟩)).trans cm) true (mC_m hs ((mMC_e qM).trans hm)) true (sr_m hsr) kk (cdK kk hk μ1 qM) (ovF (ruM1 μ1 s l) t (l + 1) W) ov ((ovF_o (by decide) (by decide) (Or.inr ⟨by decide, by decide⟩)).trans (P'.cm.trans (if_neg (by omega)))) (((ovF_o (by decide) (by decide) (Or.inl (by decide))).trans (eB 64 s (Or.inl ⟨by decide, by decide⟩) (by omega)).1).trans H.1.2.1)⟩
  cases hk : kA (koF μ s (usL1 l) (bsL1 l)) 34 with
  | true =>
    have c1 := cc true (fun d hd => by rw [← hk]; exact gc_keepsOther d (by omega) μ s hs _ _)
    simp only [cond_true, cond_false] at c1
    refine go_yes (X := z_uj (tkS μ s l q 0 t (l + 1) ((t + 1) % 4) ((t + 2) % 4) ((t + 3) % 4) (bw (W ((t + 1) % 4)) (l + 1)) (bw (W ((t + 2) % 4)) (l + 1)) (bw (W ((t + 3) % 4)) (l + 1))) 0 18 (((1 : Int64) <<< ((nI (l + 1)).toInt64 &&& 63)) ||| oeL1 l)) (y := 1) kx km (z_C_mono c1 (fun r μ' z => ⟨z.1, by rw [z.2]; exact eqX_rf _⟩)) (fun μ1 h1 qM => ?_)
    obtain ⟨eB, z⟩ := mm true hk μ1 h1 qM
    refine z_C_mono z (fun r μ' z => ?_)
    have E : ∀ r k', gMc r k' → μ1.1 r k' = μ.1 r k' := fun r k' g => (qM r k' g).1
    rcases z with ⟨-, z2, z3⟩ | ⟨z1, -, -⟩
    · refine ⟨z2, ?_⟩
      have e50 : (ruM1 μ1 s l).1 50 50 = nI (l + 1) := by unfold ruM1; rw [giv_o (by decide), giv_o (by decide), giv_o (by decide), giv_o (by decide), ui_k (by decide), ui_s]
      have e51 : (ruM1 μ1 s l).1 50 51 = abL1 l := by unfold ruM1; rw [giv_o (by decide), giv_o (by decide), giv_o (by decide), giv_o (by decide), ui_s]; rfl
      revert eB z3 e50 e51
      generalize (ruM1 μ1 s l) = M
      intro eB z3 e50 e51
      have R' := R.cgB eB
      have P' := P.cgB eB (by decide)
      obtain ⟨RO, QO, fO⟩ := ov_rq (W := W) R' P' (Or.inl rfl) (fun j hj => (eB 71 j (Or.inl ⟨by decide, by decide⟩) (by omega)).1.trans (hsy j hj))
      rw [if_pos rfl] at QO
      have o64 : ∀ j, (ovF M t (l + 1) W).1 64 j = μ.1 64 j := fun j => (ovF_o (by decide) (by decide) (Or.inl (by decide))).trans (eB 64 j (Or.inl ⟨by decide, by decide⟩) (by omega)).1
      have g := rg_run1 (bs := bsL1 l) RO QO fO hs (by omega) ((sr_iff _).mp hsr) hq3 ((o64 s).trans H.1.2.1) (fun j hj => by rw [o64]; exact m4_of hA j hj) (by rw [ovF_o (by decide) (by decide) (Or.inr ⟨by decide, by decide⟩), ovF_o (by decide) (by decide) (Or.inr ⟨by decide, by decide⟩), e50, e51]; exact bs_eq1 l (by omega) hsr) ⟨(l + 1), hc, (ovF_o (by decide) (by decide) (Or.inr ⟨by decide, by decide⟩)).trans e50, by rw [ovF_o (by decide) (by decide) (Or.inr ⟨by decide, by decide⟩), e51]; exact ab_k1 l (by omega) hsr⟩
      exact RG.cg (eqX_rf _) (sm_EqM z3) g
    · exfalso
      unfold ruC1 at z1
      rw [fsu, E 60 _ (Or.inl ⟨by decide, by decide⟩), hwa.1, fa, E 60 _ (Or.inl ⟨by decide, by decide⟩), hwb.1, fb] at z1
      cases z1
  | false =>
    have c1 := cc false (fun d hd => by rw [← hk]; exact gc_keepsOther d (by omega) μ s hs _ _)
    simp only [cond_true, cond_false] at c1
    refine go_yes (X := μ) (y := 0) kx km (z_C_mono c1 (fun r μ' z => ⟨z.1, by rw [z.2]; exact eqX_rf _⟩)) (fun μ1 h1 qM => ?_)
    obtain ⟨eB, z⟩ := mm false hk μ1 h1 qM
    refine z_C_mono z (fun r μ' z => ?_)
    rcases z with ⟨z1, -, -⟩ | ⟨-, z2, z3⟩
    · exfalso
      unfold ruC1 at z1
      rw [Bool.and_false] at z1
      cases z1
    · refine ⟨z2, ?_⟩
      rcases z3 with z3 | z3
      · rw [z3]; exact RG.cgB2 R P (eB_tr (eB_M qM) (eB_0 μ1 0))
      · rw [z3]; exact RG.cgB2 R P eB
theorem lg_run2 {d : Nat} (hd : 705 ≤ d) {μ : zM} (hJ : LJ μ) (hR : RG μ μ) {s l t : Nat} (hs : s < 4) (hl : l + 2 ≤ 33) (hsr : srB (nI l) = true) (P : RPh μ μ 2 t (l + 2)) (hsu : s = (t + 1) % 4) (hm : mMC μ s = true) (hsy : ∀ j, j < 4 → μ.1 71 j = 0) (kx : z_C d mi_X6_run [.ref 0, .int (nI s), .int (nI l)] μ (fun _ μ' => LJ μ' ∧ EqM μ μ')) (km : ∀ μ1, LJ μ1 → z_C d mi_X7_run [.ref 50, .int (nI s), .int (nI l)] μ1 (fun _ μ' => LJ μ' ∧ EqX μ1 μ')) : GO d mi_X6_run mi_X7_run [.ref 0, .int (nI s), .int (nI l)] [.ref 50, .int (nI s), .int (nI l)] μ := by
  have hA := hJ.1.1
  have hx1 := mC_x hs ((mc_eq hR hs).trans hm)
  have hm1 := mC_m hs hm
  have R := hR.1
  have hp0 : ¬ μ.1 50 44 = 0 := by rw [P.pm]; decide
  have hp1 : ¬ μ.1 50 44 = 1 := by rw [P.pm]; decide
  have G := hJ.1.2.2 hp0
  have ht4 := P.t4
  have hc : (l + 2) < 34 := by omega
  obtain ⟨W, hW⟩ := ww_of R P hA G hc
  obtain ⟨w, aw, q, sL, lL, H⟩ := hf_of R P hA G hs
  have cx : μ.1 0 15 = nI (l + 2) := P.cx.trans (if_neg (by omega))
  have cm : μ.1 50 49 = nI (l + 2) := P.cm.trans (if_neg (by omega))
  have fsu : decide (nI s = nI ((t + 1) % 4)) = true := decide_eq_true (by rw [hsu])
  have hwa := H.1.1 l (by omega)
  have hwb := H.1.1 (l + 1) (by omega)
  have xa : μ.1 (20 + 8 * s) l = nI (w l) := (R.hd s l hs (by omega)).trans hwa.1
  have xb : μ.1 (20 + 8 * s) (l + 1) = nI (w (l + 1)) := (R.hd s (l + 1) hs (by omega)).trans hwb.1
  have hu4 : (t + 1) % 4 < 4 := by omega
  have z0 : ∀ v : Nat, v ≤ 4 → decide (nI v = 0) = decide (v = 0) := fun v hv => nI_dec (a := v) (b := 0) (by omega) (by decide)
  by_cases ha : w l = 0
  · have fa : decide (nI (w l) = 0) = true := (z0 _ hwa.2).trans (decide_eq_true ha)
    exact go_no hR kx km (gx_runA2 d (by omega) μ s l hs hl cx t _ ht4 P.tx rfl hu4 hx1 fsu (sr_x hsr) (by rw [xa]; exact fa)) (mr_runA2 d (by omega) μ s l hs hl cm t _ ht4 P.tm rfl hu4 hm1 fsu (sr_m hsr) (by rw [hwa.1]; exact fa))
  have fa : decide (nI (w l) = 0) = false := (z0 _ hwa.2).trans (decide_eq_false ha)
  by_cases hb : w (l + 1) = 0
  · have fb : decide (nI (w (l + 1)) = 0) = true := (z0 _ hwb.2).trans (decide_eq_true hb)
    exact go_no hR kx km (gx_runB2 d (by omega) μ s l hs hl cx t _ ht4 P.tx rfl hu4 hx1 fsu (sr_x hsr) (by rw [xa]; exact fa) (by rw [xb]; exact fb)) (mr_runB2 d (by omega) μ s l hs hl cm t _ ht4 P.tm rfl hu4 hm1 fsu (sr_m hsr) (by rw [hwa.1]; exact fa) (by rw [hwb.1]; exact fb))
  have fb : decide (nI (w (l + 1)) = 0) = false := (z0 _ hwb.2).trans (decide_eq_false hb)
  have hq3 : q ≤ 3 := q3_of G hs hp1 H.1.2.1 H.1.2.2.1 (by
    have g2 := G.1.le2 hs (a := l) (b := (l + 1)) (by omega) (by omega) (by omega)
    have g4 : hI μ (34 * s + l) = w l := by unfold hI; rw [hwa.1]; exact nI_toInt (by omega)
    have g5 : hI μ (34 * s + (l + 1)) = w (l + 1) := by unfold hI; rw [hwb.1]; exact nI_toInt (by omega)
    omega)
  have d1 : decide ((nI (l + 2)) < (nI l)) = false := (nI_lt2 (by omega) (by omega)).trans (decide_eq_false (by omega))
  have d2 : decide ((nI (l + 2)) ≤ (nI (l + 2))) = true := (nI_le2 (by omega) (by omega)).trans (decide_eq_true (by omega))
  have d3 : decide ((nI l) = (nI (l + 2))) = false := (nI_dec (by omega) (by omega)).trans (decide_eq_false (by omega))
  have d4 : decide ((nI (l + 1)) = (nI (l + 2))) = false := (nI_dec (by omega) (by omega)).trans (decide_eq_false (by omega))
  have d5 : decide ((nI (l + 2)) = (nI (l + 2))) = true := (nI_dec (by omega) (by omega)).trans (decide_eq_true (by omega))
  have cdK : ∀ (kk : Bool), kA (koF μ s (usL2 l) (bsL2 l)) 34 = kk → ∀ μ1, EqM μ μ1 → ∀ d, 2 ≤ d → z_C d mi_X7_canDiscard [.ref 50, .int (nI s)] (z_giv (z_giv (z_ui (z_ui (z_ui μ1 50 0 0) 50 50 (nI (l + 2))) 50 51 (abL2 l)) s l (-1)) s (l + 1) (-1)) (zR (z_giv (z_giv (z_ui (z_ui (z_ui μ1 50 0 0) 50 50 (nI (l + 2))) 50 51 (abL2 l)) s l (-1)) s (l + 1) (-1)) (.int (nB kk))) := fun kk hk μ1 qM d hd => by
    have z := gm_canDiscard d hd (z_giv (z_giv (z_ui (z_ui (z_ui μ1 50 0 0) 50 50 (nI (l + 2))) 50 51 (abL2 l)) s l (-1)) s (l + 1) (-1)) s hs
    rw [← ko_run2 (x := μ) (R.cg (eqX_rf _) qM) hs hl hsr, hk] at z
    exact z
  have cc := fun (ko : Bool) (hko : ∀ d, 3 ≤ d → z_C d mi_X6_keepsOther [.ref (19 + 8 * s), .long ((7 <<< ((nI l).toInt64 &&& 63)) &&& (((1 : Int64) <<< ((nI (l + 2)).toInt64 &&& 63)) ^^^ (-1))), .long (((1 : Int64) <<< ((nI (l + 2)).toInt64 &&& 63)) ||| oeL2 l)] μ (zR μ (.int (nB ko)))) => gc_run d (by omega) μ s q l hs hq3 H.2.2.2.1 hl (by rw [show zl 0 = 2 from by decide]; omega) t (l + 2) ((t + 1) % 4) ((t + 2) % 4) ((t + 3) % 4) _ _ _ ht4 P.tx hc cx rfl (Nat.mod_lt _ (by decide)) (hW ((t + 1) % 4) (Nat.mod_lt _ (by decide))).1 rfl (Nat.mod_lt _ (by decide)) (hW ((t + 2) % 4) (Nat.mod_lt _ (by decide))).1 rfl (Nat.mod_lt _ (by decide)) (hW ((t + 3) % 4) (Nat.mod_lt _ (by decide))).1 true hx1 true (sr_x hsr) (oeL2 l) (oe_x cx (oe_eq2 l (by omega))) ko hko
  rw [fsu, d1, d2, d3, d4, d5, xa, xb, fa, fb] at cc
  simp only [cond_true, cond_false] at cc
  have mm : ∀ (kk : Bool), kA (koF μ s (usL2 l) (bsL2 l)) 34 = kk → ∀ μ1, LJ μ1 → EqM μ μ1 → EqB μ (ruM2 μ1 s l) ∧ z_C d mi_X7_run [.ref 50, .int (nI s), .int (nI l)] μ1 (fun r μ' => (ruC2 μ1 s l ((t + 1) % 4) true true kk = true ∧ r = some (.int 1) ∧ SMj (ruO2 (ovF (ruM2 μ1 s l) t (l + 2) W) s l q) μ') ∨ (ruC2 μ1 s l ((t + 1) % 4) true true kk = false ∧ r = some (.int 0) ∧ (μ' = z_ui μ1 50 0 0 ∨ μ' = ruM2 μ1 s l))) := fun kk hk μ1 h1 qM => by
    have E : ∀ r k', gMc r k' → μ1.1 r k' = μ.1 r k' := fun r k' g => (qM r k' g).1
    have eB : EqB μ (ruM2 μ1 s l) := eB_tr (eB_M qM) (eB_tr (eB_0 μ1 0) (eB_tr (eB_50 _ _ _) (eB_g4 (by omega) (by decide))))
    have hA' : a_H (ruM2 μ1 s l) := a_H_ui (a_H_ui (a_H_ui (a_H_ui (a_H_ui (a_H_ui (a_H_ui h1.1.1 (bI_top _)) (bI_top _)) (bI_top _)) (bI_top _)) (bI_top _)) (bI_top _)) (bI_top _)
    have P' := P.cgB eB (by decide)
    have ov := ov_go (hW.m (eB_SE eB)) hA' ht4 P'.tm (P'.cm.trans (if_neg (by omega)))
    exact ⟨eB, gm_run2 d (by omega) μ1 s q l t ((t + 1) % 4) hs (by omega) hl ht4 ((E 50 45 (Or.inr ⟨rfl, by decide, by decide⟩)).trans P.tm) rfl hu4 ((E 50 49 (Or.inr ⟨rfl, by decide, by decide⟩)).trans cm) true (mC_m hs ((mMC_e qM).trans hm)) true (sr_m hsr) kk (cdK kk hk μ1 qM) (ovF (ruM2 μ1 s l) t (l + 2) W) ov ((ovF_o (by decide) (by decide) (Or.inr ⟨by decide, by decide⟩)).trans (P'.cm.trans (if_neg (by omega)))) (((ovF_o (by decide) (by decide) (Or.inl (by decide))).trans (eB 64 s (Or.inl ⟨by decide, by decide⟩) (by omega)).1).trans H.1.2.1)⟩
  cases hk : kA (koF μ s (usL2 l) (bsL2 l)) 34 with
  | true =>
    have c1 := cc true (fun d hd => by rw [← hk]; exact gc_keepsOther d (by omega) μ s hs _ _)
    simp only [cond_true, cond_false] at c1
    refine go_yes (X := z_uj (tkS μ s l q 0 t (l + 2) ((t + 1) % 4) ((t + 2) % 4) ((t + 3) % 4) (bw (W ((t + 1) % 4)) (l + 2)) (bw (W ((t + 2) % 4)) (l + 2)) (bw (W ((t + 3) % 4)) (l + 2))) 0 18 (((1 : Int64) <<< ((nI (l + 2)).toInt64 &&& 63)) ||| oeL2 l)) (y := 1) kx km (z_C_mono c1 (fun r μ' z => ⟨z.1, by rw [z.2]; exact eqX_rf _⟩)) (fun μ1 h1 qM => ?_)
    obtain ⟨eB, z⟩ := mm true hk μ1 h1 qM
    refine z_C_mono z (fun r μ' z => ?_)
    have E : ∀ r k', gMc r k' → μ1.1 r k' = μ.1 r k' := fun r k' g => (qM r k' g).1
    rcases z with ⟨-, z2, z3⟩ | ⟨z1, -, -⟩
    · refine ⟨z2, ?_⟩
      have e50 : (ruM2 μ1 s l).1 50 50 = nI (l + 2) := by unfold ruM2; rw [giv_o (by decide), giv_o (by decide), giv_o (by decide), giv_o (by decide), ui_k (by decide), ui_s]
      have e51 : (ruM2 μ1 s l).1 50 51 = abL2 l := by unfold ruM2; rw [giv_o (by decide), giv_o (by decide), giv_o (by decide), giv_o (by decide), ui_s]; rfl
      revert eB z3 e50 e51
      generalize (ruM2 μ1 s l) = M
      intro eB z3 e50 e51
      have R' := R.cgB eB
      have P' := P.cgB eB (by decide)
      obtain ⟨RO, QO, fO⟩ := ov_rq (W := W) R' P' (Or.inl rfl) (fun j hj => (eB 71 j (Or.inl ⟨by decide, by decide⟩) (by omega)).1.trans (hsy j hj))
      rw [if_pos rfl] at QO
      have o64 : ∀ j, (ovF M t (l + 2) W).1 64 j = μ.1 64 j := fun j => (ovF_o (by decide) (by decide) (Or.inl (by decide))).trans (eB 64 j (Or.inl ⟨by decide, by decide⟩) (by omega)).1
      have g := rg_run2 (bs := bsL2 l) RO QO fO hs (by omega) ((sr_iff _).mp hsr) hq3 ((o64 s).trans H.1.2.1) (fun j hj => by rw [o64]; exact m4_of hA j hj) (by rw [ovF_o (by decide) (by decide) (Or.inr ⟨by decide, by decide⟩), ovF_o (by decide) (by decide) (Or.inr ⟨by decide, by decide⟩), e50, e51]; exact bs_eq2 l (by omega) hsr) ⟨(l + 2), hc, (ovF_o (by decide) (by decide) (Or.inr ⟨by decide, by decide⟩)).trans e50, by rw [ovF_o (by decide) (by decide) (Or.inr ⟨by decide, by decide⟩), e51]; exact ab_k2 l (by omega) hsr⟩
      exact RG.cg (eqX_rf _) (sm_EqM z3) g
    · exfalso
      unfold ruC2 at z1
      rw [fsu, E 60 _ (Or.inl ⟨by decide, by decide⟩), hwa.1, fa, E 60 _ (Or.inl ⟨by decide, by decide⟩), hwb.1, fb] at z1
      cases z1
  | false =>
    have c1 := cc false (fun d hd => by rw [← hk]; exact gc_keepsOther d (by omega) μ s hs _ _)
    simp only [cond_true, cond_false] at c1
    refine go_yes (X := μ) (y := 0) kx km (z_C_mono c1 (fun r μ' z => ⟨z.1, by rw [z.2]; exact eqX_rf _⟩)) (fun μ1 h1 qM => ?_)
    obtain ⟨eB, z⟩ := mm false hk μ1 h1 qM
    refine z_C_mono z (fun r μ' z => ?_)
    rcases z with ⟨z1, -, -⟩ | ⟨-, z2, z3⟩
    · exfalso
      unfold ruC2 at z1
      rw [Bool.and_false] at z1
      cases z1
    · refine ⟨z2, ?_⟩
      rcases z3 with z3 | z3
      · rw [z3]; exact RG.cgB2 R P (eB_tr (eB_M qM) (eB_0 μ1 0))
      · rw [z3]; exact RG.cgB2 R P eB
theorem lg_run {d : Nat} (hd : 705 ≤ d) {μ : zM} (h : LGm μ) (y x : Int32) : GO d mi_X6_run mi_X7_run [.ref 0, .int y, .int x] [.ref 50, .int y, .int x] μ := by
  obtain ⟨hJ, hR⟩ := h
  have kx : z_C d mi_X6_run [.ref 0, .int y, .int x] μ (fun _ μ' => LJ μ' ∧ EqM μ μ') := lg_k (i := 61) (K := ak_61) rfl (by omega) (by decide +kernel) (by decide +kernel) rfl (by decide +kernel) [.ref 0, .int y, .int x] μ hJ ⟨⟨0, by decide, rfl⟩, ⟨_, rfl, bI_top _⟩, ⟨_, rfl, bI_top _⟩, trivial⟩
  have km : ∀ μ1, LJ μ1 → z_C d mi_X7_run [.ref 50, .int y, .int x] μ1 (fun _ μ' => LJ μ' ∧ EqX μ1 μ') := fun μ1 h1 => lg_g h1 (fc_X7_run d (by omega) μ1 y x h1.1)
  have hA := hJ.1.1
  by_cases hy : vp_in y 4
  · obtain ⟨s, hs, rfl⟩ := vp_in_of hy (by decide)
    have eq := mc_eq hR hs
    cases hm : mMC μ s with
    | false => exact go_no hR kx km (gx_run d (by omega) μ _ _ (mC_x hs (eq.trans hm))) (mr_run d (by omega) μ _ _ (mC_m hs hm))
    | true =>
      have hx1 := mC_x hs (eq.trans hm)
      have hm1 := mC_m hs hm
      obtain ⟨t, c, P, hc, hsy, -⟩ := mc_in hR hm
      have ht4 := P.t4
      have hu4 : (t + 1) % 4 < 4 := by omega
      have cx : μ.1 0 15 = nI c := P.cx.trans (if_neg (by omega))
      have cm : μ.1 50 49 = nI c := P.cm.trans (if_neg (by omega))
      by_cases hsu : s = (t + 1) % 4
      · have fsu : decide (nI s = nI ((t + 1) % 4)) = true := decide_eq_true (by rw [hsu])
        cases hsr : srB x with
        | false => exact go_no hR kx km (gx_runR d (by omega) μ s hs x t _ ht4 P.tx rfl hu4 hx1 fsu (sr_x hsr)) (mr_runR d (by omega) μ s hs x t _ ht4 P.tm rfl hu4 hm1 fsu (sr_m hsr))
        | true =>
          obtain ⟨l, hl, rfl⟩ := sr_nat x hsr
          by_cases h1 : c < l
          · have f1 : decide (nI c < nI l) = true := (nI_lt2 (by omega) (by omega)).trans (decide_eq_true h1)
            exact go_no hR kx km (gx_runL d (by omega) μ s l c hs (by omega) cx t _ ht4 P.tx rfl hu4 hx1 fsu (sr_x hsr) f1) (mr_runL d (by omega) μ s l c hs (by omega) cm t _ ht4 P.tm rfl hu4 hm1 fsu (sr_m hsr) f1)
          · have f1 : decide (nI c < nI l) = false := (nI_lt2 (by omega) (by omega)).trans (decide_eq_false h1)
            by_cases h2 : c ≤ l + 2
            · obtain e | e | e : c = l ∨ c = l + 1 ∨ c = l + 2 := by omega
              · subst e; exact lg_run0 hd hJ hR hs (by omega) hsr P hsu hm hsy kx km
              · subst e; exact lg_run1 hd hJ hR hs (by omega) hsr P hsu hm hsy kx km
              · subst e; exact lg_run2 hd hJ hR hs (by omega) hsr P hsu hm hsy kx km
            · have f2 : decide (nI c ≤ nI (l + 2)) = false := (nI_le2 (by omega) (by omega)).trans (decide_eq_false h2)
              exact go_no hR kx km (gx_runG d (by omega) μ s l c hs (by omega) cx t _ ht4 P.tx rfl hu4 hx1 fsu (sr_x hsr) f1 f2) (mr_runG d (by omega) μ s l c hs (by omega) cm t _ ht4 P.tm rfl hu4 hm1 fsu (sr_m hsr) f1 f2)
      · have fsu : decide (nI s = nI ((t + 1) % 4)) = false := decide_eq_false (fun e => hsu ((nI_eq (by omega) (by omega)).mp e))
        exact go_no hR kx km (gx_runS d (by omega) μ s hs x t _ ht4 P.tx rfl hu4 hx1 fsu) (mr_runS d (by omega) μ s hs x t _ ht4 P.tm rfl hu4 hm1 fsu)
  · exact go_no hR kx km (gx_run d (by omega) μ y x (fun d hd => z_C_mono (gx_mayClaim d (by omega) μ y (isS_x hy)) (fun r m z => ⟨z.2, z.1⟩))) (mr_run d (by omega) μ y x (fun d hd => z_C_mono (mr_mayClaim d (by omega) _ y (isS_no hy)) (fun r m z => ⟨z.2, z.1⟩)))
/-! discard answers alike -/
set_option maxRecDepth 8000
theorem hd_or (a b : Int64) {k : Nat} (hk : k < 34) : xHd (a ||| b) (nI k) = (xHd a (nI k) || xHd b (nI k)) := by
  unfold xHd
  rw [kn_l0 (by omega), kn_le (m := 34) rfl (by omega) hk, shu_bit _ hk, shu_bit _ hk, shu_bit _ hk, Int64.toBitVec_or, BitVec.getLsbD_or]
  cases a.toBitVec.getLsbD k <;> cases b.toBitVec.getLsbD k <;> decide
theorem bar_hd {m : zM} {k : Nat} (hk : k < 34) (h : m.1 50 57 = 0 ∨ (¬ m.1 50 57 = 0 ∧ BN m)) : xHd (barM m) (nI k) = (!decide (m.1 50 57 = 0) && (decide (nI k = m.1 50 50) || decide (nI k = m.1 50 51))) := by
  unfold barM
  rcases h with h | ⟨h, b, hb, e50, h51⟩
  · rw [decide_eq_true h, cond_true, hd_zero k hk]; rfl
  · rw [decide_eq_false h, cond_false, hd_or _ _ hk, e50, hd_one b hb k hk, nI_dec hk hb, Bool.not_false, Bool.true_and]
    rcases h51 with h51 | ⟨e, he, h51⟩
    · rw [h51, show decide ((-1 : Int32) = -1) = true from by decide, cond_true, hd_zero k hk, nI_m1n hk]
    · rw [h51, nI_m1n he, cond_false, hd_one e he k hk, nI_dec hk he]
theorem dc0_tree {α : Type} (A J B1 B2 Z T : Bool) (y n : α) : (bif A then n else (bif J then (bif Z then y else (bif T then y else n)) else (bif B1 then n else (bif B2 then n else (bif Z then y else (bif T then y else n)))))) = (bif (!A && (!(!J && (B1 || B2)) && (Z || T))) then y else n) := by
  cases A <;> cases J <;> cases B1 <;> cases B2 <;> cases Z <;> cases T <;> rfl
theorem dc1_tree (A J B1 B2 Z T r : Bool) : (!A && (bif J then (Z && r) else (!B1 && (!B2 && (Z && r))))) = ((!A && (!(!J && (B1 || B2)) && (Z || T))) && (Z && r)) := by
  cases A <;> cases J <;> cases B1 <;> cases B2 <;> cases Z <;> cases T <;> cases r <;> rfl
/-- may a tile be discarded: the reference's words -/
noncomputable def dcT (m : zM) (t k : Nat) : Bool := !decide (m.1 60 (34 * t + k) = 0) && (!(!decide (m.1 50 57 = 0) && (decide (nI k = m.1 50 50) || decide (nI k = m.1 50 51))) && (decide (m.1 67 t ≤ 0) || decide (nI k = m.1 50 49)))
theorem bet_le {x m : zM} (R : RCl x m) {t : Nat} (ht : t < 4) : decide (m.1 67 t ≤ 0) = decide (m.1 67 t = 0) := by
  rcases R.bb t ht with e | e | e <;> (rw [e]; decide)
theorem mt_eq {x m : zM} {t c k : Nat} (R : RCl x m) (P : RPh x m 1 t c) (hk : k < 34) : (!(decide ((fr x (20 + 8 * t) (nI k)) = 0)) && (!(xHd (x.2.1 0 18) (nI k)) && ((decide ((x.1 (18 + 8 * t) 5) = 0)) || (decide ((nI k) = (x.1 0 15)))))) = dcT m t k := by
  have hb : m.1 50 57 = 0 ∨ (¬ m.1 50 57 = 0 ∧ BN m) := by
    rcases P.c3 with q | ⟨q, _⟩
    · left; rw [P.jc rfl, if_neg (by omega)]
    · right; exact ⟨by rw [P.jc rfl, if_pos q]; decide, (P.bn rfl q).1⟩
  unfold dcT
  rw [P.ba rfl, bar_hd hk hb, fr_yes hk, R.hd t k P.t4 hk, R.be t P.t4, P.cx.trans P.cm.symm, bet_le R P.t4]
theorem rv86 {μ : zM} {a : Nat} (hP : GP μ) (hH : a_H μ) (ha : a < 4) (y1 : μ.1 50 44 = 1) : ∃ rr, rr < 86 ∧ μ.1 66 a = nI rr := by
  have g6 := hP.2.2.2.2.2
  have g2 := hP.2.1
  have g3 : (μ.1 50 48).toInt = (μ.1 50 47).toInt := by rw [hP.2.2.1]
  rw [if_pos y1] at g6
  have m : ∀ s, mI μ s ≤ 4 := fun s => (hH 64 s).2
  have r : ∀ s, 0 ≤ rI μ s := fun s => (hH 66 s).1
  have m0 := m 0
  have m1 := m 1
  have m2 := m 2
  have m3 := m 3
  have r0 := r 0
  have r1 := r 1
  have r2 := r 2
  have r3 := r 3
  unfold sM sR at g6
  have hb : rI μ a < 86 := by
    rcases (show a = 0 ∨ a = 1 ∨ a = 2 ∨ a = 3 by omega) with rfl | rfl | rfl | rfl <;> omega
  exact a_nI (x := μ.1 66 a) (n := 86) (r a) hb (by decide)
theorem HF.aw {x m : zM} {s : Nat} {w aw : Nat → Nat} {q : Nat} {sL lL : Nat → Nat} (H : HF x m s w aw q sL lL) {k : Nat} (hk : k < 34) : ∃ e, aw k = w k + e := by
  obtain ⟨h1, h2, h3, h4, h5, h6, h7, h8⟩ := H
  obtain ⟨e, z1, z2⟩ := ofv_nat (so := fun i => m.1 62 (4 * s + i)) (lo := fun i => m.1 63 (4 * s + i)) (k := nI k) (w := w k) q
  have a := h6 k hk
  have b := (h1.1 k hk).2
  have c := h1.2.2.1
  exact ⟨e, (nI_eq (by omega) (by omega)).mp ((h8 k hk).trans z2)⟩
theorem all_ne {x m : zM} {s : Nat} {w aw : Nat → Nat} {q : Nat} {sL lL : Nat → Nat} (H : HF x m s w aw q sL lL) {k : Nat} (hk : k < 34) (h : 1 ≤ w k) : ¬ x.1 (21 + 8 * s) k = 0 := by
  obtain ⟨e, z⟩ := H.aw hk
  have a := H.2.2.1 k hk
  have b := H.2.2.2.2.2.1 k hk
  rw [a.1]
  intro y
  have := (nI_eq (a := aw k) (b := 0) (by omega) (by decide)).mp y
  omega
noncomputable def tk1 (w : Nat → Nat) (k : Nat) : Nat → Nat := fun j => if j = k then w j - 1 else w j
theorem nI_p {n : Nat} (h : 1 ≤ n) : nI n + -1 = nI (n - 1) := by
  obtain ⟨v, rfl⟩ : ∃ v, n = v + 1 := ⟨n - 1, by omega⟩
  rw [← nI_s1, Int32.add_assoc, show (1 : Int32) + -1 = 0 from by decide, Int32.add_zero, Nat.add_sub_cancel]
theorem ofv_p {a b k : Int32} {so lo : Nat → Int32} : ∀ n, ofv (a + b) so lo k n = ofv a so lo k n + b
  | 0 => rfl
  | n + 1 => by
    show ofv (a + b) so lo k n + ct (so n) (lo n) k = ofv a so lo k n + ct (so n) (lo n) k + b
    rw [ofv_p n, Int32.add_assoc, Int32.add_comm b, ← Int32.add_assoc]
theorem tk1_s {w : Nat → Nat} {k : Nat} : tk1 w k k = w k - 1 := if_pos rfl
theorem tk1_o {w : Nat → Nat} {k j : Nat} (h : j ≠ k) : tk1 w k j = w j := if_neg h
theorem sn_tk1 {w : Nat → Nat} {k : Nat} (hk : k < 34) (h : 1 ≤ w k) : sn w 34 = sn (tk1 w k) 34 + 1 := by
  rw [← sn_ad1 (w := tk1 w k) hk]
  refine sn_congr9 34 (fun i _ => ?_)
  unfold ad1
  by_cases e : i = k
  · subst e; rw [if_pos rfl, tk1_s]; omega
  · rw [if_neg e, tk1_o e]
theorem hf_take {x m : zM} {s : Nat} {w aw : Nat → Nat} {q : Nat} {sL lL : Nat → Nat} (H : HF x m s w aw q sL lL) (hs : s < 4) {k : Nat} (hk : k < 34) (h1 : 1 ≤ w k) : HF (pS x s k (-1)) (z_giv m s k (-1)) s (tk1 w k) (tk1 aw k) q sL lL := by
  obtain ⟨e, he⟩ := H.aw hk
  obtain ⟨g1, g2, g3, g4, g5, g6, g7, g8⟩ := H
  refine ⟨⟨fun j hj => ?_, ?_, g1.2.2.1, fun j hj => ?_⟩, fun j hj => ?_, fun j hj => ?_, ?_, fun hq j hj => ?_, fun j hj => ?_, ?_, fun j hj => ?_⟩
  · rw [giv_60]
    by_cases e2 : j = k
    · subst e2; rw [if_pos rfl, (g1.1 j hj).1, nI_p h1, tk1_s]; exact ⟨rfl, by have := (g1.1 j hj).2; omega⟩
    · rw [if_neg (by omega), tk1_o e2]; exact g1.1 j hj
  · rw [giv_o (by decide)]; exact g1.2.1
  · rw [giv_o (by decide), giv_o (by decide)]; exact g1.2.2.2 j hj
  · unfold pS
    by_cases e2 : j = k
    · subst e2; simp (disch := first | decide | exact ad_ne (by decide) | exact ad_m (by decide) | exact ad_l (by decide) | exact ad_g (by decide) | exact ad_lt (by decide) | exact ad_o (by decide) | omega) only [↓ui_s, ↓ui_o, ↓ui_k, ui_s, ui_o, ui_k]; rw [(g2 j hj).1, nI_p h1, tk1_s]; exact ⟨rfl, by have := (g2 j hj).2; omega⟩
    · simp (disch := first | decide | exact ad_ne (by decide) | exact ad_m (by decide) | exact ad_l (by decide) | exact ad_g (by decide) | exact ad_lt (by decide) | exact ad_o (by decide) | omega) only [↓ui_s, ↓ui_o, ↓ui_k, ui_s, ui_o, ui_k]; rw [tk1_o e2]; exact g2 j hj
  · unfold pS
    by_cases e2 : j = k
    · subst e2; simp (disch := first | decide | exact ad_ne (by decide) | exact ad_m (by decide) | exact ad_l (by decide) | exact ad_g (by decide) | exact ad_lt (by decide) | exact ad_o (by decide) | omega) only [↓ui_s, ↓ui_o, ↓ui_k, ui_s, ui_o, ui_k]; rw [(g3 j hj).1, nI_p (by omega), tk1_s]; exact ⟨rfl, by have := (g3 j hj).2; omega⟩
    · simp (disch := first | decide | exact ad_ne (by decide) | exact ad_m (by decide) | exact ad_l (by decide) | exact ad_g (by decide) | exact ad_lt (by decide) | exact ad_o (by decide) | omega) only [↓ui_s, ↓ui_o, ↓ui_k, ui_s, ui_o, ui_k]; rw [tk1_o e2]; exact g3 j hj
  · unfold pS; simp (disch := first | decide | exact ad_ne (by decide) | exact ad_m (by decide) | exact ad_l (by decide) | exact ad_g (by decide) | exact ad_lt (by decide) | exact ad_o (by decide) | omega) only [↓ui_s, ↓ui_o, ↓ui_k, ui_s, ui_o, ui_k]; exact g4
  · unfold tk1; rw [g5 hq j hj]
  · by_cases e2 : j = k
    · subst e2; rw [tk1_s]; have := g6 j hj; omega
    · rw [tk1_o e2]; exact g6 j hj
  · unfold pS; rw [ui_s, g7, sn_tk1 hk h1, nI_p (by omega), Nat.add_sub_cancel]
  · rw [show (fun i => (z_giv m s k (-1)).1 62 (4 * s + i)) = (fun i => m.1 62 (4 * s + i)) from funext fun i => giv_o (by decide), show (fun i => (z_giv m s k (-1)).1 63 (4 * s + i)) = (fun i => m.1 63 (4 * s + i)) from funext fun i => giv_o (by decide)]
    by_cases e2 : j = k
    · subst e2; rw [tk1_s, tk1_s, ← nI_p h1, ofv_p, ← g8 j hj, nI_p (by omega)]
    · rw [tk1_o e2, tk1_o e2]; exact g8 j hj
theorem pS_back {x : zM} {s k : Nat} (hs : s < 4) : EqX x (pS (pS x s k (-1)) s k 1) := fun r k' _ => ⟨by
  have z : ∀ v : Int32, v + -1 + 1 = v := fun v => by rw [Int32.add_assoc, show (-1 : Int32) + 1 = 0 from by decide, Int32.add_zero]
  unfold pS
  by_cases e1 : r = 20 + 8 * s
  · subst e1
    by_cases e2 : k' = k
    · subst e2; simp (disch := first | decide | exact ad_ne (by decide) | exact ad_m (by decide) | exact ad_l (by decide) | exact ad_g (by decide) | exact ad_lt (by decide) | exact ad_o (by decide) | omega) only [↓ui_s, ↓ui_o, ↓ui_k, ui_s, ui_o, ui_k]; exact z _
    · simp (disch := first | decide | exact ad_ne (by decide) | exact ad_m (by decide) | exact ad_l (by decide) | exact ad_g (by decide) | exact ad_lt (by decide) | exact ad_o (by decide) | omega) only [↓ui_s, ↓ui_o, ↓ui_k, ui_s, ui_o, ui_k]
  · by_cases e1 : r = 21 + 8 * s
    · subst e1
      by_cases e2 : k' = k
      · subst e2; simp (disch := first | decide | exact ad_ne (by decide) | exact ad_m (by decide) | exact ad_l (by decide) | exact ad_g (by decide) | exact ad_lt (by decide) | exact ad_o (by decide) | omega) only [↓ui_s, ↓ui_o, ↓ui_k, ui_s, ui_o, ui_k]; exact z _
      · simp (disch := first | decide | exact ad_ne (by decide) | exact ad_m (by decide) | exact ad_l (by decide) | exact ad_g (by decide) | exact ad_lt (by decide) | exact ad_o (by decide) | omega) only [↓ui_s, ↓ui_o, ↓ui_k, ui_s, ui_o, ui_k]
    · by_cases e1 : r = 19 + 8 * s
      · subst e1
        by_cases e2 : k' = 5
        · subst e2; simp (disch := first | decide | exact ad_ne (by decide) | exact ad_m (by decide) | exact ad_l (by decide) | exact ad_g (by decide) | exact ad_lt (by decide) | exact ad_o (by decide) | omega) only [↓ui_s, ↓ui_o, ↓ui_k, ui_s, ui_o, ui_k]; exact z _
        · simp (disch := first | decide | exact ad_ne (by decide) | exact ad_m (by decide) | exact ad_l (by decide) | exact ad_g (by decide) | exact ad_lt (by decide) | exact ad_o (by decide) | omega) only [↓ui_s, ↓ui_o, ↓ui_k, ui_s, ui_o, ui_k]
      · simp (disch := first | decide | exact ad_ne (by decide) | exact ad_m (by decide) | exact ad_l (by decide) | exact ad_g (by decide) | exact ad_lt (by decide) | exact ad_o (by decide) | omega) only [↓ui_s, ↓ui_o, ↓ui_k, ui_s, ui_o, ui_k], rfl⟩
/-- may the hand bet: the reference's words -/
noncomputable def mbF (m : zM) (t qs : Nat) (wt : Int64) : Bool := decide (m.1 67 t ≤ 0) && (!kA (ioF m t) qs && (!decide (m.1 61 t < 1000) && (decide (4 ≤ 122 - m.1 50 47 - m.1 50 46) && !decide (lg_cmp wt 0 = 0))))
theorem lt_nle (a b : Int32) : (!decide (a < b)) = decide (b ≤ a) := by
  by_cases h : a < b
  · rw [decide_eq_true h, decide_eq_false (fun e => absurd (Int32.lt_iff_toInt_lt.mp h) (by have := Int32.le_iff_toInt_le.mp e; omega))]; rfl
  · rw [decide_eq_false h, decide_eq_true (Int32.le_iff_toInt_le.mpr (by have z : ¬ a.toInt < b.toInt := fun q => h (Int32.lt_iff_toInt_lt.mpr q); omega))]; rfl
theorem mb_x {x m : zM} {t c k : Nat} {w aw : Nat → Nat} {qs : Nat} {sL lL : Nat → Nat} (R : RCl x m) (P : RPh x m 1 t c) (H : HF x m t w aw qs sL lL) (hk : k < 34) (h1 : 1 ≤ w k) {wt : Int64} (hwt : ∀ μ1, TE (pS x t k (-1)) μ1 → ∀ d, 7 ≤ d → z_C d mi_X3_waiting [.ref (19 + 8 * t)] μ1 (zR μ1 (.long wt))) : ∀ d, 8 ≤ d → z_C d mi_X6_mayBet [.ref 0, .ref (18 + 8 * t)] (pS x t k (-1)) (zR (pS x t k (-1)) (.int (nB (mbF m t qs wt)))) := fun d hd => by
  have ht := P.t4
  have z := gc_mayBet d hd (pS x t k (-1)) t ht qs H.1.2.2.1 (by unfold pS; simp (disch := first | decide | exact ad_ne (by decide) | exact ad_m (by decide) | exact ad_l (by decide) | exact ad_g (by decide) | exact ad_lt (by decide) | exact ad_o (by decide) | omega) only [↓ui_s, ↓ui_o, ↓ui_k, ui_s, ui_o, ui_k]; exact H.2.2.2.1) wt (fun d hd => hwt _ (fun _ _ _ _ _ _ => rfl) d hd)
  have e5 : (pS x t k (-1)).1 (18 + 8 * t) 5 = m.1 67 t := by unfold pS; simp (disch := first | decide | exact ad_ne (by decide) | exact ad_m (by decide) | exact ad_l (by decide) | exact ad_g (by decide) | exact ad_lt (by decide) | exact ad_o (by decide) | omega) only [↓ui_s, ↓ui_o, ↓ui_k, ui_s, ui_o, ui_k]; exact R.be t ht
  have e4 : (pS x t k (-1)).1 (18 + 8 * t) 4 = m.1 61 t := by unfold pS; simp (disch := first | decide | exact ad_ne (by decide) | exact ad_m (by decide) | exact ad_l (by decide) | exact ad_g (by decide) | exact ad_lt (by decide) | exact ad_o (by decide) | omega) only [↓ui_s, ↓ui_o, ↓ui_k, ui_s, ui_o, ui_k]; exact R.pt t ht
  have eo : (pS x t k (-1)).1 (22 + 8 * t) = x.1 (22 + 8 * t) := by
    funext i; unfold pS; simp (disch := first | decide | exact ad_ne (by decide) | exact ad_m (by decide) | exact ad_l (by decide) | exact ad_g (by decide) | exact ad_lt (by decide) | exact ad_o (by decide) | omega) only [↓ui_s, ↓ui_o, ↓ui_k, ui_s, ui_o, ui_k]
  have el : xLf (pS x t k (-1)) = 122 - m.1 50 47 - m.1 50 46 := by
    unfold xLf pS
    simp (disch := first | decide | exact ad_ne (by decide) | exact ad_m (by decide) | exact ad_l (by decide) | exact ad_g (by decide) | exact ad_lt (by decide) | exact ad_o (by decide) | omega) only [↓ui_s, ↓ui_o, ↓ui_k, ui_s, ui_o, ui_k]
    rw [R.sd, P.is, P.fo, R.nx, show decide ((1 : Int32) = 0) = false from by decide, cond_false]
  rw [e5, e4, eo, el, open_eq R ht qs H.1.2.2.1, lt_nle _ 4, ← bet_le R ht] at z
  exact z
theorem lg_disc0 {d : Nat} (hd : 705 ≤ d) {μ : zM} (h : LGm μ) (x : Int32) : GO d mi_X6_discard mi_X7_discard [.ref 0, .int x, .int 0] [.ref 50, .int x, .int 0] μ := by
  obtain ⟨hJ, hR⟩ := h
  have kx : z_C d mi_X6_discard [.ref 0, .int x, .int 0] μ (fun _ μ' => LJ μ' ∧ EqM μ μ') := lg_k (i := 59) (K := ak_59) rfl (by omega) (by decide +kernel) (by decide +kernel) rfl (by decide +kernel) [.ref 0, .int x, .int 0] μ hJ ⟨⟨0, by decide, rfl⟩, ⟨_, rfl, bI_top _⟩, ⟨_, rfl, by decide, by decide⟩, trivial⟩
  have km : ∀ μ1, LJ μ1 → z_C d mi_X7_discard [.ref 50, .int x, .int 0] μ1 (fun _ μ' => LJ μ' ∧ EqX μ1 μ') := fun μ1 h1 => lg_g h1 (fc_X7_discard d (by omega) μ1 x 0 ⟨by decide, by decide⟩ h1.1)
  have hA := hJ.1.1
  rcases hR.2 with ⟨p1, p2, -, -, -⟩ | ⟨p, t, c, P⟩
  · exact go_no hR kx km (gx_discP d (by omega) μ x 0 (by rw [p1]; decide)) (mr_discP d (by omega) μ x 0 (by rw [p2]; decide))
  · by_cases hp : p = 1
    · subst hp
      have R := hR.1
      have ht4 := P.t4
      have hp1 : μ.1 50 44 = 1 := P.pm
      have G := hJ.1.2.2 (by rw [hp1]; decide)
      by_cases hv : vp_in x 34
      · obtain ⟨k, hk, rfl⟩ := vp_in_of hv (by decide)
        obtain ⟨q, hq, e66⟩ := rv86 G hA ht4 hp1
        obtain ⟨w, aw, qs, sL, lL, H⟩ := hf_of R P hA G ht4
        have hmt : ∀ d, 3 ≤ d → z_C d mi_X6_mayThrow [.ref 0, .int (nI k)] μ (zR μ (.int (nB (dcT μ t k)))) := fun d hd => by
          rw [← mt_eq R P hk]; exact gc_mayThrow d hd μ t ht4 P.tx (nI k)
        have E : ∀ μ1, EqM μ μ1 → ∀ r k', gMc r k' → μ1.1 r k' = μ.1 r k' := fun μ1 qM r k' g => (qM r k' g).1
        have dE : ∀ μ1, EqM μ μ1 → dcT μ1 t k = dcT μ t k := fun μ1 qM => by
          unfold dcT
          rw [E μ1 qM 60 _ (Or.inl ⟨by decide, by decide⟩), E μ1 qM 67 t (Or.inl ⟨by decide, by decide⟩), E μ1 qM 50 57 (Or.inr ⟨rfl, by decide, by decide⟩), E μ1 qM 50 50 (Or.inr ⟨rfl, by decide, by decide⟩), E μ1 qM 50 51 (Or.inr ⟨rfl, by decide, by decide⟩), E μ1 qM 50 49 (Or.inr ⟨rfl, by decide, by decide⟩)]
        have cm : ∀ μ1, EqM μ μ1 → z_C d mi_X7_discard [.ref 50, .int (nI k), .int 0] μ1 (fun r μ' => r = some (bif dcT μ t k then .int 1 else .int 0) ∧ μ' = (bif dcT μ t k then dY0 (z_ui μ1 50 0 0) t k q else z_ui μ1 50 0 0)) := fun μ1 qM => by
          have z := gm_discard0 d (by omega) μ1 t ht4 ((E μ1 qM 50 45 (Or.inr ⟨rfl, by decide, by decide⟩)).trans P.tm) k q hk (by omega) ((E μ1 qM 66 t (Or.inl ⟨by decide, by decide⟩)).trans e66)
          rw [E μ1 qM 50 44 (Or.inr ⟨rfl, by decide, by decide⟩), hp1, show decide ((1 : Int32) = 1) = true from by decide] at z
          simp only [cond_true] at z
          rw [dc0_tree, dc0_tree] at z
          rw [← dE μ1 qM]
          exact z
        cases hT : dcT μ t k with
        | true =>
          have hw1 : 1 ≤ w k := by
            rcases Nat.eq_zero_or_pos (w k) with e | e
            · exfalso
              unfold dcT at hT
              rw [(H.1.1 k hk).1, e, show decide (nI 0 = 0) = true from by decide] at hT
              cases hT
            · exact e
          have H' := hf_take H ht4 hk hw1
          have hwx := cw_wait H' ht4
          have hmb := mb_x R P H hk hw1 hwx
          have hal := all_ne H hk hw1
          have cc := gc_discard d (by omega) μ t ht4 P.tx k q hk hq ((R.ds t ht4).trans e66) false (dcT μ t k) hmt _ hmb
          rw [hT, P.px, show decide (nI 1 = 1) = true from by decide, show nB false = 0 from rfl] at cc
          simp only [cond_true, cond_false] at cc
          refine go_yes (X := dX0 μ t k q) (y := 1) kx km (z_C_mono cc (fun r μ' z => ⟨z.1, by rw [z.2]; exact eqX_rf _⟩)) (fun μ1 h1 qM => ?_)
          have z := cm μ1 qM
          rw [hT] at z
          simp only [cond_true, cond_false] at z
          refine z_C_mono z (fun r μ' z => ⟨z.1, ?_⟩)
          rw [z.2]
          have eM : EqM μ (z_ui μ1 50 0 0) := eqM_tr qM (t0_EqM μ1 0)
          have e6 : (z_ui μ1 50 0 0).1 66 t = nI q := (eM 66 t (Or.inl ⟨by decide, by decide⟩)).1.trans e66
          exact ⟨rc_discard0 (R.cg (eqX_rf _) eM) ht4 hk hq e6, Or.inr ⟨2, t, k, rp_discard0 (P.cg (eqX_rf _) eM) hk hq e6 hal⟩⟩
        | false =>
          have z := cm μ (eqM_rf _)
          rw [hT] at z
          simp only [cond_true, cond_false] at z
          exact go_no hR kx km (gx_discT d (by omega) μ (nI k) 0 (fun d hd => by have y := hmt d hd; rw [hT] at y; exact y)) z
      · exact go_no hR kx km (gx_discT d (by omega) μ x 0 (fun d hd => by
          have z := gc_mayThrow d (by omega) μ t ht4 P.tx x
          rw [fr_no hv] at z
          exact z)) (mr_discK d (by omega) μ x 0 (isK_no hv))
    · have e : ∀ v : Int32, v = nI p → decide (v = 1) = false := fun v hv => by
        rcases P.p3 with q | q | q
        · exact absurd q hp
        · rw [hv, q]; decide
        · rw [hv, q]; decide
      exact go_no hR kx km (gx_discP d (by omega) μ x 0 (e _ P.px)) (mr_discP d (by omega) μ x 0 (e _ P.pm))
theorem lg_disc1 {d : Nat} (hd : 705 ≤ d) {μ : zM} (h : LGm μ) (x : Int32) : GO d mi_X6_discard mi_X7_discard [.ref 0, .int x, .int 1] [.ref 50, .int x, .int 1] μ := by
  obtain ⟨hJ, hR⟩ := h
  have kx : z_C d mi_X6_discard [.ref 0, .int x, .int 1] μ (fun _ μ' => LJ μ' ∧ EqM μ μ') := lg_k (i := 59) (K := ak_59) rfl (by omega) (by decide +kernel) (by decide +kernel) rfl (by decide +kernel) [.ref 0, .int x, .int 1] μ hJ ⟨⟨0, by decide, rfl⟩, ⟨_, rfl, bI_top _⟩, ⟨_, rfl, by decide, by decide⟩, trivial⟩
  have km : ∀ μ1, LJ μ1 → z_C d mi_X7_discard [.ref 50, .int x, .int 1] μ1 (fun _ μ' => LJ μ' ∧ EqX μ1 μ') := fun μ1 h1 => lg_g h1 (fc_X7_discard d (by omega) μ1 x 1 ⟨by decide, by decide⟩ h1.1)
  have hA := hJ.1.1
  rcases hR.2 with ⟨p1, p2, -, -, -⟩ | ⟨p, t, c, P⟩
  · exact go_no hR kx km (gx_discP d (by omega) μ x 1 (by rw [p1]; decide)) (mr_discP d (by omega) μ x 1 (by rw [p2]; decide))
  · by_cases hp : p = 1
    · subst hp
      have R := hR.1
      have ht4 := P.t4
      have hp1 : μ.1 50 44 = 1 := P.pm
      have G := hJ.1.2.2 (by rw [hp1]; decide)
      by_cases hv : vp_in x 34
      · obtain ⟨k, hk, rfl⟩ := vp_in_of hv (by decide)
        obtain ⟨q, hq, e66⟩ := rv86 G hA ht4 hp1
        obtain ⟨w, aw, qs, sL, lL, H⟩ := hf_of R P hA G ht4
        have hmt : ∀ d, 3 ≤ d → z_C d mi_X6_mayThrow [.ref 0, .int (nI k)] μ (zR μ (.int (nB (dcT μ t k)))) := fun d hd => by
          rw [← mt_eq R P hk]; exact gc_mayThrow d hd μ t ht4 P.tx (nI k)
        have E : ∀ μ1, EqM μ μ1 → ∀ r k', gMc r k' → μ1.1 r k' = μ.1 r k' := fun μ1 qM r k' g => (qM r k' g).1
        have dE : ∀ μ1, EqM μ μ1 → dcT μ1 t k = dcT μ t k := fun μ1 qM => by
          unfold dcT
          rw [E μ1 qM 60 _ (Or.inl ⟨by decide, by decide⟩), E μ1 qM 67 t (Or.inl ⟨by decide, by decide⟩), E μ1 qM 50 57 (Or.inr ⟨rfl, by decide, by decide⟩), E μ1 qM 50 50 (Or.inr ⟨rfl, by decide, by decide⟩), E μ1 qM 50 51 (Or.inr ⟨rfl, by decide, by decide⟩), E μ1 qM 50 49 (Or.inr ⟨rfl, by decide, by decide⟩)]
        by_cases hw0 : w k = 0
        · have hz : decide (μ.1 60 (34 * t + k) = 0) = true := by rw [(H.1.1 k hk).1, hw0]; decide
          exact go_no hR kx km (gx_discT d (by omega) μ (nI k) 1 (fun d hd => by
            have y := hmt d hd
            rw [show dcT μ t k = false from by unfold dcT; rw [hz]; rfl] at y
            exact y)) (mr_discH d (by omega) μ t k ht4 P.tm hk 1 (by rw [hp1]; decide) hz)
        have hw1 : 1 ≤ w k := by omega
        have H' := hf_take H ht4 hk hw1
        have hwx := cw_wait H' ht4
        have hmb := mb_x R P H hk hw1 hwx
        have hal := all_ne H hk hw1
        have cm : ∀ μ1, LJ μ1 → EqM μ μ1 → z_C d mi_X7_discard [.ref 50, .int (nI k), .int 1] μ1 (fun r μ' => (dsC μ1 t k (kA (ioF μ t) qs) (WV (z_giv μ t k (-1)) t (tk1 w k) qs) = true ∧ r = some (.int 1) ∧ SMj (dsM μ1 t k q) μ') ∨ (dsC μ1 t k (kA (ioF μ t) qs) (WV (z_giv μ t k (-1)) t (tk1 w k) qs) = false ∧ r = some (.int 0) ∧ (SMj (z_ui μ1 50 0 0) μ' ∨ SMj (z_giv (z_giv (z_ui μ1 50 0 0) t k (-1)) t k 1) μ'))) := fun μ1 h1 qM => by
          have eM : EqM μ (z_ui μ1 50 0 0) := eqM_tr qM (t0_EqM μ1 0)
          refine gm_discard1 d (by omega) μ1 t ht4 ((E μ1 qM 50 45 (Or.inr ⟨rfl, by decide, by decide⟩)).trans P.tm) k q hk (by omega) ((E μ1 qM 66 t (Or.inl ⟨by decide, by decide⟩)).trans e66) (by rw [E μ1 qM 50 44 (Or.inr ⟨rfl, by decide, by decide⟩), hp1]; decide) _ (fun d hd => ?_) _ (fun d hd => mw_wait H'.1 ht4 (z_giv (z_ui μ1 50 0 0) t k (-1)) (fun r k' g => ?_) (show a_H (z_giv (z_ui μ1 50 0 0) t k (-1)) from a_H_ui (a_H_ui h1.1.1 (bI_top _)) (bI_top _)) d hd)
          · have z := gm_isOpenS d (by omega) (z_ui μ1 50 0 0) t qs ht4 H.1.2.2.1 ((eM 64 t (Or.inl ⟨by decide, by decide⟩)).1.trans H.1.2.1)
            rw [show ioF (z_ui μ1 50 0 0) t = ioF μ t from funext fun i => by unfold ioF; rw [(eM 62 _ (Or.inl ⟨by decide, by decide⟩)).1]] at z
            exact z
          · by_cases e : r = 60
            · subst e; rw [giv_60, giv_60, (eM 60 _ (Or.inl ⟨by decide, by decide⟩)).1]
            · rw [giv_o e, giv_o e, (eM r k' (Or.inl ⟨by omega, by omega⟩)).1]
        have dS : ∀ μ1, EqM μ μ1 → dsC μ1 t k (kA (ioF μ t) qs) (WV (z_giv μ t k (-1)) t (tk1 w k) qs) = (dcT μ t k && mbF μ t qs (WV (z_giv μ t k (-1)) t (tk1 w k) qs)) := fun μ1 qM => by
          have y := dE μ1 qM
          unfold dcT at y
          unfold dsC
          rw [dc1_tree _ _ _ _ _ (decide (nI k = μ1.1 50 49)), y]
          unfold mbF dcT
          rw [E μ1 qM 67 t (Or.inl ⟨by decide, by decide⟩), E μ1 qM 61 t (Or.inl ⟨by decide, by decide⟩), E μ1 qM 50 47 (Or.inr ⟨rfl, by decide, by decide⟩), E μ1 qM 50 46 (Or.inr ⟨rfl, by decide, by decide⟩)]
        cases hT : dcT μ t k with
        | true =>
          have cc := gc_discard d (by omega) μ t ht4 P.tx k q hk hq ((R.ds t ht4).trans e66) true (dcT μ t k) hmt _ hmb
          rw [hT, P.px, show decide (nI 1 = 1) = true from by decide, show nB true = 1 from rfl] at cc
          simp only [cond_true, cond_false] at cc
          cases hB : mbF μ t qs (WV (z_giv μ t k (-1)) t (tk1 w k) qs) with
          | true =>
            rw [hB] at cc
            simp only [cond_true, cond_false] at cc
            refine go_yes (X := dX1 μ t k q (bif decide ((μ.1 (18 + 8 * t) 2) = 0) then bif decide ((μ.1 0 17) = 0) then (2 : Int32) else 1 else 1)) (y := 1) kx km (z_C_mono cc (fun r μ' z => ⟨z.1, by rw [z.2]; exact eqX_rf _⟩)) (fun μ1 h1 qM => z_C_mono (cm μ1 h1 qM) (fun r μ' z => ?_))
            rcases z with ⟨-, z2, z3⟩ | ⟨z1, -, -⟩
            · refine ⟨z2, ?_⟩
              have eM : EqM μ (z_giv (z_giv (z_ui μ1 50 0 0) t k (-1)) t k 1) := eqM_tr (eqM_tr qM (t0_EqM μ1 0)) (fun r k' _ => ⟨gv_c (by decide) r k', rfl⟩)
              have e6 : (z_giv (z_giv (z_ui μ1 50 0 0) t k (-1)) t k 1).1 66 t = nI q := (eM 66 t (Or.inl ⟨by decide, by decide⟩)).1.trans e66
              have bv : (bif decide ((μ.1 (18 + 8 * t) 2) = 0) then bif decide ((μ.1 0 17) = 0) then (2 : Int32) else 1 else 1) = (bif decide ((nI q) = 0) then bif decide ((μ1.1 50 56) = 0) then (1 : Int32) else 2 else 1) := by
                rw [R.ds t ht4, e66, P.br, E μ1 qM 50 56 (Or.inr ⟨rfl, by decide, by decide⟩)]
                cases decide (nI q = 0) <;> cases decide (μ.1 50 56 = 0) <;> rfl
              rw [bv]
              have g : RG (dX1 μ t k q (bif decide ((nI q) = 0) then bif decide ((μ1.1 50 56) = 0) then (1 : Int32) else 2 else 1)) (dY1 (z_giv (z_giv (z_ui μ1 50 0 0) t k (-1)) t k 1) t k q (bif decide ((nI q) = 0) then bif decide ((μ1.1 50 56) = 0) then (1 : Int32) else 2 else 1)) := ⟨rc_discard1 (R.cg (eqX_rf _) eM) ht4 hk hq e6 (by cases decide (nI q = 0) <;> cases decide (μ1.1 50 56 = 0) <;> first | exact Or.inl rfl | exact Or.inr rfl), Or.inr ⟨2, t, k, rp_discard1 (P.cg (eqX_rf _) eM) hk hq e6 hal⟩⟩
              have ed : dsM μ1 t k q = dY1 (z_giv (z_giv (z_ui μ1 50 0 0) t k (-1)) t k 1) t k q (bif decide ((nI q) = 0) then bif decide ((μ1.1 50 56) = 0) then (1 : Int32) else 2 else 1) := by
                unfold dsM dY1
                generalize (bif decide ((nI q) = 0) then bif decide ((μ1.1 50 56) = 0) then (1 : Int32) else 2 else 1) = v
                generalize z_giv (z_giv (z_ui μ1 50 0 0) t k (-1)) t k 1 = M
                rw [show z_giv (z_ui M 67 t v) t k (-1) = z_ui (z_giv M t k (-1)) 67 t v from by unfold z_giv; rw [ui_o (by decide), z_ui_cm (by decide)]]
              rw [ed] at z3
              exact RG.cg (eqX_rf _) (sm_EqM z3) g
            · exfalso
              rw [dS μ1 qM, hT, hB] at z1
              cases z1
          | false =>
            rw [hB] at cc
            simp only [cond_true, cond_false] at cc
            refine go_yes (X := μ) (y := 0) kx km (z_C_mono cc (fun r μ' z => ⟨z.1, by rw [z.2]; exact pS_back ht4⟩)) (fun μ1 h1 qM => z_C_mono (cm μ1 h1 qM) (fun r μ' z => ?_))
            rcases z with ⟨z1, -, -⟩ | ⟨-, z2, z3⟩
            · exfalso
              rw [dS μ1 qM, hT, hB] at z1
              cases z1
            · refine ⟨z2, hR.cg (eqX_rf _) ?_⟩
              rcases z3 with z3 | z3
              · exact eqM_tr (eqM_tr qM (t0_EqM μ1 0)) (sm_EqM z3)
              · exact eqM_tr (eqM_tr (eqM_tr qM (t0_EqM μ1 0)) (fun r k' _ => ⟨gv_c (by decide) r k', rfl⟩)) (sm_EqM z3)
        | false =>
          exact go_yes (X := μ) (y := 0) kx km (z_C_mono (gx_discT d (by omega) μ (nI k) 1 (fun d hd => by have y := hmt d hd; rw [hT] at y; exact y)) (fun r μ' z => ⟨z.1, by rw [z.2]; exact eqX_rf _⟩)) (fun μ1 h1 qM => z_C_mono (cm μ1 h1 qM) (fun r μ' z => by
            rcases z with ⟨z1, -, -⟩ | ⟨-, z2, z3⟩
            · exfalso
              rw [dS μ1 qM, hT, Bool.false_and] at z1
              cases z1
            · refine ⟨z2, hR.cg (eqX_rf _) ?_⟩
              rcases z3 with z3 | z3
              · exact eqM_tr (eqM_tr qM (t0_EqM μ1 0)) (sm_EqM z3)
              · exact eqM_tr (eqM_tr (eqM_tr qM (t0_EqM μ1 0)) (fun r k' _ => ⟨gv_c (by decide) r k', rfl⟩)) (sm_EqM z3)))
      · exact go_no hR kx km (gx_discT d (by omega) μ x 1 (fun d hd => by
          have z := gc_mayThrow d (by omega) μ t ht4 P.tx x
          rw [fr_no hv] at z
          exact z)) (mr_discK d (by omega) μ x 1 (isK_no hv))
    · have e : ∀ v : Int32, v = nI p → decide (v = 1) = false := fun v hv => by
        rcases P.p3 with q | q | q
        · exact absurd q hp
        · rw [hv, q]; decide
        · rw [hv, q]; decide
      exact go_no hR kx km (gx_discP d (by omega) μ x 1 (e _ P.px)) (mr_discP d (by omega) μ x 1 (e _ P.pm))
/-! add answers alike -/
set_option maxRecDepth 8000
theorem cn_and {α : Type} (a b : Bool) (y t : α) : (bif a then (bif b then y else t) else t) = (bif (a && b) then y else t) := by cases a <;> cases b <;> rfl
noncomputable def xdF (μ : zM) (t k i : Nat) : Bool := decide (μ.1 (22 + 8 * t) i = 1) && decide (μ.1 (23 + 8 * t) i = nI k)
theorem first_or (f : Nat → Bool) : ∀ q, (∃ i, i < q ∧ f i = true ∧ ∀ j, j < i → f j = false) ∨ ∀ j, j < q → f j = false
  | 0 => Or.inr (fun j h => absurd h (by omega))
  | q + 1 => by
    rcases first_or f q with ⟨i, h1, h2, h3⟩ | h
    · exact Or.inl ⟨i, by omega, h2, h3⟩
    · cases e : f q with
      | true => exact Or.inl ⟨q, by omega, e, h⟩
      | false => exact Or.inr (fun j hj => by
          by_cases e2 : j = q
          · rw [e2]; exact e
          · exact h j (by omega))
theorem at_yes {μ : zM} {t k q i : Nat} (ht : t < 4) (hk : k < 34) (hq : q ≤ 4) (e4 : μ.1 (19 + 8 * t) 4 = nI q) (hf : decide (fr μ (20 + 8 * t) (nI k) = 0) = false) (hi : i < q) (hfi : xdF μ t k i = true) (hfj : ∀ j, j < i → xdF μ t k j = false) : ∀ d, 3 ≤ d → z_C d mi_X3_addToThree [.ref (19 + 8 * t), .int (nI k)] μ (fun r μ' => r = some (.int (nB true)) ∧ μ' = z_ui (z_ui (z_ui μ (22 + 8 * t) i 2) (20 + 8 * t) k ((μ.1 (20 + 8 * t) k) - 1)) (19 + 8 * t) 5 ((μ.1 (19 + 8 * t) 5) - 1)) := by
  intro d hd
  have z := gc_addToThree d hd μ t ht k hk
  unfold aTm at z
  simp only [cn_and] at z
  have L0 : decide (nI q ≤ (0 : Int32)) = decide (q ≤ 0) := nI_le2 (b := 0) (by omega) (by decide)
  have L1 : decide (nI q ≤ (1 : Int32)) = decide (q ≤ 1) := nI_le2 (b := 1) (by omega) (by decide)
  have L2 : decide (nI q ≤ (2 : Int32)) = decide (q ≤ 2) := nI_le2 (b := 2) (by omega) (by decide)
  have L3 : decide (nI q ≤ (3 : Int32)) = decide (q ≤ 3) := nI_le2 (b := 3) (by omega) (by decide)
  rw [hf, e4, L0, L1, L2, L3] at z
  unfold xdF at hfi hfj
  obtain rfl | rfl | rfl | rfl : i = 0 ∨ i = 1 ∨ i = 2 ∨ i = 3 := by omega
  · rw [decide_eq_false (show ¬ q ≤ 0 by omega), hfi] at z
    simp only [cond_true, cond_false] at z
    exact z
  · rw [decide_eq_false (show ¬ q ≤ 0 by omega), hfj 0 (by omega), decide_eq_false (show ¬ q ≤ 1 by omega), hfi] at z
    simp only [cond_true, cond_false] at z
    exact z
  · rw [decide_eq_false (show ¬ q ≤ 0 by omega), hfj 0 (by omega), decide_eq_false (show ¬ q ≤ 1 by omega), hfj 1 (by omega), decide_eq_false (show ¬ q ≤ 2 by omega), hfi] at z
    simp only [cond_true, cond_false] at z
    exact z
  · rw [decide_eq_false (show ¬ q ≤ 0 by omega), hfj 0 (by omega), decide_eq_false (show ¬ q ≤ 1 by omega), hfj 1 (by omega), decide_eq_false (show ¬ q ≤ 2 by omega), hfj 2 (by omega), decide_eq_false (show ¬ q ≤ 3 by omega), hfi] at z
    simp only [cond_true, cond_false] at z
    exact z
theorem at_none {μ : zM} {t k q : Nat} (ht : t < 4) (hk : k < 34) (hq : q ≤ 4) (e4 : μ.1 (19 + 8 * t) 4 = nI q) (hf : decide (fr μ (20 + 8 * t) (nI k) = 0) = false) (hfj : ∀ j, j < q → xdF μ t k j = false) : ∀ d, 3 ≤ d → z_C d mi_X3_addToThree [.ref (19 + 8 * t), .int (nI k)] μ (fun r μ' => r = some (.int (nB false)) ∧ μ' = μ) := by
  intro d hd
  have z := gc_addToThree d hd μ t ht k hk
  unfold aTm at z
  simp only [cn_and] at z
  have L0 : decide (nI q ≤ (0 : Int32)) = decide (q ≤ 0) := nI_le2 (b := 0) (by omega) (by decide)
  have L1 : decide (nI q ≤ (1 : Int32)) = decide (q ≤ 1) := nI_le2 (b := 1) (by omega) (by decide)
  have L2 : decide (nI q ≤ (2 : Int32)) = decide (q ≤ 2) := nI_le2 (b := 2) (by omega) (by decide)
  have L3 : decide (nI q ≤ (3 : Int32)) = decide (q ≤ 3) := nI_le2 (b := 3) (by omega) (by decide)
  rw [hf, e4, L0, L1, L2, L3] at z
  unfold xdF at hfj
  obtain rfl | rfl | rfl | rfl | rfl : q = 0 ∨ q = 1 ∨ q = 2 ∨ q = 3 ∨ q = 4 := by omega
  · rw [decide_eq_true (show 0 ≤ 0 by omega)] at z
    simp only [cond_true, cond_false] at z
    exact z
  · rw [decide_eq_false (show ¬ 1 ≤ 0 by omega), hfj 0 (by omega), decide_eq_true (show 1 ≤ 1 by omega)] at z
    simp only [cond_true, cond_false] at z
    exact z
  · rw [decide_eq_false (show ¬ 2 ≤ 0 by omega), hfj 0 (by omega), decide_eq_false (show ¬ 2 ≤ 1 by omega), hfj 1 (by omega), decide_eq_true (show 2 ≤ 2 by omega)] at z
    simp only [cond_true, cond_false] at z
    exact z
  · rw [decide_eq_false (show ¬ 3 ≤ 0 by omega), hfj 0 (by omega), decide_eq_false (show ¬ 3 ≤ 1 by omega), hfj 1 (by omega), decide_eq_false (show ¬ 3 ≤ 2 by omega), hfj 2 (by omega), decide_eq_true (show 3 ≤ 3 by omega)] at z
    simp only [cond_true, cond_false] at z
    exact z
  · rw [decide_eq_false (show ¬ 4 ≤ 0 by omega), hfj 0 (by omega), decide_eq_false (show ¬ 4 ≤ 1 by omega), hfj 1 (by omega), decide_eq_false (show ¬ 4 ≤ 2 by omega), hfj 2 (by omega), decide_eq_false (show ¬ 4 ≤ 3 by omega), hfj 3 (by omega)] at z
    simp only [cond_true, cond_false] at z
    exact z
theorem xd_eq {x m : zM} (R : RCl x m) {t k i : Nat} (ht : t < 4) (hi : i < 4) : xdF x t k i = adF m t k i := by
  unfold xdF adF
  rw [R.so t i ht hi, R.lo t i ht hi]
theorem lg_add {d : Nat} (hd : 705 ≤ d) {μ : zM} (h : LGm μ) (x : Int32) : GO d mi_X6_add mi_X7_add [.ref 0, .int x] [.ref 50, .int x] μ := by
  obtain ⟨hJ, hR⟩ := h
  have kx : z_C d mi_X6_add [.ref 0, .int x] μ (fun _ μ' => LJ μ' ∧ EqM μ μ') := lg_k (i := 65) (K := ak_65) rfl (by omega) (by decide +kernel) (by decide +kernel) rfl (by decide +kernel) [.ref 0, .int x] μ hJ ⟨⟨0, by decide, rfl⟩, ⟨_, rfl, bI_top _⟩, trivial⟩
  have km : ∀ μ1, LJ μ1 → z_C d mi_X7_add [.ref 50, .int x] μ1 (fun _ μ' => LJ μ' ∧ EqX μ1 μ') := fun μ1 h1 => lg_g h1 (fc_X7_add d (by omega) μ1 x h1.1)
  have hA := hJ.1.1
  rcases hR.2 with ⟨p1, p2, p3, p4, p5⟩ | ⟨p, t, c, P⟩
  · obtain ⟨t, ht4, ht⟩ := turn_nI hA
    have e1 : xMM μ t = false := by unfold xMM; rw [p1]; rfl
    have e2 : mMM μ t = false := by unfold mMM; rw [p2]; rfl
    exact go_no hR kx km (gx_add d (by omega) μ x (xk_mm ht4 (p5.trans ht) e1)) (mr_add d (by omega) μ x (mk_mm ht4 ht e2))
  · have R := hR.1
    have ht4 := P.t4
    have eq := mm_eq R P
    cases hm : mMM μ t with
    | false => exact go_no hR kx km (gx_add d (by omega) μ x (xk_mm ht4 P.tx (eq.trans hm))) (mr_add d (by omega) μ x (mk_mm ht4 P.tm hm))
    | true =>
      have hx1 := xk_mm ht4 P.tx (eq.trans hm)
      have hm1 := mk_mm ht4 P.tm hm
      by_cases hv : vp_in x 34
      · obtain ⟨k, hk, rfl⟩ := vp_in_of hv (by decide)
        have hp0 : ¬ μ.1 50 44 = 0 := by rw [P.pm]; rcases P.p3 with q | q | q <;> (rw [q]; decide)
        have G := hJ.1.2.2 hp0
        obtain ⟨w, aw, q, sL, lL, H⟩ := hf_of R P hA G ht4
        have hwk := H.1.1 k hk
        have fx : fr μ (20 + 8 * t) (nI k) = nI (w k) := by rw [fr_yes hk, R.hd t k ht4 hk]; exact hwk.1
        have hp1 : p = 1 := by
          have z := hm
          unfold mMM at z
          have z := (z_and z).1
          have z := of_decide_eq_true z
          rw [P.pm] at z
          rcases P.p3 with q | q | q
          · exact q
          · rw [q] at z; exact absurd z (by decide)
          · rw [q] at z; exact absurd z (by decide)
        subst hp1
        have hq4 := H.1.2.2.1
        have z0 : decide (nI (w k) = 0) = decide (w k = 0) := nI_dec (a := w k) (b := 0) (by have := hwk.2; omega) (by decide)
        rcases first_or (adF μ t k) q with ⟨i, hi, hfi, hfj⟩ | hfj
        · have mm : ∀ μ1, EqM μ μ1 → z_C d mi_X7_add [.ref 50, .int (nI k)] μ1 (fun r μ' => ((true && !decide (μ1.1 60 (34 * t + k) = 0)) = true ∧ r = some (.int 1) ∧ μ' = adM (z_ui μ1 50 0 0) t k i) ∨ ((true && !decide (μ1.1 60 (34 * t + k) = 0)) = false ∧ r = some (.int 0) ∧ μ' = z_ui μ1 50 0 0)) := fun μ1 qM => by
            have E : ∀ r k', gMc r k' → μ1.1 r k' = μ.1 r k' := fun r k' g => (qM r k' g).1
            have aE : ∀ j, adF μ1 t k j = adF μ t k j := fun j => by unfold adF; rw [E 62 _ (Or.inl ⟨by decide, by decide⟩), E 63 _ (Or.inl ⟨by decide, by decide⟩)]
            exact gm_addF d (by omega) μ1 t ht4 ((E 50 45 (Or.inr ⟨rfl, by decide, by decide⟩)).trans P.tm) k q i hk hq4 ((E 64 t (Or.inl ⟨by decide, by decide⟩)).trans H.1.2.1) true (mk_mm ht4 ((E 50 45 (Or.inr ⟨rfl, by decide, by decide⟩)).trans P.tm) ((mMM_e qM).trans hm)) hi ((aE i).trans hfi) (fun j hj => (aE j).trans (hfj j hj))
          by_cases hw0 : w k = 0
          · have fz : decide (nI (w k) = 0) = true := z0.trans (decide_eq_true hw0)
            refine go_no hR kx km (gx_addF d (by omega) μ (nI k) t ht4 P.tx hx1 (fun d hd => z_C_mono (gx_atZ d hd μ t ht4 (nI k) (by rw [fx]; exact fz)) (fun r m z => ⟨z.2, z.1⟩))) (z_C_mono (mm μ (eqM_rf _)) (fun r μ' z => ?_))
            rcases z with ⟨z1, -, -⟩ | ⟨-, z2, z3⟩
            · rw [hwk.1, fz] at z1; cases z1
            · exact ⟨z2, z3⟩
          · have fz : decide (nI (w k) = 0) = false := z0.trans (decide_eq_false hw0)
            have cc := gc_add d (by omega) μ t ht4 P.tx k hk true hx1 true _ (at_yes ht4 hk hq4 H.2.2.2.1 (by rw [fx]; exact fz) hi ((xd_eq R ht4 (by omega)).trans hfi) (fun j hj => (xd_eq R ht4 (by omega)).trans (hfj j hj)))
            simp only [cond_true, cond_false] at cc
            refine go_yes (X := adX μ t k i) (y := 1) kx km (z_C_mono cc (fun r μ' z => ⟨z.1, by rw [z.2]; exact eqX_rf _⟩)) (fun μ1 h1 qM => z_C_mono (mm μ1 qM) (fun r μ' z => ?_))
            have eM : EqM μ (z_ui μ1 50 0 0) := eqM_tr qM (t0_EqM μ1 0)
            rcases z with ⟨-, z2, z3⟩ | ⟨z1, -, -⟩
            · refine ⟨z2, ?_⟩
              rw [z3]
              have R' := R.cg (eqX_rf _) eM
              have P' := P.cg (eqX_rf _) eM
              obtain ⟨f1, f2⟩ := z_and hfi
              refine ⟨rc_added R' ht4 hk hq4 hi ((eM 64 t (Or.inl ⟨by decide, by decide⟩)).1.trans H.1.2.1) ((eM 62 _ (Or.inl ⟨by decide, by decide⟩)).1.trans (of_decide_eq_true f1)) ((eM 63 _ (Or.inl ⟨by decide, by decide⟩)).1.trans (of_decide_eq_true f2)) (fun j hj => by rw [(eM 64 j (Or.inl ⟨by decide, by decide⟩)).1]; exact m4_of hA j hj), Or.inr ⟨3, t, k, rp_added P' hk (by omega) ?_ (all_ne H hk (by omega))⟩⟩
              rw [(eM 50 56 (Or.inr ⟨rfl, by decide, by decide⟩)).1]
              by_cases e : μ.1 50 56 = 0
              · exact e
              · exfalso
                have y := P.us e t ht4
                rw [H.1.2.1] at y
                have := (nI_eq (a := q) (b := 0) (by omega) (by decide)).mp y
                omega
            · exfalso
              rw [(qM 60 _ (Or.inl ⟨by decide, by decide⟩)).1, hwk.1, fz] at z1
              cases z1
        · have m2 := gm_addN d (by omega) μ t ht4 P.tm k q hk hq4 H.1.2.1 true hm1 hfj
          by_cases hw0 : w k = 0
          · have fz : decide (nI (w k) = 0) = true := z0.trans (decide_eq_true hw0)
            exact go_no hR kx km (gx_addF d (by omega) μ (nI k) t ht4 P.tx hx1 (fun d hd => z_C_mono (gx_atZ d hd μ t ht4 (nI k) (by rw [fx]; exact fz)) (fun r m z => ⟨z.2, z.1⟩))) m2
          · have fz : decide (nI (w k) = 0) = false := z0.trans (decide_eq_false hw0)
            exact go_no hR kx km (gx_addF d (by omega) μ (nI k) t ht4 P.tx hx1 (fun d hd => z_C_mono (at_none ht4 hk hq4 H.2.2.2.1 (by rw [fx]; exact fz) (fun j hj => (xd_eq R ht4 (by omega)).trans (hfj j hj)) d hd) (fun r m z => ⟨z.2, z.1⟩))) m2
      · exact go_no hR kx km (gx_addF d (by omega) μ x t ht4 P.tx hx1 (fun d hd => z_C_mono (gx_atZ d hd μ t ht4 x (by rw [fr_no hv]; decide)) (fun r m z => ⟨z.2, z.1⟩))) (mr_addK d (by omega) μ x hm1 (isK_no hv))
/-! nine answers alike -/
set_option maxRecDepth 8000
noncomputable def bcF (x : Int64) : Int32 := (((((((((x - (((x.toUInt64 >>> ((1 : Int32).toInt64.toUInt64 &&& Int64.toUInt64 63)).toInt64) &&& 6148914691236517205)) &&& 3689348814741910323) + ((((x - (((x.toUInt64 >>> ((1 : Int32).toInt64.toUInt64 &&& Int64.toUInt64 63)).toInt64) &&& 6148914691236517205)).toUInt64 >>> ((2 : Int32).toInt64.toUInt64 &&& Int64.toUInt64 63)).toInt64) &&& 3689348814741910323)) + (((((x - (((x.toUInt64 >>> ((1 : Int32).toInt64.toUInt64 &&& Int64.toUInt64 63)).toInt64) &&& 6148914691236517205)) &&& 3689348814741910323) + ((((x - (((x.toUInt64 >>> ((1 : Int32).toInt64.toUInt64 &&& Int64.toUInt64 63)).toInt64) &&& 6148914691236517205)).toUInt64 >>> ((2 : Int32).toInt64.toUInt64 &&& Int64.toUInt64 63)).toInt64) &&& 3689348814741910323)).toUInt64 >>> ((4 : Int32).toInt64.toUInt64 &&& Int64.toUInt64 63)).toInt64)) &&& 1085102592571150095) + (((((((x - (((x.toUInt64 >>> ((1 : Int32).toInt64.toUInt64 &&& Int64.toUInt64 63)).toInt64) &&& 6148914691236517205)) &&& 3689348814741910323) + ((((x - (((x.toUInt64 >>> ((1 : Int32).toInt64.toUInt64 &&& Int64.toUInt64 63)).toInt64) &&& 6148914691236517205)).toUInt64 >>> ((2 : Int32).toInt64.toUInt64 &&& Int64.toUInt64 63)).toInt64) &&& 3689348814741910323)) + (((((x - (((x.toUInt64 >>> ((1 : Int32).toInt64.toUInt64 &&& Int64.toUInt64 63)).toInt64) &&& 6148914691236517205)) &&& 3689348814741910323) + ((((x - (((x.toUInt64 >>> ((1 : Int32).toInt64.toUInt64 &&& Int64.toUInt64 63)).toInt64) &&& 6148914691236517205)).toUInt64 >>> ((2 : Int32).toInt64.toUInt64 &&& Int64.toUInt64 63)).toInt64) &&& 3689348814741910323)).toUInt64 >>> ((4 : Int32).toInt64.toUInt64 &&& Int64.toUInt64 63)).toInt64)) &&& 1085102592571150095).toUInt64 >>> ((8 : Int32).toInt64.toUInt64 &&& Int64.toUInt64 63)).toInt64)) + ((((((((x - (((x.toUInt64 >>> ((1 : Int32).toInt64.toUInt64 &&& Int64.toUInt64 63)).toInt64) &&& 6148914691236517205)) &&& 3689348814741910323) + ((((x - (((x.toUInt64 >>> ((1 : Int32).toInt64.toUInt64 &&& Int64.toUInt64 63)).toInt64) &&& 6148914691236517205)).toUInt64 >>> ((2 : Int32).toInt64.toUInt64 &&& Int64.toUInt64 63)).toInt64) &&& 3689348814741910323)) + (((((x - (((x.toUInt64 >>> ((1 : Int32).toInt64.toUInt64 &&& Int64.toUInt64 63)).toInt64) &&& 6148914691236517205)) &&& 3689348814741910323) + ((((x - (((x.toUInt64 >>> ((1 : Int32).toInt64.toUInt64 &&& Int64.toUInt64 63)).toInt64) &&& 6148914691236517205)).toUInt64 >>> ((2 : Int32).toInt64.toUInt64 &&& Int64.toUInt64 63)).toInt64) &&& 3689348814741910323)).toUInt64 >>> ((4 : Int32).toInt64.toUInt64 &&& Int64.toUInt64 63)).toInt64)) &&& 1085102592571150095) + (((((((x - (((x.toUInt64 >>> ((1 : Int32).toInt64.toUInt64 &&& Int64.toUInt64 63)).toInt64) &&& 6148914691236517205)) &&& 3689348814741910323) + ((((x - (((x.toUInt64 >>> ((1 : Int32).toInt64.toUInt64 &&& Int64.toUInt64 63)).toInt64) &&& 6148914691236517205)).toUInt64 >>> ((2 : Int32).toInt64.toUInt64 &&& Int64.toUInt64 63)).toInt64) &&& 3689348814741910323)) + (((((x - (((x.toUInt64 >>> ((1 : Int32).toInt64.toUInt64 &&& Int64.toUInt64 63)).toInt64) &&& 6148914691236517205)) &&& 3689348814741910323) + ((((x - (((x.toUInt64 >>> ((1 : Int32).toInt64.toUInt64 &&& Int64.toUInt64 63)).toInt64) &&& 6148914691236517205)).toUInt64 >>> ((2 : Int32).toInt64.toUInt64 &&& Int64.toUInt64 63)).toInt64) &&& 3689348814741910323)).toUInt64 >>> ((4 : Int32).toInt64.toUInt64 &&& Int64.toUInt64 63)).toInt64)) &&& 1085102592571150095).toUInt64 >>> ((8 : Int32).toInt64.toUInt64 &&& Int64.toUInt64 63)).toInt64)).toUInt64 >>> ((16 : Int32).toInt64.toUInt64 &&& Int64.toUInt64 63)).toInt64)) + (((((((((x - (((x.toUInt64 >>> ((1 : Int32).toInt64.toUInt64 &&& Int64.toUInt64 63)).toInt64) &&& 6148914691236517205)) &&& 3689348814741910323) + ((((x - (((x.toUInt64 >>> ((1 : Int32).toInt64.toUInt64 &&& Int64.toUInt64 63)).toInt64) &&& 6148914691236517205)).toUInt64 >>> ((2 : Int32).toInt64.toUInt64 &&& Int64.toUInt64 63)).toInt64) &&& 3689348814741910323)) + (((((x - (((x.toUInt64 >>> ((1 : Int32).toInt64.toUInt64 &&& Int64.toUInt64 63)).toInt64) &&& 6148914691236517205)) &&& 3689348814741910323) + ((((x - (((x.toUInt64 >>> ((1 : Int32).toInt64.toUInt64 &&& Int64.toUInt64 63)).toInt64) &&& 6148914691236517205)).toUInt64 >>> ((2 : Int32).toInt64.toUInt64 &&& Int64.toUInt64 63)).toInt64) &&& 3689348814741910323)).toUInt64 >>> ((4 : Int32).toInt64.toUInt64 &&& Int64.toUInt64 63)).toInt64)) &&& 1085102592571150095) + (((((((x - (((x.toUInt64 >>> ((1 : Int32).toInt64.toUInt64 &&& Int64.toUInt64 63)).toInt64) &&& 6148914691236517205)) &&& 3689348814741910323) + ((((x - (((x.toUInt64 >>> ((1 : Int32).toInt64.toUInt64 &&& Int64.toUInt64 63)).toInt64) &&& 6148914691236517205)).toUInt64 >>> ((2 : Int32).toInt64.toUInt64 &&& Int64.toUInt64 63)).toInt64) &&& 3689348814741910323)) + (((((x - (((x.toUInt64 >>> ((1 : Int32).toInt64.toUInt64 &&& Int64.toUInt64 63)).toInt64) &&& 6148914691236517205)) &&& 3689348814741910323) + ((((x - (((x.toUInt64 >>> ((1 : Int32).toInt64.toUInt64 &&& Int64.toUInt64 63)).toInt64) &&& 6148914691236517205)).toUInt64 >>> ((2 : Int32).toInt64.toUInt64 &&& Int64.toUInt64 63)).toInt64) &&& 3689348814741910323)).toUInt64 >>> ((4 : Int32).toInt64.toUInt64 &&& Int64.toUInt64 63)).toInt64)) &&& 1085102592571150095).toUInt64 >>> ((8 : Int32).toInt64.toUInt64 &&& Int64.toUInt64 63)).toInt64)) + ((((((((x - (((x.toUInt64 >>> ((1 : Int32).toInt64.toUInt64 &&& Int64.toUInt64 63)).toInt64) &&& 6148914691236517205)) &&& 3689348814741910323) + ((((x - (((x.toUInt64 >>> ((1 : Int32).toInt64.toUInt64 &&& Int64.toUInt64 63)).toInt64) &&& 6148914691236517205)).toUInt64 >>> ((2 : Int32).toInt64.toUInt64 &&& Int64.toUInt64 63)).toInt64) &&& 3689348814741910323)) + (((((x - (((x.toUInt64 >>> ((1 : Int32).toInt64.toUInt64 &&& Int64.toUInt64 63)).toInt64) &&& 6148914691236517205)) &&& 3689348814741910323) + ((((x - (((x.toUInt64 >>> ((1 : Int32).toInt64.toUInt64 &&& Int64.toUInt64 63)).toInt64) &&& 6148914691236517205)).toUInt64 >>> ((2 : Int32).toInt64.toUInt64 &&& Int64.toUInt64 63)).toInt64) &&& 3689348814741910323)).toUInt64 >>> ((4 : Int32).toInt64.toUInt64 &&& Int64.toUInt64 63)).toInt64)) &&& 1085102592571150095) + (((((((x - (((x.toUInt64 >>> ((1 : Int32).toInt64.toUInt64 &&& Int64.toUInt64 63)).toInt64) &&& 6148914691236517205)) &&& 3689348814741910323) + ((((x - (((x.toUInt64 >>> ((1 : Int32).toInt64.toUInt64 &&& Int64.toUInt64 63)).toInt64) &&& 6148914691236517205)).toUInt64 >>> ((2 : Int32).toInt64.toUInt64 &&& Int64.toUInt64 63)).toInt64) &&& 3689348814741910323)) + (((((x - (((x.toUInt64 >>> ((1 : Int32).toInt64.toUInt64 &&& Int64.toUInt64 63)).toInt64) &&& 6148914691236517205)) &&& 3689348814741910323) + ((((x - (((x.toUInt64 >>> ((1 : Int32).toInt64.toUInt64 &&& Int64.toUInt64 63)).toInt64) &&& 6148914691236517205)).toUInt64 >>> ((2 : Int32).toInt64.toUInt64 &&& Int64.toUInt64 63)).toInt64) &&& 3689348814741910323)).toUInt64 >>> ((4 : Int32).toInt64.toUInt64 &&& Int64.toUInt64 63)).toInt64)) &&& 1085102592571150095).toUInt64 >>> ((8 : Int32).toInt64.toUInt64 &&& Int64.toUInt64 63)).toInt64)).toUInt64 >>> ((16 : Int32).toInt64.toUInt64 &&& Int64.toUInt64 63)).toInt64)).toUInt64 >>> ((32 : Int32).toInt64.toUInt64 &&& Int64.toUInt64 63)).toInt64)).toInt32) &&& 127
theorem bc_x9 (d : Nat) (hd : 1 ≤ d) (μ : zM) (x : Int64) : z_C d mi_J13_bitCount_95d88 [.long x] μ (zR μ (.int (bcF x))) := fb_bitCount d hd μ x
noncomputable def b1L (k : Nat) : Int64 := (1 : Int64) <<< ((nI k).toInt64 &&& 63)
noncomputable def kbl (f : Nat → Bool) : List Nat → Int64 → Int64
  | [], x => x
  | k :: ks, x => kbl f ks (if f k = true then x ||| b1L k else x)
noncomputable def cnl (f : Nat → Bool) : List Nat → Nat → Nat
  | [], n => n
  | k :: ks, n => cnl f ks (n + (if f k = true then 1 else 0))
noncomputable def bcG : List Nat → Int64 → Nat → Bool
  | [], x, n => decide (bcF x = nI n)
  | k :: ks, x, n => bcG ks x n && bcG ks (x ||| b1L k) (n + 1)
theorem bcG_ok (f : Nat → Bool) : ∀ ks x n, bcG ks x n = true → bcF (kbl f ks x) = nI (cnl f ks n)
  | [], x, n, h => of_decide_eq_true h
  | k :: ks, x, n, h => by
    obtain ⟨h1, h2⟩ := z_and h
    show bcF (kbl f ks (if f k = true then x ||| b1L k else x)) = nI (cnl f ks (n + (if f k = true then 1 else 0)))
    by_cases e : f k = true
    · rw [if_pos e, if_pos e]; exact bcG_ok f ks _ _ h2
    · rw [if_neg e, if_neg e]; exact bcG_ok f ks _ _ h1
theorem kbl_app (f : Nat → Bool) (k : Nat) : ∀ xs x, kbl f (xs ++ [k]) x = if f k = true then kbl f xs x ||| b1L k else kbl f xs x
  | [], x => rfl
  | j :: xs, x => kbl_app f k xs _
theorem cnl_app (f : Nat → Bool) (k : Nat) : ∀ xs n, cnl f (xs ++ [k]) n = cnl f xs n + (if f k = true then 1 else 0)
  | [], n => rfl
  | j :: xs, n => cnl_app f k xs _
theorem kb_l (f : Nat → Bool) : ∀ n, kb (fun k => eN k && f k) n = kbl f ((List.range n).filter eN) 0
  | 0 => rfl
  | n + 1 => by
    rw [List.range_succ, List.filter_append]
    show (if (eN n && f n) = true then kb (fun k => eN k && f k) n ||| b1L n else kb (fun k => eN k && f k) n) = _
    cases e : eN n with
    | true => rw [show List.filter eN [n] = [n] from by rw [List.filter_cons_of_pos e]; rfl, kbl_app, ← kb_l f n, Bool.true_and]
    | false => rw [show List.filter eN [n] = [] from by rw [List.filter_cons_of_neg (by rw [e]; decide)]; rfl, List.append_nil, ← kb_l f n, Bool.false_and, if_neg (by decide)]
theorem cn_l (f : Nat → Bool) : ∀ n, cn (fun k => eN k && f k) n = cnl f ((List.range n).filter eN) 0
  | 0 => rfl
  | n + 1 => by
    rw [List.range_succ, List.filter_append]
    show cn (fun k => eN k && f k) n + (if (eN n && f n) = true then 1 else 0) = _
    cases e : eN n with
    | true => rw [show List.filter eN [n] = [n] from by rw [List.filter_cons_of_pos e]; rfl, cnl_app, ← cn_l f n, Bool.true_and]
    | false => rw [show List.filter eN [n] = [] from by rw [List.filter_cons_of_neg (by rw [e]; decide)]; rfl, List.append_nil, ← cn_l f n, Bool.false_and, if_neg (by decide), Nat.add_zero]
theorem bcG_34 : bcG ((List.range 34).filter eN) 0 0 = true := by decide +kernel
theorem kb_and9 (f g : Nat → Bool) : kb f 34 &&& kb g 34 = kb (fun k => g k && f k) 34 := by
  apply Int64.toBitVec_inj.mp
  rw [Int64.toBitVec_and]
  apply BitVec.eq_of_getLsbD_eq
  intro i hi
  rw [BitVec.getLsbD_and]
  by_cases h : i < 34
  · rw [kb_bit f 34 (by omega) i h, kb_bit g 34 (by omega) i h, kb_bit _ 34 (by omega) i h, decide_eq_true h, Bool.true_and, Bool.true_and, Bool.true_and, Bool.and_comm]
  · rw [kb_hi f i (by omega) 34 (by omega), kb_hi (fun k => g k && f k) i (by omega) 34 (by omega), Bool.false_and]
theorem bcE9 (f : Nat → Bool) : bcF (kb f 34 &&& 17113154305) = nI (cn (fun k => eN k && f k) 34) := by
  rw [kb_ends, kb_and9, kb_l, cn_l]
  exact bcG_ok f _ _ _ bcG_34
theorem cn_ub9 (b : Nat → Bool) : ∀ n, cn b n ≤ n
  | 0 => Nat.le_refl _
  | n + 1 => by
    show cn b n + (if b n = true then 1 else 0) ≤ n + 1
    have := cn_ub9 b n
    split <;> omega
theorem md_E_m : md_m md_E = true := by decide +kernel
theorem lg_e {d j : Nat} {As : List Value} {μ : zM} (h : LJ μ) (hc : z_C d j As μ (zPE μ)) : z_C d j As μ (fun _ μ' => LJ μ' ∧ EqX μ μ') := z_C_mono (zC_and d (lj_e h hc) hc) (fun _ μ' q => ⟨q.1.1, fz_EqX q.2.2.1.2.2 md_E_m⟩)
theorem ni_eq {μ : zM} {t c : Nat} {w aw : Nat → Nat} {q : Nat} {sL lL : Nat → Nat} (R : RCl μ μ) (P : RPh μ μ 1 t c) (H : HF μ μ t w aw q sL lL) : (bif decide ((μ.1 0 17) = 0) then (bif decide ((μ.1 (18 + 8 * t) 2) ≤ 0) then decide (9 ≤ bcF (kb (fun k => decide (0 < aw k)) 34 &&& 17113154305)) else false) else false) = niC μ t := by
  have hp : decide (μ.1 50 44 = 1) = true := by rw [P.pm]; decide
  unfold niC
  rw [hp, cond_true, P.br]
  by_cases e : μ.1 50 56 = 0
  · rw [decide_eq_true e, show decide (nB true = 0) = false from by decide, cond_false, cond_true]
    cases decide (μ.1 50 57 = 0) <;> rfl
  · have hc : c < 34 := by
      rcases P.c3 with y | ⟨y, _⟩
      · exact y
      · exact absurd (P.bn rfl y).2 e
    have h57 : decide (μ.1 50 57 = 0) = true := decide_eq_true (by rw [P.jc rfl, if_neg (by omega)])
    have hq : q = 0 := by
      have y := P.us e t P.t4
      rw [H.1.2.1] at y
      exact (nI_eq (a := q) (b := 0) (by have := H.1.2.2.1; omega) (by decide)).mp y
    have hcn : cn (fun k => eN k && decide (0 < aw k)) 34 = cn (niF μ t) 34 := cn_congr (fun k hk => by
      unfold niF
      rw [H.2.2.2.2.1 hq k hk, (H.1.1 k hk).1]
      have y : decide (nI (w k) ≤ 0) = decide (w k ≤ 0) := nI_le2 (b := 0) (by have := (H.1.1 k hk).2; omega) (by decide)
      rw [y]
      by_cases z : w k ≤ 0
      · rw [decide_eq_true z, decide_eq_false (by omega)]; rfl
      · rw [decide_eq_false z, decide_eq_true (by omega)]; rfl)
    have h9 : decide (9 ≤ nI (cn (niF μ t) 34)) = decide (9 ≤ cn (niF μ t) 34) := nI_le2 (a := 9) (by decide) (by have := cn_ub9 (niF μ t) 34; omega)
    rw [decide_eq_false e, show decide (nB false = 0) = true from by decide, cond_true, cond_false, h57, cond_true, R.ds t P.t4, bcE9, hcn, h9]
theorem lg_nine {d : Nat} (hd : 705 ≤ d) {μ : zM} (h : LGm μ) : GO d mi_X6_nine mi_X7_nine [.ref 0] [.ref 50] μ := by
  obtain ⟨hJ, hR⟩ := h
  have kx : z_C d mi_X6_nine [.ref 0] μ (fun _ μ' => LJ μ' ∧ EqM μ μ') := lg_k (i := 68) (K := ak_68) rfl (by omega) (by decide +kernel) (by decide +kernel) rfl (by decide +kernel) [.ref 0] μ hJ ⟨⟨0, by decide, rfl⟩, trivial⟩
  have km : ∀ μ1, LJ μ1 → z_C d mi_X7_nine [.ref 50] μ1 (fun _ μ' => LJ μ' ∧ EqX μ1 μ') := fun μ1 h1 => lg_e h1 (fc_X7_nine d (by omega) μ1 h1.1.1 h1.1.2.1)
  have hA := hJ.1.1
  obtain ⟨dl, hdl4, hdl⟩ := dealer_nI hA
  obtain ⟨e, he⟩ : ∃ e, (dl + 1) % 4 = e := ⟨_, rfl⟩
  have mn : ∀ μ1, EqM μ μ1 → ∀ t, t < 4 → μ.1 50 45 = nI t → z_C d mi_X7_nine [.ref 50] μ1 (fun r μ' => (niC μ1 t = true ∧ r = some (.int 1) ∧ μ' = eMB (z_ui μ1 50 0 0) true true dl e) ∨ (niC μ1 t = false ∧ r = some (.int 0) ∧ μ' = z_ui μ1 50 0 0)) := fun μ1 qM t ht4 ht => gm_nine d (by omega) μ1 t ht4 ((qM 50 45 (Or.inr ⟨rfl, by decide, by decide⟩)).1.trans ht) dl e ((qM 50 40 (Or.inr ⟨rfl, by decide, by decide⟩)).1.trans hdl) hdl4 he
  have no : decide (μ.1 0 7 = 1) = false → GO d mi_X6_nine mi_X7_nine [.ref 0] [.ref 50] μ := fun hp => by
    obtain ⟨t, ht4, ht⟩ := turn_nI hA
    have hp2 : decide (μ.1 50 44 = 1) = false := by rw [← (rg_ph hR).1]; exact hp
    refine go_no hR kx km (gx_nineP d (by omega) μ hp) (z_C_mono (mn μ (eqM_rf _) t ht4 ht) (fun r μ' z => ?_))
    rcases z with ⟨z1, -, -⟩ | ⟨-, z2, z3⟩
    · unfold niC at z1; rw [hp2] at z1; cases z1
    · exact ⟨z2, z3⟩
  rcases hR.2 with ⟨p1, p2, -, -, -⟩ | ⟨p, t, c, P⟩
  · exact no (by rw [p1]; decide)
  · by_cases hp : p = 1
    · subst hp
      have R := hR.1
      have ht4 := P.t4
      have hp1 : μ.1 50 44 = 1 := P.pm
      have G := hJ.1.2.2 (by rw [hp1]; decide)
      obtain ⟨w, aw, q, sL, lL, H⟩ := hf_of R P hA G ht4
      have cc := gc_nine d (by omega) μ t ht4 P.tx dl e (R.dl.trans hdl) hdl4 he _ (fun d hd => gc_kinds d hd μ t ht4 aw H.2.2.1) _ (fun d hd => bc_x9 d hd μ _)
      have eq := ni_eq R P H
      rw [P.px, show decide (nI 1 = 1) = true from by decide] at cc
      simp only [cond_true] at cc
      have eN : ∀ μ1, EqM μ μ1 → niC μ1 t = niC μ t := fun μ1 qM => by
        unfold niC
        rw [(qM 50 44 (Or.inr ⟨rfl, by decide, by decide⟩)).1, (qM 50 57 (Or.inr ⟨rfl, by decide, by decide⟩)).1, (qM 50 56 (Or.inr ⟨rfl, by decide, by decide⟩)).1, (qM 66 t (Or.inl ⟨by decide, by decide⟩)).1, show niF μ1 t = niF μ t from funext fun k => by unfold niF; rw [(qM 60 _ (Or.inl ⟨by decide, by decide⟩)).1]]
      have tr : ∀ {α : Type} (a b c : Bool) (y n : α), (bif a then (bif b then (bif c then y else n) else n) else n) = (bif (bif a then (bif b then c else false) else false) then y else n) := fun a b c y n => by cases a <;> cases b <;> cases c <;> rfl
      rw [tr, tr, eq] at cc
      cases hN : niC μ t with
      | true =>
        rw [hN] at cc
        simp only [cond_true, cond_false] at cc
        refine go_yes (X := eHB μ true false (xBk μ) dl e (rcM μ)) (y := 1) kx km (z_C_mono cc (fun r μ' z => ⟨z.1, by rw [z.2]; exact eqX_rf _⟩)) (fun μ1 h1 qM => z_C_mono (mn μ1 qM t ht4 P.tm) (fun r μ' z => ?_))
        rcases z with ⟨-, z2, z3⟩ | ⟨z1, -, -⟩
        · refine ⟨z2, ?_⟩
          rw [z3]
          have eM : EqM μ (z_ui μ1 50 0 0) := eqM_tr qM (t0_EqM μ1 0)
          exact rg_ends (R.cg (eqX_rf _) eM) (P.cg (eqX_rf _) eM).fo ((P.cg (eqX_rf _) eM).tx.trans (P.cg (eqX_rf _) eM).tm.symm) ((eM 50 40 (Or.inr ⟨rfl, by decide, by decide⟩)).1.trans hdl) hdl4 he true false
        · exfalso; rw [eN μ1 qM, hN] at z1; cases z1
      | false =>
        rw [hN] at cc
        simp only [cond_true, cond_false] at cc
        refine go_no hR kx km cc (z_C_mono (mn μ (eqM_rf _) t ht4 P.tm) (fun r μ' z => ?_))
        rcases z with ⟨z1, -, -⟩ | ⟨-, z2, z3⟩
        · rw [hN] at z1; cases z1
        · exact ⟨z2, z3⟩
    · exact no (by
        rw [P.px]
        rcases P.p3 with q | q | q
        · exact absurd q hp
        · rw [q]; decide
        · rw [q]; decide)
/-! what a hand is worth: both sides -/
set_option maxRecDepth 8000
/-- the class's told FORMS -/
noncomputable def tX (dr : Bool) (bt ao lf bf ph : Int32) : Int64 := bif decide (lf = 0) then bif dr then (bif decide (lf = 0) then ((bif dr then (((0 ||| (bif decide (bt = 1) then (1 : Int64) else 0)) ||| (bif decide (bt = 2) then (2 : Int64) else 0)) ||| (bif decide (ao = 0) then (0 : Int64) else 4)) ||| (bif decide (bf = 0) then (0 : Int64) else 64) else ((0 ||| (bif decide (bt = 1) then (1 : Int64) else 0)) ||| (bif decide (bt = 2) then (2 : Int64) else 0)) ||| (bif decide (ao = 0) then (0 : Int64) else 4)) ||| (bif decide (ph = 3) then (128 : Int64) else 0)) ||| (bif decide (ph = 2) then (32 : Int64) else 0) else (bif dr then (((0 ||| (bif decide (bt = 1) then (1 : Int64) else 0)) ||| (bif decide (bt = 2) then (2 : Int64) else 0)) ||| (bif decide (ao = 0) then (0 : Int64) else 4)) ||| (bif decide (bf = 0) then (0 : Int64) else 64) else ((0 ||| (bif decide (bt = 1) then (1 : Int64) else 0)) ||| (bif decide (bt = 2) then (2 : Int64) else 0)) ||| (bif decide (ao = 0) then (0 : Int64) else 4)) ||| (bif decide (ph = 3) then (128 : Int64) else 0)) ||| (bif decide (bf = 0) then (16 : Int64) else 0) else bif decide (lf = 0) then ((bif dr then (((0 ||| (bif decide (bt = 1) then (1 : Int64) else 0)) ||| (bif decide (bt = 2) then (2 : Int64) else 0)) ||| (bif decide (ao = 0) then (0 : Int64) else 4)) ||| (bif decide (bf = 0) then (0 : Int64) else 64) else ((0 ||| (bif decide (bt = 1) then (1 : Int64) else 0)) ||| (bif decide (bt = 2) then (2 : Int64) else 0)) ||| (bif decide (ao = 0) then (0 : Int64) else 4)) ||| (bif decide (ph = 3) then (128 : Int64) else 0)) ||| (bif decide (ph = 2) then (32 : Int64) else 0) else (bif dr then (((0 ||| (bif decide (bt = 1) then (1 : Int64) else 0)) ||| (bif decide (bt = 2) then (2 : Int64) else 0)) ||| (bif decide (ao = 0) then (0 : Int64) else 4)) ||| (bif decide (bf = 0) then (0 : Int64) else 64) else ((0 ||| (bif decide (bt = 1) then (1 : Int64) else 0)) ||| (bif decide (bt = 2) then (2 : Int64) else 0)) ||| (bif decide (ao = 0) then (0 : Int64) else 4)) ||| (bif decide (ph = 3) then (128 : Int64) else 0) else bif decide (lf = 0) then ((bif dr then (((0 ||| (bif decide (bt = 1) then (1 : Int64) else 0)) ||| (bif decide (bt = 2) then (2 : Int64) else 0)) ||| (bif decide (ao = 0) then (0 : Int64) else 4)) ||| (bif decide (bf = 0) then (0 : Int64) else 64) else ((0 ||| (bif decide (bt = 1) then (1 : Int64) else 0)) ||| (bif decide (bt = 2) then (2 : Int64) else 0)) ||| (bif decide (ao = 0) then (0 : Int64) else 4)) ||| (bif decide (ph = 3) then (128 : Int64) else 0)) ||| (bif decide (ph = 2) then (32 : Int64) else 0) else (bif dr then (((0 ||| (bif decide (bt = 1) then (1 : Int64) else 0)) ||| (bif decide (bt = 2) then (2 : Int64) else 0)) ||| (bif decide (ao = 0) then (0 : Int64) else 4)) ||| (bif decide (bf = 0) then (0 : Int64) else 64) else ((0 ||| (bif decide (bt = 1) then (1 : Int64) else 0)) ||| (bif decide (bt = 2) then (2 : Int64) else 0)) ||| (bif decide (ao = 0) then (0 : Int64) else 4)) ||| (bif decide (ph = 3) then (128 : Int64) else 0)
theorem tX_c (d : Nat) (hd : 3 ≤ d) (μ : zM) (s : Nat) (hs4 : s < 4) (dr : Bool) : z_C d mi_X6_toldForms [.ref 0, .ref (18 + 8 * s), .int (nB dr)] μ (zR μ (.long (tX dr (μ.1 (18 + 8 * s) 5) (μ.1 (18 + 8 * s) 7) (xLf μ) (μ.1 0 16) (μ.1 0 7)))) := gc_toldForms d hd μ s hs4 dr
noncomputable def tM0 (bt ao lf ph : Int32) : Int64 := (((((0 ||| (lb (decide (bt = 1)) 0)) ||| (lb (decide (bt = 2)) 1)) ||| (lb (!(decide (ao = 0))) 2)) ||| (lb ((decide (ph = 2)) && (decide (lf = 0))) 5)) ||| (lb (decide (ph = 3)) 7))
noncomputable def tM1 (bt ao lf bf : Int32) (n1 dd un : Bool) : Int64 := (((((((0 ||| (lb (decide (bt = 1)) 0)) ||| (lb (decide (bt = 2)) 1)) ||| (lb (!(decide (ao = 0))) 2)) ||| (lb ((decide (lf = 0)) && (decide (bf = 0))) 4)) ||| (lb (!(decide (bf = 0))) 6)) ||| (lb (n1 && dd) 42)) ||| (lb (n1 && (!dd && un)) 43))
theorem tX_0 (bt ao lf bf ph : Int32) : (tX false bt ao lf bf ph ||| 0) &&& tlm = tM0 bt ao lf ph := by
  unfold tX tM0
  generalize decide (bt = 1) = b1
  generalize decide (bt = 2) = b2
  generalize decide (ao = 0) = b3
  generalize decide (lf = 0) = b4
  generalize decide (bf = 0) = b5
  generalize decide (ph = 2) = b6
  generalize decide (ph = 3) = b7
  cases b1 <;> cases b2 <;> cases b3 <;> cases b4 <;> cases b5 <;> cases b6 <;> cases b7 <;> decide +kernel
noncomputable def t2X (un dz dd : Bool) : Int64 := bif un then (bif dz then 1 <<< ((bif dd then (42 : Int32) else 43).toInt64 &&& 63) else 0) else 0
theorem tX_1 (bt ao lf bf : Int32) (un dz dd n1 : Bool) (h1 : un = true → n1 = dz) (h2 : un = false → dd = true → n1 = false) : (tX true bt ao lf bf 1 ||| t2X un dz dd) &&& tlm = tM1 bt ao lf bf n1 dd un := by
  unfold tX tM1 t2X
  rw [show decide ((1 : Int32) = 2) = false from by decide, show decide ((1 : Int32) = 3) = false from by decide]
  generalize decide (bt = 1) = b1
  generalize decide (bt = 2) = b2
  generalize decide (ao = 0) = b3
  generalize decide (lf = 0) = b4
  generalize decide (bf = 0) = b5
  cases un with
  | true =>
    rw [h1 rfl]
    cases b1 <;> cases b2 <;> cases b3 <;> cases b4 <;> cases b5 <;> cases dz <;> cases dd <;> decide +kernel
  | false =>
    cases dd with
    | true =>
      rw [h2 rfl rfl]
      cases b1 <;> cases b2 <;> cases b3 <;> cases b4 <;> cases b5 <;> cases dz <;> decide +kernel
    | false =>
      cases b1 <;> cases b2 <;> cases b3 <;> cases b4 <;> cases b5 <;> cases dz <;> cases n1 <;> decide +kernel
theorem wi_3 : ∀ s, s < 4 → ∀ dl, dl < 4 → ∀ rd, rd < 2 → (((nI s - nI dl) &&& 3) ||| (nI rd <<< ((2 : Int32) &&& (31 : Int32)) : Int32) : Int32) &&& (3 : Int32) = wdM (nI dl) (nI s) ∧ (((((nI s - nI dl) &&& 3) ||| (nI rd <<< ((2 : Int32) &&& (31 : Int32)) : Int32) : Int32) >>> ((2 : Int32) &&& (31 : Int32)) : Int32) &&& (3 : Int32)) = nI rd := by decide +kernel
theorem and63 : ∀ n, n < 64 → nI n &&& 63 = nI n := by decide +kernel
theorem deF_nat {A : Nat → Int32} {b : Bool} (hA : ∀ p, 126 ≤ p → p < 136 → ∃ a, a ≤ 5 ∧ A p = nI a) : ∀ n, n ≤ 5 → ∃ N, N ≤ 10 * n ∧ deF A b n = nI N
  | 0, _ => ⟨0, by decide, rfl⟩
  | n + 1, h => by
    obtain ⟨N, h1, h2⟩ := deF_nat (b := b) hA n (by omega)
    obtain ⟨a1, h3, h4⟩ := hA (126 + 2 * n) (by omega) (by omega)
    obtain ⟨a2, h5, h6⟩ := hA (127 + 2 * n) (by omega) (by omega)
    show ∃ N, N ≤ 10 * (n + 1) ∧ (deF A b n + A (126 + 2 * n)) + (bif b then A (127 + 2 * n) else 0) = nI N
    cases b with
    | true => exact ⟨N + a1 + a2, by omega, by rw [cond_true, h2, h4, h6, nI_add, nI_add]⟩
    | false => exact ⟨N + a1, by omega, by rw [cond_false, h2, h4, nI_add, Int32.add_zero]⟩
theorem mdJJ_r : mdJJ.all (fun q => Nat.ble 14 q.1 && Nat.ble q.1 17) = true := by decide
theorem wo_fz {j : Nat} (hj : j < 4) {μ μ' : zM} (h : a_Fz mdJJ (sMm j μ) (sMm j μ')) : WOj μ μ' := fun r k hr => by
  have inv : ∀ r, sgm j (sgm j r) = r := (RN_sgm j hj).1
  have z := h.1 (sgm j r) k (fz_out (fun q hq e => by
    have y := List.all_eq_true.mp mdJJ_r q hq
    obtain ⟨y1, y2⟩ := z_and y
    have y1 := Nat.le_of_ble_eq_true y1
    have y2 := Nat.le_of_ble_eq_true y2
    have e2 : sgm j q.1 = r := by rw [e]; exact inv r
    obtain ⟨-, -, -, -, -, s14, s15, s16, s17⟩ := sgm_r j hj
    obtain e3 | e3 | e3 | e3 : q.1 = 14 ∨ q.1 = 15 ∨ q.1 = 16 ∨ q.1 = 17 := by omega
    · rw [e3, s14] at e2; omega
    · rw [e3, s15] at e2; omega
    · rw [e3, s16] at e2; omega
    · rw [e3, s17] at e2; omega))
  have a : ∀ ν : zM, (sMm j ν).1 (sgm j r) k = ν.1 r k ∧ (sMm j ν).2.1 (sgm j r) k = ν.2.1 r k := fun ν => by
    show ν.1 (sgm j (sgm j r)) k = _ ∧ ν.2.1 (sgm j (sgm j r)) k = _
    rw [inv]; exact ⟨rfl, rfl⟩
  rw [(a μ).1, (a μ').1, (a μ).2, (a μ').2] at z
  exact z
theorem hf_put {x m : zM} {s : Nat} {w aw : Nat → Nat} {q : Nat} {sL lL : Nat → Nat} (H : HF x m s w aw q sL lL) (hs : s < 4) {k : Nat} (hk : k < 34) (h3 : aw k ≤ 3) : HF (pS x s k 1) (z_giv m s k 1) s (ad1 w k) (ad1 aw k) q sL lL := by
  obtain ⟨e, he⟩ := H.aw hk
  obtain ⟨g1, g2, g3, g4, g5, g6, g7, g8⟩ := H
  have as : ∀ f : Nat → Nat, ad1 f k k = f k + 1 := fun f => if_pos rfl
  have ao : ∀ (f : Nat → Nat) j, j ≠ k → ad1 f k j = f j := fun f j h => if_neg h
  refine ⟨⟨fun j hj => ?_, ?_, g1.2.2.1, fun j hj => ?_⟩, fun j hj => ?_, fun j hj => ?_, ?_, fun hq j hj => ?_, fun j hj => ?_, ?_, fun j hj => ?_⟩
  · rw [giv_60]
    by_cases e2 : j = k
    · subst e2; rw [if_pos rfl, (g1.1 j hj).1, nI_s1, as]; exact ⟨rfl, by omega⟩
    · rw [if_neg (by omega), ao _ _ e2]; exact g1.1 j hj
  · rw [giv_o (by decide)]; exact g1.2.1
  · rw [giv_o (by decide), giv_o (by decide)]; exact g1.2.2.2 j hj
  · unfold pS
    by_cases e2 : j = k
    · subst e2; simp (disch := first | decide | exact ad_ne (by decide) | exact ad_m (by decide) | exact ad_l (by decide) | exact ad_g (by decide) | exact ad_lt (by decide) | exact ad_o (by decide) | omega) only [↓ui_s, ↓ui_o, ↓ui_k, ui_s, ui_o, ui_k]; rw [(g2 j hj).1, nI_s1, as]; exact ⟨rfl, by omega⟩
    · simp (disch := first | decide | exact ad_ne (by decide) | exact ad_m (by decide) | exact ad_l (by decide) | exact ad_g (by decide) | exact ad_lt (by decide) | exact ad_o (by decide) | omega) only [↓ui_s, ↓ui_o, ↓ui_k, ui_s, ui_o, ui_k]; rw [ao _ _ e2]; exact g2 j hj
  · unfold pS
    by_cases e2 : j = k
    · subst e2; simp (disch := first | decide | exact ad_ne (by decide) | exact ad_m (by decide) | exact ad_l (by decide) | exact ad_g (by decide) | exact ad_lt (by decide) | exact ad_o (by decide) | omega) only [↓ui_s, ↓ui_o, ↓ui_k, ui_s, ui_o, ui_k]; rw [(g3 j hj).1, nI_s1, as]; exact ⟨rfl, by omega⟩
    · simp (disch := first | decide | exact ad_ne (by decide) | exact ad_m (by decide) | exact ad_l (by decide) | exact ad_g (by decide) | exact ad_lt (by decide) | exact ad_o (by decide) | omega) only [↓ui_s, ↓ui_o, ↓ui_k, ui_s, ui_o, ui_k]; rw [ao _ _ e2]; exact g3 j hj
  · unfold pS; simp (disch := first | decide | exact ad_ne (by decide) | exact ad_m (by decide) | exact ad_l (by decide) | exact ad_g (by decide) | exact ad_lt (by decide) | exact ad_o (by decide) | omega) only [↓ui_s, ↓ui_o, ↓ui_k, ui_s, ui_o, ui_k]; exact g4
  · unfold ad1; rw [g5 hq j hj]
  · by_cases e2 : j = k
    · subst e2; rw [as]; omega
    · rw [ao _ _ e2]; exact g6 j hj
  · unfold pS; rw [ui_s, g7, sn_ad1 hk, nI_s1]
  · rw [show (fun i => (z_giv m s k 1).1 62 (4 * s + i)) = (fun i => m.1 62 (4 * s + i)) from funext fun i => giv_o (by decide), show (fun i => (z_giv m s k 1).1 63 (4 * s + i)) = (fun i => m.1 63 (4 * s + i)) from funext fun i => giv_o (by decide)]
    by_cases e2 : j = k
    · subst e2; rw [as, as, ← nI_s1, ← nI_s1, ofv_p, ← g8 j hj]
    · rw [ao _ _ e2, ao _ _ e2]; exact g8 j hj
theorem aw_3 {x m : zM} {p t c s : Nat} {w aw : Nat → Nat} {q : Nat} {sL lL : Nat → Nat} (R : RCl x m) (P : RPh x m p t c) (hA : a_H m) (hp : p ≠ 1) (hs : s < 4) (hst : s ≠ t) (H : HF x m s w aw q sL lL) (hc : c < 34) : aw c ≤ 3 := by
  obtain ⟨a, ha1, ha2⟩ := P.tc
  obtain ⟨sd, hsd⟩ := R.wp P.is
  have ht4 := P.t4
  have hnx : (m.1 50 46).toNatClampNeg ≤ 122 := by
    obtain ⟨n, h1, h2⟩ := i_nat (v := m.1 50 46) (n := 122) (hA 50 46).1 (hA 50 46).2 (by decide)
    rw [h2, nI_clamp (by omega)]; exact h1
  have hbk : (m.1 50 48).toNatClampNeg ≤ 14 := by
    obtain ⟨n, h1, h2⟩ := i_nat (v := m.1 50 48) (n := 4) (hA 50 48).1 (hA 50 48).2 (by decide)
    rw [h2, nI_clamp (by omega)]; omega
  have h1 := ha2 c hc
  have h2 := cW_4 sd (f := fW m) hsd hc hnx hbk
  have e : a s c = aw c := by
    have y := (ha1 s c hs hc).symm.trans (H.2.2.1 c hc).1
    have y2 := (H.2.2.1 c hc).2
    refine (nI_eq ?_ (by omega)).mp y
    obtain rfl | rfl | rfl | rfl := t_four hs <;> omega
  rcases P.p3 with y | y | y
  · exact absurd y hp
  · rw [if_pos ⟨y, rfl⟩] at h1
    rw [← e]
    obtain rfl | rfl | rfl | rfl := t_four hs <;> omega
  · have z := P.a3 y
    rw [ha1 t c ht4 hc] at z
    have z2 : a t c ≠ 0 := fun e => z (by rw [e]; rfl)
    rw [← e]
    obtain rfl | rfl | rfl | rfl := t_four hs <;> obtain rfl | rfl | rfl | rfl := t_four ht4 <;> first | exact absurd rfl hst | omega
/-- the class's worth of a hand -/
noncomputable def BX (w aw : Nat → Nat) (q c : Nat) (sL lL : Nat → Nat) (dr : Bool) (told : Int64) (wi de : Int32) (v : Q4) : Prop := (¬ VAL w q (nI c) ∧ v = (0, 0, 0, 0)) ∨ (VAL w q (nI c) ∧ ∃ κ μ', KC κ w aw q sL lL (nI c) dr told (27 + (wi &&& 3)) (rw9 wi) de ∧ CI (SCl κ w q sL lL 34) 5000 μ' ∧ bqC μ' = v)
/-- the reference's -/
noncomputable def BM (w : Nat → Nat) (q c : Nat) (sL lL : Nat → Nat) (dr : Bool) (told : Int64) (wd rd de : Int32) (b : Q4) : Prop := ∃ κ, KM κ w q sL lL (nI c) dr told wd rd de ∧ BS (SR κ w q sL lL) (0, 0, 0, 0) b
theorem wo_eq {x m : zM} {s : Nat} {w aw : Nat → Nat} {q c : Nat} {sL lL : Nat → Nat} (H : HF x m s w aw q sL lL) (hc : c < 34) (hw : 0 < w c) {dr : Bool} {told told' : Int64} {wi wd rd de : Int32} (ht : told &&& tlm = told') (h1 : wi &&& 3 = wd) (h2 : (wi >>> (2 &&& 31)) &&& 3 = rd) (h3 : de &&& 63 = de) {v b : Q4} (hX : BX w aw q c sL lL dr told wi de v) (hM : BM w q c sL lL dr told' wd rd de b) : v.1 = b.1 ∧ v.2.1 = b.2.1 ∧ v.2.2.2 = b.2.2.2 := by
  obtain ⟨κ, hM, hB⟩ := hM
  have hq := H.1.2.2.1
  rcases hX with ⟨nv, e0⟩ | ⟨V, κC, μ', hC, hI, e0⟩
  · have b0 : b = (0, 0, 0, 0) := hB.1.resolve_right (fun y => nv ⟨y.1, vp_in_nI hc (by decide), by rw [nI_clamp (by omega)]; exact hw⟩)
    rw [e0, b0]
    exact ⟨rfl, rfl, rfl⟩
  · rw [← h3] at hC
    rw [← ht, ← h1, ← h2, ← h3] at hM
    rw [← e0]
    refine both hq hc V.1 (fun j hj => ⟨(H.1.2.2.2 j hj).2.1, (H.1.2.2.2 j hj).2.2.2.1, (H.1.2.2.2 j hj).2.2.2.2⟩) (fun i hi => ⟨?_, by have := H.2.2.2.2.2.1 i hi; omega⟩) H.2.2.2.2.1 hC hM hI hB
    rw [hM.r58 i hi, ofv_cg (s' := fun i => m.1 62 (4 * s + i)) (l' := fun i => m.1 63 (4 * s + i)) q (fun j hj => ⟨by rw [(hM.r52 j hj).1, (H.1.2.2.2 j hj).1], by rw [(hM.r52 j hj).2.2.1, (H.1.2.2.2 j hj).2.2.1]⟩), ← H.2.2.2.2.2.2.2 i hi]
/-! what a hand is worth: the calls -/
set_option maxRecDepth 8000
noncomputable abbrev wiN (s dl rd : Nat) : Int32 := ((nI s - nI dl) &&& 3) ||| (nI rd <<< ((2 : Int32) &&& (31 : Int32)) : Int32)
/-- the kinds in the wall -/
noncomputable def Wm (m : zM) (p : Nat) : Nat := (m.1 59 p).toNatClampNeg
theorem Wm_e {m : zM} (hA : a_H m) (p : Nat) : m.1 59 p = nI (Wm m p) ∧ Wm m p < 34 := by
  obtain ⟨n, h1, h2⟩ := i_nat (v := m.1 59 p) (n := 33) (hA 59 p).1 (hA 59 p).2 (by decide)
  unfold Wm
  rw [h2, nI_clamp (by omega)]
  exact ⟨rfl, by omega⟩
/-- dear tiles -/
noncomputable def deM (m : zM) (s : Nat) (w : Nat → Nat) (q f : Nat) : Int32 := deF (dAs m s w (Wm m) q) (!(decide ((m.1 67 s) ≤ 0))) (f + 1)
theorem dear_p {x m m0 : zM} {s : Nat} {w aw : Nat → Nat} {q : Nat} {sL lL : Nat → Nat} (H : HF x m s w aw q sL lL) (h62 : ∀ i, m.1 62 (4 * s + i) = m0.1 62 (4 * s + i)) (h63 : ∀ i, m.1 63 (4 * s + i) = m0.1 63 (4 * s + i)) {p : Nat} (hA : a_H m0) (h3 : x.1 3 p = m0.1 59 p) : fr x (21 + 8 * s) (bhd (x.1 3 p)) = dAs m0 s w (Wm m0) q p ∧ ∃ a, a ≤ 5 ∧ dAs m0 s w (Wm m0) q p = nI a := by
  obtain ⟨e1, e2⟩ := Wm_e hA p
  have hb := bhd_in (Wm m0 p) e2
  obtain ⟨v, hv, ev⟩ := vp_in_of hb (by decide)
  have z : fr x (21 + 8 * s) (bhd (x.1 3 p)) = dAs m0 s w (Wm m0) q p := by
    unfold dAs
    rw [h3, e1, ev, fr_yes hv, nI_clamp (by omega), (H.2.2.1 v hv).1, H.2.2.2.2.2.2.2 v hv, show (fun i => m.1 62 (4 * s + i)) = (fun i => m0.1 62 (4 * s + i)) from funext h62, show (fun i => m.1 63 (4 * s + i)) = (fun i => m0.1 63 (4 * s + i)) from funext h63]
  refine ⟨z, aw v, (H.2.2.1 v hv).2, ?_⟩
  rw [← z, h3, e1, ev, fr_yes hv]
  exact (H.2.2.1 v hv).1
theorem de_63 {x m m0 : zM} {s : Nat} {w aw : Nat → Nat} {q : Nat} {sL lL : Nat → Nat} (H : HF x m s w aw q sL lL) (h62 : ∀ i, m.1 62 (4 * s + i) = m0.1 62 (4 * s + i)) (h63 : ∀ i, m.1 63 (4 * s + i) = m0.1 63 (4 * s + i)) (hA : a_H m0) (h3 : ∀ p, p < 136 → x.1 3 p = m0.1 59 p) {f : Nat} (hf : f ≤ 4) : deM m0 s w q f &&& 63 = deM m0 s w q f := by
  obtain ⟨N, h1, h2⟩ := deF_nat (A := dAs m0 s w (Wm m0) q) (b := !(decide ((m0.1 67 s) ≤ 0))) (fun p h1 h2 => (dear_p H h62 h63 hA (h3 p h2)).2) (f + 1) (by omega)
  unfold deM
  rw [h2]
  exact and63 N (by omega)
theorem WE_TE {x M : zM} (h : WE x M) : TE x M := fun i hi a h1 h2 k => (h (a + 8 * i) k (Or.inr (by omega)) (Or.inr ⟨by omega, by omega, by omega, by omega⟩) (Or.inl (by omega)) ⟨by omega, by omega, by omega, by omega⟩).1
theorem bt_not {x m : zM} (R : RCl x m) {s : Nat} (hs : s < 4) : (!decide (x.1 (18 + 8 * s) 5 = 0)) = !(decide ((m.1 67 s) ≤ 0)) := by
  rw [R.be s hs, bet_le R hs]
/-- judging, of the class -/
theorem jd_x {M m : zM} {s : Nat} {w aw : Nat → Nat} {q c : Nat} {sL lL : Nat → Nat} (H : HF M m s w aw q sL lL) (hs : s < 4) (hA : a_H M) (hso : ∀ i, i < q → M.1 (22 + 8 * s) i = nI (sL i) ∧ M.1 (23 + 8 * s) i = nI (lL i)) (dr : Bool) (told : Int64) (wi de : Int32) : ∀ d, 8 ≤ d → z_C d mi_X1_judge [.ref 4, .ref (19 + 8 * s), .int (nI c), .int (nB dr), .long told, .int wi, .int de] M (fun r μ' => r = none ∧ (WOj M μ' ∧ a_H μ' ∧ BX w aw q c sL lL dr told wi de (bqJ μ'))) := fun d hd => by
  refine z_C_mono (gc_judge d hd M s hs w aw q H.1.2.2.1 sL lL (fun i hi => ⟨(H.1.2.2.2 i hi).2.1, (H.1.2.2.2 i hi).2.2.2.1⟩) (fun k hk => (H.1.1 k hk).2) H.2.1 H.2.2.1 H.2.2.2.2.1 H.2.2.2.1 H.2.2.2.2.2.2.1 hso hA (nI c) wi de dr told) (fun r μ' z => ?_)
  obtain ⟨z1, z2, z3, z4⟩ := z
  have eb : bqC (sMm s μ') = bqJ μ' := by
    unfold bqC bqJ
    rw [sM14 hs, sM14 hs, sM14 hs, sM14j hs]
  refine ⟨z1, wo_fz hs z3, ?_, ?_⟩
  · have y := a_H_sg hs z2
    rw [sM_sM hs] at y
    exact y
  · rw [← eb]
    rcases z4 with ⟨a, b⟩ | ⟨a, κ, b, e⟩
    · exact Or.inl ⟨a, b⟩
    · exact Or.inr ⟨a, κ, _, b, e, rfl⟩
theorem left_x {x m M : zM} {p t c : Nat} (R : RCl x m) (P : RPh x m p t c) (h1 : M.1 2 1 = x.1 2 1) (h2 : M.1 2 2 = x.1 2 2) (h3 : M.1 2 3 = x.1 2 3) : xLf M = 122 - m.1 50 47 - m.1 50 46 := by
  unfold xLf
  rw [h1, h2, h3, R.sd, P.is, P.fo, R.nx, show decide ((1 : Int32) = 0) = false from by decide, cond_false]
/-- weighing a hand with the tile of another, of the class -/
theorem wx0 {x m : zM} {p t c s : Nat} {w aw : Nat → Nat} {q : Nat} {sL lL : Nat → Nat} (R : RCl x m) (P : RPh x m p t c) (hs : s < 4) (H : HF x m s w aw q sL lL) (hA : a_H m) (hc : c < 34) (h3 : aw c ≤ 3) {f dl rd : Nat} (hf : f ≤ 4) (hf47 : m.1 50 47 = nI f) (hdl : m.1 50 40 = nI dl) (hrd : m.1 50 41 = nI rd) : ∀ M, WE x M → a_H M → ∀ d, 10 ≤ d → z_C d mi_X6_weighHand [.ref 0, .int (nI s), .int 0] M (fun r μ' => ∃ μj, (μj.1 0 15 = nI c ∧ WOj (pS M s c 1) μj ∧ a_H μj ∧ BX (ad1 w c) (ad1 aw c) q c sL lL false (tX false (m.1 67 s) (m.1 69 s) (122 - m.1 50 47 - m.1 50 46) (x.1 0 16) (m.1 50 44) ||| 0) (wiN s dl rd) (deM m s (ad1 w c) q f) (bqJ μj)) ∧ μ' = pS μj s c (-1) ∧ r = some (.int (μj.1 4 0))) := fun M hM hAM d hd => by
  have e0 : ∀ k, k ≠ 12 → k ≠ 6 → M.1 0 k = x.1 0 k := fun k h1 h2 => (hM 0 k (Or.inl (by decide)) (Or.inr ⟨by decide, by decide, by decide, by decide⟩) (Or.inr ⟨h1, h2⟩) ⟨by decide, by decide, by decide, by decide⟩).1
  have e18 : ∀ k, k ≠ 4 → M.1 (18 + 8 * s) k = x.1 (18 + 8 * s) k := fun k h1 => (hM _ k (Or.inr (by omega)) (Or.inl h1) (Or.inl (by omega)) ⟨by omega, by omega, by omega, by omega⟩).1
  have e2 : ∀ r k, r = 2 ∨ r = 3 → M.1 r k = x.1 r k := fun r k h1 => (hM r k (Or.inl (by omega)) (Or.inr ⟨by omega, by omega, by omega, by omega⟩) (Or.inl (by omega)) ⟨by omega, by omega, by omega, by omega⟩).1
  have HM := hf_put (H.te hs (WE_TE hM)) hs hc h3
  have pe : ∀ r k, (r < 19 + 8 * s ∨ 21 + 8 * s < r) → (pS M s c 1).1 r k = M.1 r k := fun r k h => by unfold pS; simp (disch := first | decide | exact ad_ne (by decide) | exact ad_m (by decide) | exact ad_l (by decide) | exact ad_g (by decide) | exact ad_lt (by decide) | exact ad_o (by decide) | omega) only [↓ui_s, ↓ui_o, ↓ui_k, ui_s, ui_o, ui_k]
  have hAp : a_H (pS M s c 1) := by
    unfold pS
    obtain rfl | rfl | rfl | rfl := t_four hs
    all_goals exact a_H_ui (a_H_ui (a_H_ui hAM (bI_top _)) (bI_top _)) (bI_top _)
  have w3 : ∀ p, p < 136 → (pS M s c 1).1 3 p = m.1 59 p := fun p hp => by rw [pe 3 p (by omega), e2 3 p (Or.inr rfl)]; exact R.wl p hp
  have h62 : ∀ i, (z_giv m s c 1).1 62 (4 * s + i) = m.1 62 (4 * s + i) := fun i => giv_o (by decide)
  have h63 : ∀ i, (z_giv m s c 1).1 63 (4 * s + i) = m.1 63 (4 * s + i) := fun i => giv_o (by decide)
  have c15 : M.1 0 15 = nI c := (e0 15 (by decide) (by decide)).trans (P.cx.trans (if_neg (by omega)))
  refine gc_weigh0 d hd M s c hs hc c15 (tX false (m.1 67 s) (m.1 69 s) (122 - m.1 50 47 - m.1 50 46) (x.1 0 16) (m.1 50 44)) 0 (deM m s (ad1 w c) q f) ((nI s - nI dl) &&& 3) (by rw [e0 9 (by decide) (by decide), R.dl, hdl]) (fun d hd => ?_) (fun d hd => gc_firstDraw d hd _ s hs false) (fun d hd => ?_) (fun μj => μj.1 0 15 = nI c ∧ WOj (pS M s c 1) μj ∧ a_H μj ∧ BX (ad1 w c) (ad1 aw c) q c sL lL false (tX false (m.1 67 s) (m.1 69 s) (122 - m.1 50 47 - m.1 50 46) (x.1 0 16) (m.1 50 44) ||| 0) (wiN s dl rd) (deM m s (ad1 w c) q f) (bqJ μj)) (fun μj z => z.1) (fun d hd => ?_)
  · have z := tX_c d hd (pS M s c 1) s hs false
    rw [pe _ 5 (by omega), pe _ 7 (by omega), pe 0 16 (by omega), pe 0 7 (by omega), e18 5 (by decide), e18 7 (by decide), e0 16 (by decide) (by decide), e0 7 (by decide) (by decide), R.be s hs, R.ao s hs, left_x R P ((pe 2 1 (by omega)).trans (e2 2 1 (Or.inl rfl))) ((pe 2 2 (by omega)).trans (e2 2 2 (Or.inl rfl))) ((pe 2 3 (by omega)).trans (e2 2 3 (Or.inl rfl))), P.px, ← P.pm] at z
    exact z
  · have z := gc_dear d hd (pS M s c 1) s hs (!decide (M.1 (18 + 8 * s) 5 = 0)) f hf (by rw [pe 2 1 (by omega), e2 2 1 (Or.inl rfl), R.sd, P.is]) (by rw [pe 2 3 (by omega), e2 2 3 (Or.inl rfl), P.fo]; exact hf47)
    rw [deF_cg (B := dAs m s (ad1 w c) (Wm m) q) (f + 1) (fun p h1 h2 => (dear_p HM h62 h63 hA (w3 p (by omega))).1), e18 5 (by decide), bt_not R hs] at z
    rw [e18 5 (by decide), bt_not R hs]
    exact z
  · have z := jd_x (c := c) HM hs hAp (fun i hi => ⟨by rw [pe _ i (by omega), WE_TE hM s hs 22 (by decide) (by decide), R.so s i hs (by have := H.1.2.2.1; omega)]; exact (H.1.2.2.2 i hi).1, by rw [pe _ i (by omega), WE_TE hM s hs 23 (by decide) (by decide), R.lo s i hs (by have := H.1.2.2.1; omega)]; exact (H.1.2.2.2 i hi).2.2.1⟩) false (tX false (m.1 67 s) (m.1 69 s) (122 - m.1 50 47 - m.1 50 46) (x.1 0 16) (m.1 50 44) ||| 0) (wiN s dl rd) (deM m s (ad1 w c) q f) d hd
    rw [e0 10 (by decide) (by decide), R.rn, hrd]
    exact z_C_mono z (fun r μ' y => ⟨y.1, (y.2.1 0 15 (Or.inl (by decide))).1.trans ((pe 0 15 (by omega)).trans c15), y.2⟩)
/-- weighing, of the reference -/
theorem wm0 {x m : zM} {s c : Nat} {w aw : Nat → Nat} {q : Nat} {sL lL : Nat → Nat} (hs : s < 4) (H : HF x m s w aw q sL lL) (hA : a_H m) (hc : c < 34) {f dl rd : Nat} (hf : f ≤ 4) (hf47 : m.1 50 47 = nI f) (hdl : m.1 50 40 = nI dl) (hrd : m.1 50 41 = nI rd) : ∀ M, SVl m M → a_H M → ∀ d, 699 ≤ d → z_C d mi_X7_value [.ref 50, .int (nI s), .int (nI c), .int 0] M (fun r W => r = none ∧ a_H W ∧ SMj M W ∧ BM (ad1 w c) q c sL lL false (tM0 (m.1 67 s) (m.1 69 s) (122 - m.1 50 47 - m.1 50 46) (m.1 50 44)) (wdM (nI dl) (nI s)) (nI rd) (deM m s (ad1 w c) q f) (bq W)) := fun M hM hAM d hd => by
  have e5 : ∀ k, (k = 40 ∨ k = 41 ∨ k = 44 ∨ k = 46 ∨ k = 47 ∨ k = 56 ∨ k = 58) → M.1 50 k = m.1 50 k := fun k h => hM 50 k (by omega)
  have e6 : ∀ r k, (r = 59 ∨ r = 60 ∨ r = 62 ∨ r = 63 ∨ r = 64 ∨ r = 67 ∨ r = 68 ∨ r = 69) → M.1 r k = m.1 r k := fun r k h => hM r k (by omega)
  have eW : ∀ p, Wm M p = Wm m p := fun p => by unfold Wm; rw [e6 59 p (by omega)]
  have z := gm_value0 d (by omega) M hAM s c hs hc w q sL lL (H.1.se (fun r k g => e6 r k (by omega))) f hf ((e5 47 (by omega)).trans hf47) (Wm M) (fun p _ _ => Wm_e hAM p)
  refine z_C_mono z (fun r W y => ⟨y.1, y.2.1, y.2.2.1, ?_⟩)
  obtain ⟨κ, k1, k2⟩ := y.2.2.2.2
  refine ⟨κ, ?_, k2⟩
  have ed : dAs M s (ad1 w c) (Wm M) q = dAs m s (ad1 w c) (Wm m) q := by
    funext p
    unfold dAs
    rw [eW p, show (fun i => M.1 62 (4 * s + i)) = (fun i => m.1 62 (4 * s + i)) from funext fun i => e6 62 _ (by omega), show (fun i => M.1 63 (4 * s + i)) = (fun i => m.1 63 (4 * s + i)) from funext fun i => e6 63 _ (by omega)]
  rw [ed, e6 67 s (by omega), e6 69 s (by omega), e5 44 (by omega), e5 40 (by omega), e5 41 (by omega), hdl, hrd] at k1
  unfold tM0 deM
  rw [← e5 47 (by omega), ← e5 46 (by omega)]
  exact k1
/-- both weigh alike -/
theorem wb0 {x m : zM} {p t c s : Nat} {w aw : Nat → Nat} {q : Nat} {sL lL : Nat → Nat} (R : RCl x m) (P : RPh x m p t c) (hs : s < 4) (H : HF x m s w aw q sL lL) (hA : a_H m) (hc : c < 34) (h3 : aw c ≤ 3) {f dl rd : Nat} (hf : f ≤ 4) (hdl4 : dl < 4) (hrd2 : rd < 2) {v b : Q4} (hX : BX (ad1 w c) (ad1 aw c) q c sL lL false (tX false (m.1 67 s) (m.1 69 s) (122 - m.1 50 47 - m.1 50 46) (x.1 0 16) (m.1 50 44) ||| 0) (wiN s dl rd) (deM m s (ad1 w c) q f) v) (hM : BM (ad1 w c) q c sL lL false (tM0 (m.1 67 s) (m.1 69 s) (122 - m.1 50 47 - m.1 50 46) (m.1 50 44)) (wdM (nI dl) (nI s)) (nI rd) (deM m s (ad1 w c) q f) b) : v.1 = b.1 ∧ v.2.1 = b.2.1 ∧ v.2.2.2 = b.2.2.2 := by
  have H' := hf_put H hs hc h3
  have w3 : ∀ p, p < 136 → (pS x s c 1).1 3 p = m.1 59 p := fun p hp => by unfold pS; simp (disch := first | decide | exact ad_ne (by decide) | exact ad_m (by decide) | exact ad_l (by decide) | exact ad_g (by decide) | exact ad_lt (by decide) | exact ad_o (by decide) | omega) only [↓ui_s, ↓ui_o, ↓ui_k, ui_s, ui_o, ui_k]; exact R.wl p hp
  exact wo_eq H' hc (by show 0 < ad1 w c c; unfold ad1; rw [if_pos rfl]; omega) (tX_0 _ _ _ _ _) (wi_3 s hs dl hdl4 rd hrd2).1 (wi_3 s hs dl hdl4 rd hrd2).2 (de_63 H' (fun i => giv_o (by decide)) (fun i => giv_o (by decide)) hA w3 hf) hX hM
/-! further refused calls -/
set_option maxRecDepth 8000
theorem gx_claimT (d : Nat) (hd : 3 ≤ d) (μ : zM) (s t : Nat) (hs4 : s < 4) (ht4 : t < 4) (ht : μ.1 0 8 = nI t) (hst : decide (nI s = nI t) = true) : z_C d mi_X6_claim [.ref 0, .int (nI s)] μ (fun r μ' => r = some (.int 0) ∧ μ' = μ) := by
  refine z_C_in (by decide) (by omega) (fun d' Z ed hc hr => ?_)
  have hH : zH mi_X6_claim zt_X6_claim 79 6 5 := hh_X6_claim
  refine z_rcs hc hH 1 (pc' := 1) (lv' := [(0, .ref 0), (1, .int (nI s))]) (st' := [.ref 0]) (μ' := μ) (by rfl) ?_
  refine zq_gfi hc hH (by rfl) (ci := 5) (f := 7) (by rfl) (by decide +kernel) (by rfl) ?_
  refine z_rcs hc hH 1 (pc' := 5) (lv' := [(0, .ref 0), (1, .int (nI s))]) (st' := [.int 2, .int (μ.1 0 7)]) (μ' := μ) (by rfl) ?_
  refine zq_ic hc hH (by rfl) (tg := 16) (by rfl) (fun h1 => ?_) (fun h1 => ?_)
  · have h1 : (decide ((μ.1 0 7) = 2)) = true := decide_eq_true (cm_eq9.mp h1)
    refine z_rcs hc hH 1 (pc' := 17) (lv' := [(0, .ref 0), (1, .int (nI s))]) (st' := [.int (nI s)]) (μ' := μ) (by rfl) ?_
    refine zq_call hc (z_cx_ok hH (by rfl)) (gc_isSeat d' (by omega) μ (nI s)) (by decide +kernel) (fun r9 μ9 hq => ?_)
    obtain ⟨hμ9, rfl⟩ := hq
    rw [hμ9]
    clear hμ9 μ9
    show Z 0 20 [(0, .ref 0), (1, .int (nI s))] [.int (nB (sI (nI s)))] μ
    refine zq_if hc hH (by rfl) (tg := 31) (by rfl) (fun h2 => ?_) (fun h2 => ?_)
    · have h2 : (sI (nI s)) = false := nB_z.mp (cm_eq9.mp h2)
      exact absurd (Eq.trans (Eq.symm (sI_n hs4)) h2) (by decide)
    · have h2 : (sI (nI s)) = true := nB_n.mp (cn_eq.mp h2)
      refine z_rcs hc hH 2 (pc' := 25) (lv' := [(0, .ref 0), (1, .int (nI s))]) (st' := [.ref 0, .int (nI s)]) (μ' := μ) (by rfl) ?_
      refine zq_gfi hc hH (by rfl) (ci := 5) (f := 8) (by rfl) (by decide +kernel) (by rfl) ?_
      rw [ht]
      refine zq_ic hc hH (by rfl) (tg := 33) (by rfl) (fun h3 => ?_) (fun h3 => ?_)
      · have h3 : (decide ((nI s) = (nI t))) = false := decide_eq_false (cm_ne.mp h3)
        exact absurd (Eq.trans (Eq.symm (hst)) h3) (by decide)
      · have h3 : (decide ((nI s) = (nI t))) = true := decide_eq_true (cn_ne.mp h3)
        refine z_rcs hc hH 1 (pc' := 32) (lv' := [(0, .ref 0), (1, .int (nI s))]) (st' := [.int 0]) (μ' := μ) (by rfl) ?_
        exact hr 0 32 _ _ _ (some (.int 0)) (by decide +kernel) (z_rx_ok hH (by rfl)) (⟨rfl, rfl⟩)
  · have h1 : (decide ((μ.1 0 7) = 2)) = false := decide_eq_false (cn_eq.mp h1)
    refine z_rcs hc hH 1 (pc' := 9) (lv' := [(0, .ref 0), (1, .int (nI s))]) (st' := [.ref 0]) (μ' := μ) (by rfl) ?_
    refine zq_gfi hc hH (by rfl) (ci := 5) (f := 7) (by rfl) (by decide +kernel) (by rfl) ?_
    refine z_rcs hc hH 1 (pc' := 13) (lv' := [(0, .ref 0), (1, .int (nI s))]) (st' := [.int 3, .int (μ.1 0 7)]) (μ' := μ) (by rfl) ?_
    refine zq_ic hc hH (by rfl) (tg := 31) (by rfl) (fun h4 => ?_) (fun h4 => ?_)
    · have h4 : (decide ((μ.1 0 7) = 3)) = false := decide_eq_false (cm_ne.mp h4)
      refine z_rcs hc hH 1 (pc' := 32) (lv' := [(0, .ref 0), (1, .int (nI s))]) (st' := [.int 0]) (μ' := μ) (by rfl) ?_
      exact hr 0 32 _ _ _ (some (.int 0)) (by decide +kernel) (z_rx_ok hH (by rfl)) (⟨rfl, rfl⟩)
    · have h4 : (decide ((μ.1 0 7) = 3)) = true := decide_eq_true (cn_ne.mp h4)
      refine z_rcs hc hH 1 (pc' := 17) (lv' := [(0, .ref 0), (1, .int (nI s))]) (st' := [.int (nI s)]) (μ' := μ) (by rfl) ?_
      refine zq_call hc (z_cx_ok hH (by rfl)) (gc_isSeat d' (by omega) μ (nI s)) (by decide +kernel) (fun r9 μ9 hq => ?_)
      obtain ⟨hμ9, rfl⟩ := hq
      rw [hμ9]
      clear hμ9 μ9
      show Z 0 20 [(0, .ref 0), (1, .int (nI s))] [.int (nB (sI (nI s)))] μ
      refine zq_if hc hH (by rfl) (tg := 31) (by rfl) (fun h5 => ?_) (fun h5 => ?_)
      · have h5 : (sI (nI s)) = false := nB_z.mp (cm_eq9.mp h5)
        exact absurd (Eq.trans (Eq.symm (sI_n hs4)) h5) (by decide)
      · have h5 : (sI (nI s)) = true := nB_n.mp (cn_eq.mp h5)
        refine z_rcs hc hH 2 (pc' := 25) (lv' := [(0, .ref 0), (1, .int (nI s))]) (st' := [.ref 0, .int (nI s)]) (μ' := μ) (by rfl) ?_
        refine zq_gfi hc hH (by rfl) (ci := 5) (f := 8) (by rfl) (by decide +kernel) (by rfl) ?_
        rw [ht]
        refine zq_ic hc hH (by rfl) (tg := 33) (by rfl) (fun h6 => ?_) (fun h6 => ?_)
        · have h6 : (decide ((nI s) = (nI t))) = false := decide_eq_false (cm_ne.mp h6)
          exact absurd (Eq.trans (Eq.symm (hst)) h6) (by decide)
        · have h6 : (decide ((nI s) = (nI t))) = true := decide_eq_true (cn_ne.mp h6)
          refine z_rcs hc hH 1 (pc' := 32) (lv' := [(0, .ref 0), (1, .int (nI s))]) (st' := [.int 0]) (μ' := μ) (by rfl) ?_
          exact hr 0 32 _ _ _ (some (.int 0)) (by decide +kernel) (z_rx_ok hH (by rfl)) (⟨rfl, rfl⟩)
theorem mr_claimT (d : Nat) (hd : 3 ≤ d) (μ : zM) (s t : Nat) (hs4 : s < 4) (ht4 : t < 4) (ht : μ.1 50 45 = nI t) (hst : decide (nI s = nI t) = true) : z_C d mi_X7_claim [.ref 50, .int (nI s)] μ (fun r μ' => r = some (.int 0) ∧ μ' = z_ui μ 50 0 0) := by
  refine z_C_in (by decide) (by omega) (fun d' Z ed hc hr => ?_)
  have hH : zH mi_X7_claim zt_X7_claim 79 7 5 := hh_X7_claim
  refine z_rcs hc hH 2 (pc' := 2) (lv' := [(0, .ref 50), (1, .int (nI s))]) (st' := [.int 0, .ref 50]) (μ' := μ) (by rfl) ?_
  refine zq_pfi hc hH (by rfl) (ci := 6) (f := 0) (by rfl) (by decide +kernel) (by rfl) ?_
  show Z 0 5 [(0, .ref 50), (1, .int (nI s))] [] (z_ui μ 50 0 0)
  refine z_rcs hc hH 1 (pc' := 6) (lv' := [(0, .ref 50), (1, .int (nI s))]) (st' := [.ref 50]) (μ' := z_ui μ 50 0 0) (by rfl) ?_
  refine zq_gfi hc hH (by rfl) (ci := 6) (f := 44) (by rfl) (by decide +kernel) (by rfl) ?_
  refine zV1 (Z := Z) (ui_k (by first | decide | omega)) ?_
  refine z_rcs hc hH 1 (pc' := 10) (lv' := [(0, .ref 50), (1, .int (nI s))]) (st' := [.int 2, .int (μ.1 50 44)]) (μ' := z_ui μ 50 0 0) (by rfl) ?_
  refine zq_ic hc hH (by rfl) (tg := 46) (by rfl) (fun h1 => ?_) (fun h1 => ?_)
  · have h1 : (decide ((μ.1 50 44) < 2)) = true := decide_eq_true (cm_lt.mp h1)
    refine z_rcs hc hH 1 (pc' := 47) (lv' := [(0, .ref 50), (1, .int (nI s))]) (st' := [.int 0]) (μ' := z_ui μ 50 0 0) (by rfl) ?_
    exact hr 0 47 _ _ _ (some (.int 0)) (by decide +kernel) (z_rx_ok hH (by rfl)) (⟨rfl, rfl⟩)
  · have h1 : (decide ((μ.1 50 44) < 2)) = false := decide_eq_false (cn_lt.mp h1)
    refine z_rcs hc hH 1 (pc' := 14) (lv' := [(0, .ref 50), (1, .int (nI s))]) (st' := [.int (nI s)]) (μ' := z_ui μ 50 0 0) (by rfl) ?_
    refine zq_call hc (z_cx_ok hH (by rfl)) (gm_isSeatN d' (by omega) (z_ui μ 50 0 0) s hs4) (by decide +kernel) (fun r9 μ9 hq => ?_)
    obtain ⟨hμ9, rfl⟩ := hq
    rw [hμ9]
    clear hμ9 μ9
    show Z 0 17 [(0, .ref 50), (1, .int (nI s))] [.int 1] (z_ui μ 50 0 0)
    refine z_rcs hc hH 3 (pc' := 22) (lv' := [(0, .ref 50), (1, .int (nI s))]) (st' := [.ref 50, .int (nI s)]) (μ' := z_ui μ 50 0 0) (by rfl) ?_
    refine zq_gfi hc hH (by rfl) (ci := 6) (f := 45) (by rfl) (by decide +kernel) (by rfl) ?_
    refine zV1 (Z := Z) (ui_k (by first | decide | omega)) ?_
    rw [ht]
    refine zq_ic hc hH (by rfl) (tg := 46) (by rfl) (fun h2 => ?_) (fun h2 => ?_)
    · have h2 : (decide ((nI s) = (nI t))) = true := decide_eq_true (cm_eq9.mp h2)
      refine z_rcs hc hH 1 (pc' := 47) (lv' := [(0, .ref 50), (1, .int (nI s))]) (st' := [.int 0]) (μ' := z_ui μ 50 0 0) (by rfl) ?_
      exact hr 0 47 _ _ _ (some (.int 0)) (by decide +kernel) (z_rx_ok hH (by rfl)) (⟨rfl, rfl⟩)
    · have h2 : (decide ((nI s) = (nI t))) = false := decide_eq_false (cn_eq.mp h2)
      exact absurd (Eq.trans (Eq.symm (hst)) h2) (by decide)
/-! claim answers alike -/
set_option maxRecDepth 8000
theorem kA_ex {f : Nat → Bool} : ∀ n, kA f n = true → ∃ i, i < n ∧ f i = true
  | 0, h => by cases h
  | n + 1, h => by
    have h : (kA f n || f n) = true := h
    rw [Bool.or_eq_true] at h
    rcases h with h | h
    · obtain ⟨i, h1, h2⟩ := kA_ex n h
      exact ⟨i, by omega, h2⟩
    · exact ⟨n, by omega, h⟩
theorem kb_nz {b : Nat → Bool} {k : Nat} (hk : k < 34) (h : b k = true) : ¬ kb b 34 = 0 := fun e => by
  have z := kb_bit b 34 (by omega) k hk
  rw [e, zero_b k (by omega), decide_eq_true hk, h] at z
  cases z
theorem thr_eq {m : zM} {s rm : Nat} (f : Nat → Bool) (hrm : m.1 66 s = nI rm) (h86 : rm ≤ 136) (hk : ∀ i, i < rm → ∃ k, k < 34 ∧ m.1 65 (136 * s + i) = nI k) : decide (lg_cmp (kb f 34 &&& kb (tkM m s) 34) 0 = 0) = !kA (rvF m s (kb f 34)) rm := by
  have er : ∀ i k, k < 34 → m.1 65 (136 * s + i) = nI k → rvF m s (kb f 34) i = f k := fun i k h1 h2 => by
    unfold rvF
    rw [h2]
    exact bw_kb f h1
  rw [kb_and9]
  cases e : kA (rvF m s (kb f 34)) rm with
  | true =>
    obtain ⟨i, hi, h1⟩ := kA_ex rm e
    obtain ⟨k, hk1, hk2⟩ := hk i hi
    rw [er i k hk1 hk2] at h1
    refine decide_eq_false (fun z => kb_nz (b := fun k => tkM m s k && f k) hk1 ?_ (lg_c0.mp z))
    show (tkM m s k && f k) = true
    rw [h1, Bool.and_true]
    unfold tkM
    rw [hrm, nI_clamp (by omega)]
    exact kA_hit hi (decide_eq_true hk2)
  | false =>
    refine decide_eq_true (lg_c0.mpr (kb_0 34 (fun k hk1 => ?_)))
    cases e2 : (tkM m s k && f k) with
    | false => rfl
    | true =>
      exfalso
      obtain ⟨t1, t2⟩ := z_and e2
      unfold tkM at t1
      rw [hrm, nI_clamp (by omega)] at t1
      obtain ⟨i, hi, h1⟩ := kA_ex rm t1
      have y := kA_hit (f := rvF m s (kb f 34)) hi ((er i k hk1 (of_decide_eq_true h1)).trans t2)
      rw [e] at y
      cases y
theorem wo_pS {M μj : zM} {s c : Nat} (h : WOj (pS M s c 1) μj) : WOj M (pS μj s c (-1)) := fun r k hr => by
  have z : ∀ v : Int32, v + 1 + -1 = v := fun v => by rw [Int32.add_assoc, show (1 : Int32) + -1 = 0 from by decide, Int32.add_zero]
  refine ⟨?_, (h r k hr).2⟩
  have e := fun r' k' (hr' : r' < 4 ∨ 7 < r') => (h r' k' hr').1
  by_cases e1 : r = 20 + 8 * s
  · subst e1
    by_cases e2 : k = c
    · subst e2
      rw [show (pS μj s k (-1)).1 (20 + 8 * s) k = μj.1 (20 + 8 * s) k + -1 from by unfold pS; simp (disch := first | decide | exact ad_ne (by decide) | exact ad_m (by decide) | exact ad_l (by decide) | exact ad_g (by decide) | exact ad_lt (by decide) | exact ad_o (by decide) | omega) only [↓ui_s, ↓ui_o, ↓ui_k, ui_s, ui_o, ui_k], e _ _ hr, show (pS M s k 1).1 (20 + 8 * s) k = M.1 (20 + 8 * s) k + 1 from by unfold pS; simp (disch := first | decide | exact ad_ne (by decide) | exact ad_m (by decide) | exact ad_l (by decide) | exact ad_g (by decide) | exact ad_lt (by decide) | exact ad_o (by decide) | omega) only [↓ui_s, ↓ui_o, ↓ui_k, ui_s, ui_o, ui_k]]
      exact z _
    · rw [show (pS μj s c (-1)).1 (20 + 8 * s) k = μj.1 (20 + 8 * s) k from by unfold pS; simp (disch := first | decide | exact ad_ne (by decide) | exact ad_m (by decide) | exact ad_l (by decide) | exact ad_g (by decide) | exact ad_lt (by decide) | exact ad_o (by decide) | omega) only [↓ui_s, ↓ui_o, ↓ui_k, ui_s, ui_o, ui_k], e _ _ hr]
      unfold pS; simp (disch := first | decide | exact ad_ne (by decide) | exact ad_m (by decide) | exact ad_l (by decide) | exact ad_g (by decide) | exact ad_lt (by decide) | exact ad_o (by decide) | omega) only [↓ui_s, ↓ui_o, ↓ui_k, ui_s, ui_o, ui_k]
  · by_cases e1 : r = 21 + 8 * s
    · subst e1
      by_cases e2 : k = c
      · subst e2
        rw [show (pS μj s k (-1)).1 (21 + 8 * s) k = μj.1 (21 + 8 * s) k + -1 from by unfold pS; simp (disch := first | decide | exact ad_ne (by decide) | exact ad_m (by decide) | exact ad_l (by decide) | exact ad_g (by decide) | exact ad_lt (by decide) | exact ad_o (by decide) | omega) only [↓ui_s, ↓ui_o, ↓ui_k, ui_s, ui_o, ui_k], e _ _ hr, show (pS M s k 1).1 (21 + 8 * s) k = M.1 (21 + 8 * s) k + 1 from by unfold pS; simp (disch := first | decide | exact ad_ne (by decide) | exact ad_m (by decide) | exact ad_l (by decide) | exact ad_g (by decide) | exact ad_lt (by decide) | exact ad_o (by decide) | omega) only [↓ui_s, ↓ui_o, ↓ui_k, ui_s, ui_o, ui_k]]
        exact z _
      · rw [show (pS μj s c (-1)).1 (21 + 8 * s) k = μj.1 (21 + 8 * s) k from by unfold pS; simp (disch := first | decide | exact ad_ne (by decide) | exact ad_m (by decide) | exact ad_l (by decide) | exact ad_g (by decide) | exact ad_lt (by decide) | exact ad_o (by decide) | omega) only [↓ui_s, ↓ui_o, ↓ui_k, ui_s, ui_o, ui_k], e _ _ hr]
        unfold pS; simp (disch := first | decide | exact ad_ne (by decide) | exact ad_m (by decide) | exact ad_l (by decide) | exact ad_g (by decide) | exact ad_lt (by decide) | exact ad_o (by decide) | omega) only [↓ui_s, ↓ui_o, ↓ui_k, ui_s, ui_o, ui_k]
    · by_cases e1 : r = 19 + 8 * s
      · subst e1
        by_cases e2 : k = 5
        · subst e2
          rw [show (pS μj s c (-1)).1 (19 + 8 * s) 5 = μj.1 (19 + 8 * s) 5 + -1 from by unfold pS; simp (disch := first | decide | exact ad_ne (by decide) | exact ad_m (by decide) | exact ad_l (by decide) | exact ad_g (by decide) | exact ad_lt (by decide) | exact ad_o (by decide) | omega) only [↓ui_s, ↓ui_o, ↓ui_k, ui_s, ui_o, ui_k], e _ _ hr, show (pS M s c 1).1 (19 + 8 * s) 5 = M.1 (19 + 8 * s) 5 + 1 from by unfold pS; simp (disch := first | decide | exact ad_ne (by decide) | exact ad_m (by decide) | exact ad_l (by decide) | exact ad_g (by decide) | exact ad_lt (by decide) | exact ad_o (by decide) | omega) only [↓ui_s, ↓ui_o, ↓ui_k, ui_s, ui_o, ui_k]]
          exact z _
        · rw [show (pS μj s c (-1)).1 (19 + 8 * s) k = μj.1 (19 + 8 * s) k from by unfold pS; simp (disch := first | decide | exact ad_ne (by decide) | exact ad_m (by decide) | exact ad_l (by decide) | exact ad_g (by decide) | exact ad_lt (by decide) | exact ad_o (by decide) | omega) only [↓ui_s, ↓ui_o, ↓ui_k, ui_s, ui_o, ui_k], e _ _ hr]
          unfold pS; simp (disch := first | decide | exact ad_ne (by decide) | exact ad_m (by decide) | exact ad_l (by decide) | exact ad_g (by decide) | exact ad_lt (by decide) | exact ad_o (by decide) | omega) only [↓ui_s, ↓ui_o, ↓ui_k, ui_s, ui_o, ui_k]
      · rw [show (pS μj s c (-1)).1 r k = μj.1 r k from by unfold pS; simp (disch := first | decide | exact ad_ne (by decide) | exact ad_m (by decide) | exact ad_l (by decide) | exact ad_g (by decide) | exact ad_lt (by decide) | exact ad_o (by decide) | omega) only [↓ui_s, ↓ui_o, ↓ui_k, ui_s, ui_o, ui_k], e _ _ hr]
        unfold pS; simp (disch := first | decide | exact ad_ne (by decide) | exact ad_m (by decide) | exact ad_l (by decide) | exact ad_g (by decide) | exact ad_lt (by decide) | exact ad_o (by decide) | omega) only [↓ui_s, ↓ui_o, ↓ui_k, ui_s, ui_o, ui_k]
theorem wo_EqX {M W : zM} (h : WOj M W) : EqX M W := fun r k g => h r k (by unfold gXc at g; omega)
theorem EqM_SVl {m M : zM} (h : EqM m M) : SVl m M := fun r k g => (h r k (by unfold gMc; omega)).1
theorem lg_cl {d : Nat} (hd : 700 ≤ d) (μ : zM) (s : Int32) (h : LJ μ) : z_C d mi_X7_claim [.ref 50, .int s] μ (fun _ μ' => LJ μ' ∧ EqX μ μ') := by
  by_cases hp : μ.1 50 44 = 0 ∨ μ.1 50 44 = 1
  · refine z_C_mono (bs_X7_claim_b hd [.ref 50, .int s] μ (aArg_preF ⟨⟨50, by decide, rfl⟩, ⟨_, rfl, bI_top _⟩, trivial⟩ (fun f hf => ?_)) h.1.1) (fun r μ' q => ⟨h.keep q.1 q.2.1 (by decide) (by decide), fz_EqX q.2.1 (by decide)⟩)
    rw [List.mem_singleton.mp hf]
    refine ⟨50, rfl, rfl, by decide, μ.1 50 44, rfl, ?_⟩
    rcases hp with e | e <;> rw [e] <;> exact ⟨by decide, by decide⟩
  · have hP := h.1.2.2 (fun e => hp (Or.inl e))
    have t0 := hP.2.2.2.2.1 (fun e => absurd (Or.inr e) hp)
    refine z_C_mono (bs_X7_claim_a hd [.ref 50, .int s] μ (aArg_preF ⟨⟨50, by decide, rfl⟩, ⟨_, rfl, bI_top _⟩, trivial⟩ (fun f hf => ?_)) h.1.1) (fun r μ' q => ⟨h.keep q.1 q.2.1 (by decide) (by decide), fz_EqX q.2.1 (by decide)⟩)
    rw [List.mem_singleton.mp hf]
    exact ⟨50, rfl, rfl, by decide, μ.1 50 49, rfl, t0, (h.1.1 50 49).2⟩
theorem go_in {d j' : Nat} {As' : List Value} {μ1 X : zM} {r : Option Value} {y : Int32} (h1 : LJ μ1) (km : ∀ μ1, LJ μ1 → z_C d j' As' μ1 (fun _ μ' => LJ μ' ∧ EqX μ1 μ')) (hr : r = some (.int y)) (hX : EqX X μ1) (c2 : z_C d j' As' μ1 (fun r μ' => r = some (.int y) ∧ RG X μ')) : LJ μ1 ∧ ∃ y, r = some (.int y) ∧ z_C d j' As' μ1 (fun r2 μ2 => LGm μ2 ∧ r2 = some (.int y)) := ⟨h1, y, hr, z_C_mono (zC_and d (km μ1 h1) c2) (fun r2 μ2 z => ⟨⟨z.1.1, z.2.2.cg (eqX_tr hX z.1.2) (eqM_rf _)⟩, z.2.1⟩)⟩
theorem cl_eq {x m : zM} {p t c s rm : Nat} (R : RCl x m) (P : RPh x m p t c) (hp : p ≠ 1) (hs : s < 4) (hc : c < 34) (hrm : m.1 66 s = nI rm) (hrm5 : rm ≤ 135) (f : Nat → Bool) : clC x s t c (kb f 34) = clD m s t c rm (kb f 34) := by
  unfold clC clD
  have h1 : (decide (x.1 0 7 = 2) || decide (x.1 0 7 = 3)) = true := by
    rw [P.px]
    rcases P.p3 with q | q | q
    · exact absurd q hp
    · rw [q]; decide
    · rw [q]; decide
  rw [h1, Bool.true_and, R.sy s hs, R.lg s hs, hd_kb f hc, bz_kb f hc, Bool.not_not, R.tk s hs, thr_eq f hrm (by omega) (fun i hi => R.rk s i hs (by rw [hrm, nI_clamp (by omega)]; exact hi))]
theorem lg_claim {d : Nat} (hd : 705 ≤ d) {μ : zM} (h : LGm μ) (y : Int32) : GO d mi_X6_claim mi_X7_claim [.ref 0, .int y] [.ref 50, .int y] μ := by
  obtain ⟨hJ, hR⟩ := h
  have kx : z_C d mi_X6_claim [.ref 0, .int y] μ (fun _ μ' => LJ μ' ∧ EqM μ μ') := lg_k (i := 67) (K := ak_67) rfl (by omega) (by decide +kernel) (by decide +kernel) rfl (by decide +kernel) [.ref 0, .int y] μ hJ ⟨⟨0, by decide, rfl⟩, ⟨_, rfl, bI_top _⟩, trivial⟩
  have km : ∀ μ1, LJ μ1 → z_C d mi_X7_claim [.ref 50, .int y] μ1 (fun _ μ' => LJ μ' ∧ EqX μ1 μ') := fun μ1 h1 => lg_cl (by omega) μ1 y h1
  have hA := hJ.1.1
  rcases hR.2 with ⟨p1, p2, -, -, -⟩ | ⟨p, t, c, P⟩
  · exact go_no hR kx km (gx_claimP d (by omega) μ y (by rw [p1]; decide) (by rw [p1]; decide)) (mr_claimP d (by omega) μ y (by rw [p2]; decide))
  by_cases hp : p = 1
  · exact go_no hR kx km (gx_claimP d (by omega) μ y (by rw [P.px, hp]; decide) (by rw [P.px, hp]; decide)) (mr_claimP d (by omega) μ y (by rw [P.pm, hp]; decide))
  by_cases hy : vp_in y 4
  · obtain ⟨s, hs, rfl⟩ := vp_in_of hy (by decide)
    have ht4 := P.t4
    by_cases hst : s = t
    · have e : decide (nI s = nI t) = true := decide_eq_true (by rw [hst])
      exact go_no hR kx km (gx_claimT d (by omega) μ s t hs ht4 P.tx e) (mr_claimT d (by omega) μ s t hs ht4 P.tm e)
    have R := hR.1
    have hc : c < 34 := by
      rcases P.c3 with q | ⟨_, q⟩
      · exact q
      · exact absurd q hp
    have hp0 : ¬ μ.1 50 44 = 0 := by rw [P.pm]; rcases P.p3 with q | q | q <;> (rw [q]; decide)
    have hp2 : decide (μ.1 50 44 < 2) = false := by
      rw [P.pm]
      rcases P.p3 with q | q | q
      · exact absurd q hp
      · rw [q]; decide
      · rw [q]; decide
    have G := hJ.1.2.2 hp0
    obtain ⟨W, hW⟩ := ww_of R P hA G hc
    obtain ⟨w, aw, q, sL, lL, H⟩ := hf_of R P hA G hs
    have h3 := aw_3 R P hA hp hs hst H hc
    have cx : μ.1 0 15 = nI c := P.cx.trans (if_neg (by omega))
    have cm : μ.1 50 49 = nI c := P.cm.trans (if_neg (by omega))
    obtain ⟨dl, hdl4, hdl⟩ := dealer_nI hA
    obtain ⟨f, hf4, hf47⟩ := i_nat (v := μ.1 50 47) (n := 4) (hA 50 47).1 (hA 50 47).2 (by decide)
    obtain ⟨rd, hrd2, hrd⟩ : ∃ rd, rd < 2 ∧ μ.1 50 41 = nI rd := by
      rcases R.rd with e | e
      · exact ⟨0, by decide, e⟩
      · exact ⟨1, by decide, e⟩
    obtain ⟨rm, hrm5, hrm⟩ := i_nat (v := μ.1 66 s) (n := 135) (hA 66 s).1 (hA 66 s).2 (by decide)
    obtain ⟨g, hg⟩ := (hW s hs).2.2.2
    have eC : clC μ s t c (W s) = clD μ s t c rm (W s) := by rw [hg]; exact cl_eq R P hp hs hc hrm hrm5 g
    have cc := gc_claim d (by omega) μ s t c hs ht4 P.tx hc cx (W s) (fun d hd => (hW s hs).2.2.1 μ (fun _ _ _ _ _ _ => rfl) d hd) _ (fun d hd => wx0 R P hs H hA hc h3 hf4 hf47 hdl hrd μ (WE_rf μ) hA d hd)
    have mm : ∀ μ1, LJ μ1 → EqM μ μ1 → z_C d mi_X7_claim [.ref 50, .int (nI s)] μ1 (fun r μ' => (clD μ s t c rm (W s) = false ∧ r = some (.int 0) ∧ SMj (z_ui μ1 50 0 0) μ') ∨ (clD μ s t c rm (W s) = true ∧ ∃ V, BM (ad1 w c) q c sL lL false (tM0 (μ.1 67 s) (μ.1 69 s) (122 - μ.1 50 47 - μ.1 50 46) (μ.1 50 44)) (wdM (nI dl) (nI s)) (nI rd) (deM μ s (ad1 w c) q f) (bq V) ∧ ((decide (V.1 50 13 = 0) = true ∧ r = some (.int 0) ∧ SMj (z_ui μ1 50 0 0) μ') ∨ (decide (V.1 50 13 = 0) = false ∧ r = some (.int 1) ∧ SMj (z_ui (z_ui μ1 50 0 0) 71 s 1) μ')))) := fun μ1 h1 qM => by
      have E : ∀ r k', gMc r k' → μ1.1 r k' = μ.1 r k' := fun r k' g => (qM r k' g).1
      have eD : clD μ1 s t c rm (W s) = clD μ s t c rm (W s) := by
        unfold clD
        rw [E 71 s (Or.inl ⟨by decide, by decide⟩), E 70 s (Or.inl ⟨by decide, by decide⟩), show rvF μ1 s (W s) = rvF μ s (W s) from funext fun i => by unfold rvF; rw [E 65 _ (Or.inl ⟨by decide, by decide⟩)]]
      rw [← eD]
      exact gm_claim d (by omega) μ1 h1.1.1 s t c rm hs ht4 ((E 50 45 (Or.inr ⟨rfl, by decide, by decide⟩)).trans P.tm) hc ((E 50 49 (Or.inr ⟨rfl, by decide, by decide⟩)).trans cm) (by rw [E 50 44 (Or.inr ⟨rfl, by decide, by decide⟩)]; exact hp2) ((E 66 s (Or.inl ⟨by decide, by decide⟩)).trans hrm) hrm5 (W s) (fun M hM => (hW s hs).2.1 M (fun r k g => (hM r k g).trans (E r k (Or.inl ⟨by omega, by omega⟩)))) _ (fun M hM hAM d hd => z_C_mono (wm0 hs H hA hc hf4 hf47 hdl hrd M (EqM_SVl (eqM_tr (eqM_tr qM (t0_EqM μ1 0)) (sm_EqM hM))) hAM d hd) (fun r W z => ⟨z.1, z.2.2.1, z.2.2.2⟩))
    refine z_C_mono (zC_and d kx cc) (fun r μ1 qq => ?_)
    obtain ⟨⟨q1, qM⟩, q2⟩ := qq
    have eM : EqM μ (z_ui μ1 50 0 0) := eqM_tr qM (t0_EqM μ1 0)
    have m2 := mm μ1 q1 qM
    rcases q2 with ⟨b1, b2, b3⟩ | ⟨b1, μj, hJ', b2⟩
    · refine go_in q1 km b2 (X := μ) (by rw [b3]; exact eqX_rf _) (z_C_mono m2 (fun r μ' z => ?_))
      rw [eC] at b1
      rcases z with ⟨_, z2, z3⟩ | ⟨z1, -⟩
      · exact ⟨z2, hR.cg (eqX_rf _) (eqM_tr eM (sm_EqM z3))⟩
      · rw [b1] at z1; cases z1
    · obtain ⟨j1, j2, j3, j4⟩ := hJ'
      rw [eC] at b1
      have eb : ∀ V : zM, BM (ad1 w c) q c sL lL false (tM0 (μ.1 67 s) (μ.1 69 s) (122 - μ.1 50 47 - μ.1 50 46) (μ.1 50 44)) (wdM (nI dl) (nI s)) (nI rd) (deM μ s (ad1 w c) q f) (bq V) → μj.1 4 0 = V.1 50 13 := fun V hV => (wb0 R P hs H hA hc h3 hf4 hdl4 hrd2 j4 hV).1
      rcases b2 with ⟨b3, b4, b5⟩ | ⟨b3, b4, b5⟩
      · refine go_in q1 km b4 (X := μ) (by rw [b5]; exact wo_EqX (wo_pS j2)) (z_C_mono m2 (fun r μ' z => ?_))
        rcases z with ⟨_, z2, z3⟩ | ⟨_, V, hV, z⟩
        · exact ⟨z2, hR.cg (eqX_rf _) (eqM_tr eM (sm_EqM z3))⟩
        · rcases z with ⟨_, z2, z3⟩ | ⟨z1, -, -⟩
          · exact ⟨z2, hR.cg (eqX_rf _) (eqM_tr eM (sm_EqM z3))⟩
          · rw [← eb V hV, b3] at z1; cases z1
      · refine go_in q1 km b4 (X := z_ui μ (18 + 8 * s) 9 1) (by
          rw [b5]
          have y := wo_EqX (wo_pS j2)
          exact fun r k g => ⟨by
            by_cases e : r = 18 + 8 * s ∧ k = 9
            · obtain ⟨rfl, rfl⟩ := e; rw [ui_s, ui_s]
            · by_cases e1 : r = 18 + 8 * s
              · rw [ui_k (by first | decide | omega), ui_k (by first | decide | omega)]; exact (y r k g).1
              · rw [ui_o e1, ui_o e1]; exact (y r k g).1, (y r k g).2⟩) (z_C_mono m2 (fun r μ' z => ?_))
        rcases z with ⟨z1, -, -⟩ | ⟨_, V, hV, z⟩
        · rw [b1] at z1; cases z1
        · rcases z with ⟨z1, -, -⟩ | ⟨_, z2, z3⟩
          · rw [← eb V hV, b3] at z1; cases z1
          · refine ⟨z2, RG.cg (eqX_rf _) (sm_EqM z3) ⟨rc_said (R.cg (eqX_rf _) eM) hs, Or.inr ⟨p, t, c, rp_said (P.cg (eqX_rf _) eM) hp hs hst⟩⟩⟩
  · exact go_no hR kx km (gx_claimS d (by omega) μ y (isS_x hy)) (mr_claimS d (by omega) μ y (isS_no hy))
/-! win answers alike -/
set_option maxRecDepth 8000
/-- the told FORMS of a drawn tile -/
noncomputable def toX (x m : zM) (s : Nat) : Int64 := tX true (m.1 67 s) (m.1 69 s) (122 - m.1 50 47 - m.1 50 46) (m.1 50 58) 1 ||| t2X (!decide (m.1 50 56 = 0)) (decide (m.1 66 s ≤ 0)) (decide (nI s = m.1 50 40))
theorem toX_eq {x m : zM} {t c : Nat} (P : RPh x m 1 t c) (hc : c < 34) (hA : a_H m) : toX x m t &&& tlm = tM1 (m.1 67 t) (m.1 69 t) (122 - m.1 50 47 - m.1 50 46) (m.1 50 58) (decide (m.1 68 t = 1)) (decide (nI t = m.1 50 40)) (!decide (m.1 50 56 = 0)) := by
  refine tX_1 _ _ _ _ _ _ _ _ (fun h => ?_) (fun h1 h2 => ?_)
  · have z : ¬ m.1 50 56 = 0 := of_decide_eq_false (not_t h)
    have y := P.dr z t P.t4
    rw [if_pos ⟨rfl, rfl⟩] at y
    obtain ⟨rm, a, b⟩ := i_nat (v := m.1 66 t) (n := 135) (hA 66 t).1 (hA 66 t).2 (by decide)
    rw [y, b, nI_s1, show decide (nI (rm + 1) = 1) = decide (rm + 1 = 1) from by
      by_cases e : rm + 1 = 1
      · rw [decide_eq_true e, e]; decide
      · rw [decide_eq_false e]; exact decide_eq_false (fun q => e ((nI_eq (a := rm + 1) (b := 1) (by omega) (by decide)).mp q)), show decide (nI rm ≤ 0) = decide (rm ≤ 0) from nI_le2 (b := 0) (by omega) (by decide)]
    by_cases e : rm = 0
    · rw [decide_eq_true (show rm + 1 = 1 by omega), decide_eq_true (show rm ≤ 0 by omega)]
    · rw [decide_eq_false (by omega), decide_eq_false (by omega)]
  · have z : m.1 50 56 = 0 := of_decide_eq_true (not_f h1)
    exact decide_eq_false (P.d2 z rfl (of_decide_eq_true h2).symm hc)
theorem wx1 {x m : zM} {c t : Nat} {w aw : Nat → Nat} {q : Nat} {sL lL : Nat → Nat} (R : RCl x m) (P : RPh x m 1 t c) (H : HF x m t w aw q sL lL) (hA : a_H m) (hAx : a_H x) (hc : c < 34) {f dl rd : Nat} (hf : f ≤ 4) (hf47 : m.1 50 47 = nI f) (hdl : m.1 50 40 = nI dl) (hrd : m.1 50 41 = nI rd) : ∀ d, 10 ≤ d → z_C d mi_X6_weighHand [.ref 0, .int (nI t), .int 1] x (fun r μ' => ∃ μj, (μj.1 0 15 = nI c ∧ WOj x μj ∧ a_H μj ∧ BX w aw q c sL lL true (toX x m t) (wiN t dl rd) (deM m t w q f) (bqJ μj)) ∧ μ' = μj ∧ r = some (.int (μj.1 4 0))) := fun d hd => by
  have hs := P.t4
  have c15 : x.1 0 15 = nI c := P.cx.trans (if_neg (by omega))
  refine gc_weigh1 d hd x t c hs hc c15 (tX true (m.1 67 t) (m.1 69 t) (122 - m.1 50 47 - m.1 50 46) (m.1 50 58) 1) (t2X (!decide (m.1 50 56 = 0)) (decide (m.1 66 t ≤ 0)) (decide (nI t = m.1 50 40))) (deM m t w q f) ((nI t - nI dl) &&& 3) (by rw [R.dl, hdl]) (fun d hd => ?_) (fun d hd => ?_) (fun d hd => ?_) (fun μj => μj.1 0 15 = nI c ∧ WOj x μj ∧ a_H μj ∧ BX w aw q c sL lL true (toX x m t) (wiN t dl rd) (deM m t w q f) (bqJ μj)) (fun μj z => z.1) (fun d hd => ?_)
  · have z := tX_c d hd x t hs true
    rw [R.be t hs, R.ao t hs, left_x R P rfl rfl rfl, P.bf rfl hc, P.px] at z
    exact z
  · have z := gc_firstDraw d hd x t hs true
    rw [cond_true, P.br, R.ds t hs, R.dl, show decide (nB (decide (m.1 50 56 = 0)) = 0) = !decide (m.1 50 56 = 0) from by cases decide (m.1 50 56 = 0) <;> decide] at z
    exact z
  · have z := gc_dear d hd x t hs (!decide (x.1 (18 + 8 * t) 5 = 0)) f hf (by rw [R.sd, P.is]) (by rw [P.fo]; exact hf47)
    rw [deF_cg (B := dAs m t w (Wm m) q) (f + 1) (fun p h1 h2 => (dear_p H (fun _ => rfl) (fun _ => rfl) hA (R.wl p (by omega))).1), bt_not R hs] at z
    rw [bt_not R hs]
    exact z
  · have z := jd_x (c := c) H hs hAx (fun i hi => ⟨by rw [R.so t i hs (by have := H.1.2.2.1; omega)]; exact (H.1.2.2.2 i hi).1, by rw [R.lo t i hs (by have := H.1.2.2.1; omega)]; exact (H.1.2.2.2 i hi).2.2.1⟩) true (toX x m t) (wiN t dl rd) (deM m t w q f) d hd
    rw [R.rn, hrd]
    exact z_C_mono z (fun r μ' y => ⟨y.1, (y.2.1 0 15 (Or.inl (by decide))).1.trans c15, y.2⟩)
theorem wmD1 {x m : zM} {s c : Nat} {w aw : Nat → Nat} {q : Nat} {sL lL : Nat → Nat} (hs : s < 4) (H : HF x m s w aw q sL lL) (hA : a_H m) (hc : c < 34) {f dl rd : Nat} (hf : f ≤ 4) (hf47 : m.1 50 47 = nI f) (hdl : m.1 50 40 = nI dl) (hrd : m.1 50 41 = nI rd) : ∀ M, SVl m M → a_H M → ∀ d, 699 ≤ d → z_C d mi_X7_value [.ref 50, .int (nI s), .int (nI c), .int 1] M (fun r W => r = none ∧ a_H W ∧ SMj M W ∧ (¬ W.1 50 13 = 0 → W.1 50 18 = 1) ∧ BM w q c sL lL true (tM1 (m.1 67 s) (m.1 69 s) (122 - m.1 50 47 - m.1 50 46) (m.1 50 58) (decide (m.1 68 s = 1)) (decide (nI s = m.1 50 40)) (!decide (m.1 50 56 = 0))) (wdM (nI dl) (nI s)) (nI rd) (deM m s w q f) (bq W)) := fun M hM hAM d hd => by
  have e5 : ∀ k, (k = 40 ∨ k = 41 ∨ k = 44 ∨ k = 46 ∨ k = 47 ∨ k = 56 ∨ k = 58) → M.1 50 k = m.1 50 k := fun k h => hM 50 k (by omega)
  have e6 : ∀ r k, (r = 59 ∨ r = 60 ∨ r = 62 ∨ r = 63 ∨ r = 64 ∨ r = 67 ∨ r = 68 ∨ r = 69) → M.1 r k = m.1 r k := fun r k h => hM r k (by omega)
  have eW : ∀ p, Wm M p = Wm m p := fun p => by unfold Wm; rw [e6 59 p (by omega)]
  have z := gm_value1 d (by omega) M hAM s c hs hc w q sL lL (H.1.se (fun r k g => e6 r k (by omega))) f hf ((e5 47 (by omega)).trans hf47) (Wm M) (fun p _ _ => Wm_e hAM p)
  refine z_C_mono z (fun r W y => ⟨y.1, y.2.1, y.2.2.1, y.2.2.2.1, ?_⟩)
  obtain ⟨κ, k1, k2⟩ := y.2.2.2.2
  refine ⟨κ, ?_, k2⟩
  have ed : dAs M s w (Wm M) q = dAs m s w (Wm m) q := by
    funext p
    unfold dAs
    rw [eW p, show (fun i => M.1 62 (4 * s + i)) = (fun i => m.1 62 (4 * s + i)) from funext fun i => e6 62 _ (by omega), show (fun i => M.1 63 (4 * s + i)) = (fun i => m.1 63 (4 * s + i)) from funext fun i => e6 63 _ (by omega)]
  rw [ed, e6 67 s (by omega), e6 69 s (by omega), e6 68 s (by omega), e5 58 (by omega), e5 56 (by omega), e5 41 (by omega), hrd] at k1
  unfold tM1 deM
  rw [← e5 47 (by omega), ← e5 46 (by omega), ← e5 40 (by omega), ← hdl, ← e5 40 (by omega)]
  exact k1
theorem wb1 {x m : zM} {t c : Nat} {w aw : Nat → Nat} {q : Nat} {sL lL : Nat → Nat} (R : RCl x m) (P : RPh x m 1 t c) (H : HF x m t w aw q sL lL) (hA : a_H m) (hc : c < 34) {f dl rd : Nat} (hf : f ≤ 4) (hdl4 : dl < 4) (hrd2 : rd < 2) {v b : Q4} (hX : BX w aw q c sL lL true (toX x m t) (wiN t dl rd) (deM m t w q f) v) (hM : BM w q c sL lL true (tM1 (m.1 67 t) (m.1 69 t) (122 - m.1 50 47 - m.1 50 46) (m.1 50 58) (decide (m.1 68 t = 1)) (decide (nI t = m.1 50 40)) (!decide (m.1 50 56 = 0))) (wdM (nI dl) (nI t)) (nI rd) (deM m t w q f) b) : v.1 = b.1 ∧ v.2.1 = b.2.1 ∧ v.2.2.2 = b.2.2.2 := by
  have hw : 0 < w c := by
    rcases Nat.eq_zero_or_pos (w c) with e | e
    · exfalso
      have z := P.dt rfl hc
      rw [(H.1.1 c hc).1, e] at z
      exact z rfl
    · exact e
  exact wo_eq H hc hw (toX_eq P hc hA) (wi_3 t P.t4 dl hdl4 rd hrd2).1 (wi_3 t P.t4 dl hdl4 rd hrd2).2 (de_63 H (fun _ => rfl) (fun _ => rfl) hA R.wl hf) hX hM
theorem lg_win0_1 {d : Nat} (hd : 705 ≤ d) {μ : zM} (hJ : LJ μ) (hR : RG μ μ) {c dl : Nat} (P : RPh μ μ 1 0 c) (hc : c < 34) (hdl4 : dl < 4) (hdl : μ.1 50 40 = nI dl) (heq : dl = 0) (kx : z_C d mi_X6_win [.ref 0] μ (fun _ μ' => LJ μ' ∧ EqM μ μ')) (km : ∀ μ1, LJ μ1 → z_C d mi_X7_win [.ref 50] μ1 (fun _ μ' => LJ μ' ∧ EqX μ1 μ')) : GO d mi_X6_win mi_X7_win [.ref 0] [.ref 50] μ := by
  have hA := hJ.1.1
  have R := hR.1
  have hp1 : μ.1 50 44 = 1 := P.pm
  have G := hJ.1.2.2 (by rw [hp1]; decide)
  obtain ⟨w, aw, q, sL, lL, H⟩ := hf_of R P hA G P.t4
  have cx : μ.1 0 15 = nI c := P.cx.trans (if_neg (by omega))
  have cm : μ.1 50 49 = nI c := P.cm.trans (if_neg (by omega))
  obtain ⟨f, hf4, hf47⟩ := i_nat (v := μ.1 50 47) (n := 4) (hA 50 47).1 (hA 50 47).2 (by decide)
  obtain ⟨rd, hrd2, hrd⟩ : ∃ rd, rd < 2 ∧ μ.1 50 41 = nI rd := by
    rcases R.rd with e | e
    · exact ⟨0, by decide, e⟩
    · exact ⟨1, by decide, e⟩
  have cc := gc_win1 d (by omega) μ 0 dl ((dl + 1) % 4) c 1 2 3 (by decide) P.tx hdl4 rfl hc cx (by decide) (by decide) (by decide) (by decide) (by decide) (by decide) heq.symm (fun μj => μj.1 0 15 = nI c ∧ WOj μ μj ∧ a_H μj ∧ BX w aw q c sL lL true (toX μ μ 0) (wiN 0 dl rd) (deM μ 0 w q f) (bqJ μj)) (fun m z => ⟨(z.2.1 0 8 (Or.inl (by decide))).1.trans P.tx, (z.2.1 0 9 (Or.inl (by decide))).1.trans (R.dl.trans hdl), (z.2.1 0 6 (Or.inl (by decide))).1.trans (R.wc.trans P.w0)⟩) (wx1 R P H hA hA hc hf4 hf47 hdl hrd)
  have mm : ∀ μ1, LJ μ1 → EqM μ μ1 → z_C d mi_X7_win [.ref 50] μ1 (fun r μ' => ∃ V, BM w q c sL lL true (tM1 (μ.1 67 0) (μ.1 69 0) (122 - μ.1 50 47 - μ.1 50 46) (μ.1 50 58) (decide (μ.1 68 0 = 1)) (decide (nI 0 = μ.1 50 40)) (!decide (μ.1 50 56 = 0))) (wdM (nI dl) (nI 0)) (nI rd) (deM μ 0 w q f) (bq V) ∧ ((decide (V.1 50 13 = 0) = true ∧ r = some (.int 0) ∧ SMj (z_ui μ1 50 0 0) μ') ∨ (decide (V.1 50 13 = 0) = false ∧ r = some (.int 1) ∧ SMj (wM0_1 μ1 V dl ((dl + 1) % 4) c) μ'))) := fun μ1 h1 qM => by
    have E : ∀ r k', gMc r k' → μ1.1 r k' = μ.1 r k' := fun r k' g => (qM r k' g).1
    exact gm_win0_1 d (by omega) μ1 h1.1.1 dl ((dl + 1) % 4) c ((E 50 45 (Or.inr ⟨rfl, by decide, by decide⟩)).trans P.tm) ((E 50 40 (Or.inr ⟨rfl, by decide, by decide⟩)).trans hdl) hdl4 rfl heq hc ((E 50 49 (Or.inr ⟨rfl, by decide, by decide⟩)).trans cm) (by rw [E 50 44 (Or.inr ⟨rfl, by decide, by decide⟩), hp1]; decide) (by rw [E 50 57 (Or.inr ⟨rfl, by decide, by decide⟩), P.jc rfl, if_neg (by omega)]; decide) _ (fun d hd => wmD1 P.t4 H hA hc hf4 hf47 hdl hrd _ (EqM_SVl (eqM_tr qM (t0_EqM μ1 0))) (a_H_ui h1.1.1 (bI_top _)) d hd)
  refine z_C_mono (zC_and d kx cc) (fun r μ1 qq => ?_)
  obtain ⟨⟨q1, qM⟩, q2⟩ := qq
  have eM : EqM μ (z_ui μ1 50 0 0) := eqM_tr qM (t0_EqM μ1 0)
  have m2 := mm μ1 q1 qM
  rcases q2 with ⟨b1, -, -⟩ | ⟨-, μj, ⟨j1, j2, j3, j4⟩, b2⟩
  · rw [P.px] at b1; exact absurd b1 (by decide)
  · have eb := fun (V : zM) hV => wb1 (b := bq V) R P H hA hc hf4 hdl4 hrd2 j4 hV
    rcases b2 with ⟨b3, b4, b5⟩ | ⟨b3, b4, b5⟩
    · refine go_in q1 km b4 (X := μ) (by rw [b5]; exact wo_EqX j2) (z_C_mono m2 (fun r μ' z => ?_))
      obtain ⟨V, hV, z⟩ := z
      have e0 : μj.1 4 0 = V.1 50 13 := (eb V hV).1
      rcases z with ⟨_, z2, z3⟩ | ⟨z1, -, -⟩
      · exact ⟨z2, hR.cg (eqX_rf _) (eqM_tr eM (sm_EqM z3))⟩
      · rw [← e0, b3] at z1; cases z1
    · refine go_in q1 km b4 (X := wn1 μj 0 dl ((dl + 1) % 4) 1 2 3) (by rw [b5]; exact eqX_rf _) (z_C_mono m2 (fun r μ' z => ?_))
      obtain ⟨V, hV, z⟩ := z
      have e0 : μj.1 4 0 = V.1 50 13 := (eb V hV).1
      rcases z with ⟨z1, -, -⟩ | ⟨_, z2, z3⟩
      · rw [← e0, b3] at z1; cases z1
      · refine ⟨z2, RG.cg (eqX_rf _) (sm_EqM z3) ?_⟩
        have P' := P.cg (wo_EqX j2) qM
        exact rg_win0_1 (R.cg (wo_EqX j2) qM) P'.fo (P'.tx.trans P'.tm.symm) ((qM 50 40 (Or.inr ⟨rfl, by decide, by decide⟩)).1.trans hdl) hdl4 rfl e0 (eb V hV).2.1 (eb V hV).2.2 j1
theorem lg_win0_0 {d : Nat} (hd : 705 ≤ d) {μ : zM} (hJ : LJ μ) (hR : RG μ μ) {c dl : Nat} (P : RPh μ μ 1 0 c) (hc : c < 34) (hdl4 : dl < 4) (hdl : μ.1 50 40 = nI dl) (heq : dl ≠ 0) (kx : z_C d mi_X6_win [.ref 0] μ (fun _ μ' => LJ μ' ∧ EqM μ μ')) (km : ∀ μ1, LJ μ1 → z_C d mi_X7_win [.ref 50] μ1 (fun _ μ' => LJ μ' ∧ EqX μ1 μ')) : GO d mi_X6_win mi_X7_win [.ref 0] [.ref 50] μ := by
  have hA := hJ.1.1
  have R := hR.1
  have hp1 : μ.1 50 44 = 1 := P.pm
  have G := hJ.1.2.2 (by rw [hp1]; decide)
  obtain ⟨w, aw, q, sL, lL, H⟩ := hf_of R P hA G P.t4
  have cx : μ.1 0 15 = nI c := P.cx.trans (if_neg (by omega))
  have cm : μ.1 50 49 = nI c := P.cm.trans (if_neg (by omega))
  obtain ⟨f, hf4, hf47⟩ := i_nat (v := μ.1 50 47) (n := 4) (hA 50 47).1 (hA 50 47).2 (by decide)
  obtain ⟨rd, hrd2, hrd⟩ : ∃ rd, rd < 2 ∧ μ.1 50 41 = nI rd := by
    rcases R.rd with e | e
    · exact ⟨0, by decide, e⟩
    · exact ⟨1, by decide, e⟩
  have cc := gc_win0 d (by omega) μ 0 dl ((dl + 1) % 4) c 1 2 3 (by decide) P.tx hdl4 rfl hc cx (by decide) (by decide) (by decide) (by decide) (by decide) (by decide) (fun e => heq e.symm) (fun μj => μj.1 0 15 = nI c ∧ WOj μ μj ∧ a_H μj ∧ BX w aw q c sL lL true (toX μ μ 0) (wiN 0 dl rd) (deM μ 0 w q f) (bqJ μj)) (fun m z => ⟨(z.2.1 0 8 (Or.inl (by decide))).1.trans P.tx, (z.2.1 0 9 (Or.inl (by decide))).1.trans (R.dl.trans hdl), (z.2.1 0 6 (Or.inl (by decide))).1.trans (R.wc.trans P.w0)⟩) (wx1 R P H hA hA hc hf4 hf47 hdl hrd)
  have mm : ∀ μ1, LJ μ1 → EqM μ μ1 → z_C d mi_X7_win [.ref 50] μ1 (fun r μ' => ∃ V, BM w q c sL lL true (tM1 (μ.1 67 0) (μ.1 69 0) (122 - μ.1 50 47 - μ.1 50 46) (μ.1 50 58) (decide (μ.1 68 0 = 1)) (decide (nI 0 = μ.1 50 40)) (!decide (μ.1 50 56 = 0))) (wdM (nI dl) (nI 0)) (nI rd) (deM μ 0 w q f) (bq V) ∧ ((decide (V.1 50 13 = 0) = true ∧ r = some (.int 0) ∧ SMj (z_ui μ1 50 0 0) μ') ∨ (decide (V.1 50 13 = 0) = false ∧ r = some (.int 1) ∧ SMj (wM0_0 μ1 V dl ((dl + 1) % 4) c) μ'))) := fun μ1 h1 qM => by
    have E : ∀ r k', gMc r k' → μ1.1 r k' = μ.1 r k' := fun r k' g => (qM r k' g).1
    exact gm_win0_0 d (by omega) μ1 h1.1.1 dl ((dl + 1) % 4) c ((E 50 45 (Or.inr ⟨rfl, by decide, by decide⟩)).trans P.tm) ((E 50 40 (Or.inr ⟨rfl, by decide, by decide⟩)).trans hdl) hdl4 rfl heq hc ((E 50 49 (Or.inr ⟨rfl, by decide, by decide⟩)).trans cm) (by rw [E 50 44 (Or.inr ⟨rfl, by decide, by decide⟩), hp1]; decide) (by rw [E 50 57 (Or.inr ⟨rfl, by decide, by decide⟩), P.jc rfl, if_neg (by omega)]; decide) _ (fun d hd => wmD1 P.t4 H hA hc hf4 hf47 hdl hrd _ (EqM_SVl (eqM_tr qM (t0_EqM μ1 0))) (a_H_ui h1.1.1 (bI_top _)) d hd)
  refine z_C_mono (zC_and d kx cc) (fun r μ1 qq => ?_)
  obtain ⟨⟨q1, qM⟩, q2⟩ := qq
  have eM : EqM μ (z_ui μ1 50 0 0) := eqM_tr qM (t0_EqM μ1 0)
  have m2 := mm μ1 q1 qM
  rcases q2 with ⟨b1, -, -⟩ | ⟨-, μj, ⟨j1, j2, j3, j4⟩, b2⟩
  · rw [P.px] at b1; exact absurd b1 (by decide)
  · have eb := fun (V : zM) hV => wb1 (b := bq V) R P H hA hc hf4 hdl4 hrd2 j4 hV
    rcases b2 with ⟨b3, b4, b5⟩ | ⟨b3, b4, b5⟩
    · refine go_in q1 km b4 (X := μ) (by rw [b5]; exact wo_EqX j2) (z_C_mono m2 (fun r μ' z => ?_))
      obtain ⟨V, hV, z⟩ := z
      have e0 : μj.1 4 0 = V.1 50 13 := (eb V hV).1
      rcases z with ⟨_, z2, z3⟩ | ⟨z1, -, -⟩
      · exact ⟨z2, hR.cg (eqX_rf _) (eqM_tr eM (sm_EqM z3))⟩
      · rw [← e0, b3] at z1; cases z1
    · refine go_in q1 km b4 (X := wn0 μj 0 dl ((dl + 1) % 4) 1 2 3) (by rw [b5]; exact eqX_rf _) (z_C_mono m2 (fun r μ' z => ?_))
      obtain ⟨V, hV, z⟩ := z
      have e0 : μj.1 4 0 = V.1 50 13 := (eb V hV).1
      rcases z with ⟨z1, -, -⟩ | ⟨_, z2, z3⟩
      · rw [← e0, b3] at z1; cases z1
      · refine ⟨z2, RG.cg (eqX_rf _) (sm_EqM z3) ?_⟩
        have P' := P.cg (wo_EqX j2) qM
        exact rg_win0_0 (R.cg (wo_EqX j2) qM) P'.fo (P'.tx.trans P'.tm.symm) ((qM 50 40 (Or.inr ⟨rfl, by decide, by decide⟩)).1.trans hdl) hdl4 rfl e0 (eb V hV).2.1 (eb V hV).2.2 j1
theorem lg_win1_1 {d : Nat} (hd : 705 ≤ d) {μ : zM} (hJ : LJ μ) (hR : RG μ μ) {c dl : Nat} (P : RPh μ μ 1 1 c) (hc : c < 34) (hdl4 : dl < 4) (hdl : μ.1 50 40 = nI dl) (heq : dl = 1) (kx : z_C d mi_X6_win [.ref 0] μ (fun _ μ' => LJ μ' ∧ EqM μ μ')) (km : ∀ μ1, LJ μ1 → z_C d mi_X7_win [.ref 50] μ1 (fun _ μ' => LJ μ' ∧ EqX μ1 μ')) : GO d mi_X6_win mi_X7_win [.ref 0] [.ref 50] μ := by
  have hA := hJ.1.1
  have R := hR.1
  have hp1 : μ.1 50 44 = 1 := P.pm
  have G := hJ.1.2.2 (by rw [hp1]; decide)
  obtain ⟨w, aw, q, sL, lL, H⟩ := hf_of R P hA G P.t4
  have cx : μ.1 0 15 = nI c := P.cx.trans (if_neg (by omega))
  have cm : μ.1 50 49 = nI c := P.cm.trans (if_neg (by omega))
  obtain ⟨f, hf4, hf47⟩ := i_nat (v := μ.1 50 47) (n := 4) (hA 50 47).1 (hA 50 47).2 (by decide)
  obtain ⟨rd, hrd2, hrd⟩ : ∃ rd, rd < 2 ∧ μ.1 50 41 = nI rd := by
    rcases R.rd with e | e
    · exact ⟨0, by decide, e⟩
    · exact ⟨1, by decide, e⟩
  have cc := gc_win1 d (by omega) μ 1 dl ((dl + 1) % 4) c 2 3 0 (by decide) P.tx hdl4 rfl hc cx (by decide) (by decide) (by decide) (by decide) (by decide) (by decide) heq.symm (fun μj => μj.1 0 15 = nI c ∧ WOj μ μj ∧ a_H μj ∧ BX w aw q c sL lL true (toX μ μ 1) (wiN 1 dl rd) (deM μ 1 w q f) (bqJ μj)) (fun m z => ⟨(z.2.1 0 8 (Or.inl (by decide))).1.trans P.tx, (z.2.1 0 9 (Or.inl (by decide))).1.trans (R.dl.trans hdl), (z.2.1 0 6 (Or.inl (by decide))).1.trans (R.wc.trans P.w0)⟩) (wx1 R P H hA hA hc hf4 hf47 hdl hrd)
  have mm : ∀ μ1, LJ μ1 → EqM μ μ1 → z_C d mi_X7_win [.ref 50] μ1 (fun r μ' => ∃ V, BM w q c sL lL true (tM1 (μ.1 67 1) (μ.1 69 1) (122 - μ.1 50 47 - μ.1 50 46) (μ.1 50 58) (decide (μ.1 68 1 = 1)) (decide (nI 1 = μ.1 50 40)) (!decide (μ.1 50 56 = 0))) (wdM (nI dl) (nI 1)) (nI rd) (deM μ 1 w q f) (bq V) ∧ ((decide (V.1 50 13 = 0) = true ∧ r = some (.int 0) ∧ SMj (z_ui μ1 50 0 0) μ') ∨ (decide (V.1 50 13 = 0) = false ∧ r = some (.int 1) ∧ SMj (wM1_1 μ1 V dl ((dl + 1) % 4) c) μ'))) := fun μ1 h1 qM => by
    have E : ∀ r k', gMc r k' → μ1.1 r k' = μ.1 r k' := fun r k' g => (qM r k' g).1
    exact gm_win1_1 d (by omega) μ1 h1.1.1 dl ((dl + 1) % 4) c ((E 50 45 (Or.inr ⟨rfl, by decide, by decide⟩)).trans P.tm) ((E 50 40 (Or.inr ⟨rfl, by decide, by decide⟩)).trans hdl) hdl4 rfl heq hc ((E 50 49 (Or.inr ⟨rfl, by decide, by decide⟩)).trans cm) (by rw [E 50 44 (Or.inr ⟨rfl, by decide, by decide⟩), hp1]; decide) (by rw [E 50 57 (Or.inr ⟨rfl, by decide, by decide⟩), P.jc rfl, if_neg (by omega)]; decide) _ (fun d hd => wmD1 P.t4 H hA hc hf4 hf47 hdl hrd _ (EqM_SVl (eqM_tr qM (t0_EqM μ1 0))) (a_H_ui h1.1.1 (bI_top _)) d hd)
  refine z_C_mono (zC_and d kx cc) (fun r μ1 qq => ?_)
  obtain ⟨⟨q1, qM⟩, q2⟩ := qq
  have eM : EqM μ (z_ui μ1 50 0 0) := eqM_tr qM (t0_EqM μ1 0)
  have m2 := mm μ1 q1 qM
  rcases q2 with ⟨b1, -, -⟩ | ⟨-, μj, ⟨j1, j2, j3, j4⟩, b2⟩
  · rw [P.px] at b1; exact absurd b1 (by decide)
  · have eb := fun (V : zM) hV => wb1 (b := bq V) R P H hA hc hf4 hdl4 hrd2 j4 hV
    rcases b2 with ⟨b3, b4, b5⟩ | ⟨b3, b4, b5⟩
    · refine go_in q1 km b4 (X := μ) (by rw [b5]; exact wo_EqX j2) (z_C_mono m2 (fun r μ' z => ?_))
      obtain ⟨V, hV, z⟩ := z
      have e0 : μj.1 4 0 = V.1 50 13 := (eb V hV).1
      rcases z with ⟨_, z2, z3⟩ | ⟨z1, -, -⟩
      · exact ⟨z2, hR.cg (eqX_rf _) (eqM_tr eM (sm_EqM z3))⟩
      · rw [← e0, b3] at z1; cases z1
    · refine go_in q1 km b4 (X := wn1 μj 1 dl ((dl + 1) % 4) 2 3 0) (by rw [b5]; exact eqX_rf _) (z_C_mono m2 (fun r μ' z => ?_))
      obtain ⟨V, hV, z⟩ := z
      have e0 : μj.1 4 0 = V.1 50 13 := (eb V hV).1
      rcases z with ⟨z1, -, -⟩ | ⟨_, z2, z3⟩
      · rw [← e0, b3] at z1; cases z1
      · refine ⟨z2, RG.cg (eqX_rf _) (sm_EqM z3) ?_⟩
        have P' := P.cg (wo_EqX j2) qM
        exact rg_win1_1 (R.cg (wo_EqX j2) qM) P'.fo (P'.tx.trans P'.tm.symm) ((qM 50 40 (Or.inr ⟨rfl, by decide, by decide⟩)).1.trans hdl) hdl4 rfl e0 (eb V hV).2.1 (eb V hV).2.2 j1
theorem lg_win1_0 {d : Nat} (hd : 705 ≤ d) {μ : zM} (hJ : LJ μ) (hR : RG μ μ) {c dl : Nat} (P : RPh μ μ 1 1 c) (hc : c < 34) (hdl4 : dl < 4) (hdl : μ.1 50 40 = nI dl) (heq : dl ≠ 1) (kx : z_C d mi_X6_win [.ref 0] μ (fun _ μ' => LJ μ' ∧ EqM μ μ')) (km : ∀ μ1, LJ μ1 → z_C d mi_X7_win [.ref 50] μ1 (fun _ μ' => LJ μ' ∧ EqX μ1 μ')) : GO d mi_X6_win mi_X7_win [.ref 0] [.ref 50] μ := by
  have hA := hJ.1.1
  have R := hR.1
  have hp1 : μ.1 50 44 = 1 := P.pm
  have G := hJ.1.2.2 (by rw [hp1]; decide)
  obtain ⟨w, aw, q, sL, lL, H⟩ := hf_of R P hA G P.t4
  have cx : μ.1 0 15 = nI c := P.cx.trans (if_neg (by omega))
  have cm : μ.1 50 49 = nI c := P.cm.trans (if_neg (by omega))
  obtain ⟨f, hf4, hf47⟩ := i_nat (v := μ.1 50 47) (n := 4) (hA 50 47).1 (hA 50 47).2 (by decide)
  obtain ⟨rd, hrd2, hrd⟩ : ∃ rd, rd < 2 ∧ μ.1 50 41 = nI rd := by
    rcases R.rd with e | e
    · exact ⟨0, by decide, e⟩
    · exact ⟨1, by decide, e⟩
  have cc := gc_win0 d (by omega) μ 1 dl ((dl + 1) % 4) c 2 3 0 (by decide) P.tx hdl4 rfl hc cx (by decide) (by decide) (by decide) (by decide) (by decide) (by decide) (fun e => heq e.symm) (fun μj => μj.1 0 15 = nI c ∧ WOj μ μj ∧ a_H μj ∧ BX w aw q c sL lL true (toX μ μ 1) (wiN 1 dl rd) (deM μ 1 w q f) (bqJ μj)) (fun m z => ⟨(z.2.1 0 8 (Or.inl (by decide))).1.trans P.tx, (z.2.1 0 9 (Or.inl (by decide))).1.trans (R.dl.trans hdl), (z.2.1 0 6 (Or.inl (by decide))).1.trans (R.wc.trans P.w0)⟩) (wx1 R P H hA hA hc hf4 hf47 hdl hrd)
  have mm : ∀ μ1, LJ μ1 → EqM μ μ1 → z_C d mi_X7_win [.ref 50] μ1 (fun r μ' => ∃ V, BM w q c sL lL true (tM1 (μ.1 67 1) (μ.1 69 1) (122 - μ.1 50 47 - μ.1 50 46) (μ.1 50 58) (decide (μ.1 68 1 = 1)) (decide (nI 1 = μ.1 50 40)) (!decide (μ.1 50 56 = 0))) (wdM (nI dl) (nI 1)) (nI rd) (deM μ 1 w q f) (bq V) ∧ ((decide (V.1 50 13 = 0) = true ∧ r = some (.int 0) ∧ SMj (z_ui μ1 50 0 0) μ') ∨ (decide (V.1 50 13 = 0) = false ∧ r = some (.int 1) ∧ SMj (wM1_0 μ1 V dl ((dl + 1) % 4) c) μ'))) := fun μ1 h1 qM => by
    have E : ∀ r k', gMc r k' → μ1.1 r k' = μ.1 r k' := fun r k' g => (qM r k' g).1
    exact gm_win1_0 d (by omega) μ1 h1.1.1 dl ((dl + 1) % 4) c ((E 50 45 (Or.inr ⟨rfl, by decide, by decide⟩)).trans P.tm) ((E 50 40 (Or.inr ⟨rfl, by decide, by decide⟩)).trans hdl) hdl4 rfl heq hc ((E 50 49 (Or.inr ⟨rfl, by decide, by decide⟩)).trans cm) (by rw [E 50 44 (Or.inr ⟨rfl, by decide, by decide⟩), hp1]; decide) (by rw [E 50 57 (Or.inr ⟨rfl, by decide, by decide⟩), P.jc rfl, if_neg (by omega)]; decide) _ (fun d hd => wmD1 P.t4 H hA hc hf4 hf47 hdl hrd _ (EqM_SVl (eqM_tr qM (t0_EqM μ1 0))) (a_H_ui h1.1.1 (bI_top _)) d hd)
  refine z_C_mono (zC_and d kx cc) (fun r μ1 qq => ?_)
  obtain ⟨⟨q1, qM⟩, q2⟩ := qq
  have eM : EqM μ (z_ui μ1 50 0 0) := eqM_tr qM (t0_EqM μ1 0)
  have m2 := mm μ1 q1 qM
  rcases q2 with ⟨b1, -, -⟩ | ⟨-, μj, ⟨j1, j2, j3, j4⟩, b2⟩
  · rw [P.px] at b1; exact absurd b1 (by decide)
  · have eb := fun (V : zM) hV => wb1 (b := bq V) R P H hA hc hf4 hdl4 hrd2 j4 hV
    rcases b2 with ⟨b3, b4, b5⟩ | ⟨b3, b4, b5⟩
    · refine go_in q1 km b4 (X := μ) (by rw [b5]; exact wo_EqX j2) (z_C_mono m2 (fun r μ' z => ?_))
      obtain ⟨V, hV, z⟩ := z
      have e0 : μj.1 4 0 = V.1 50 13 := (eb V hV).1
      rcases z with ⟨_, z2, z3⟩ | ⟨z1, -, -⟩
      · exact ⟨z2, hR.cg (eqX_rf _) (eqM_tr eM (sm_EqM z3))⟩
      · rw [← e0, b3] at z1; cases z1
    · refine go_in q1 km b4 (X := wn0 μj 1 dl ((dl + 1) % 4) 2 3 0) (by rw [b5]; exact eqX_rf _) (z_C_mono m2 (fun r μ' z => ?_))
      obtain ⟨V, hV, z⟩ := z
      have e0 : μj.1 4 0 = V.1 50 13 := (eb V hV).1
      rcases z with ⟨z1, -, -⟩ | ⟨_, z2, z3⟩
      · rw [← e0, b3] at z1; cases z1
      · refine ⟨z2, RG.cg (eqX_rf _) (sm_EqM z3) ?_⟩
        have P' := P.cg (wo_EqX j2) qM
        exact rg_win1_0 (R.cg (wo_EqX j2) qM) P'.fo (P'.tx.trans P'.tm.symm) ((qM 50 40 (Or.inr ⟨rfl, by decide, by decide⟩)).1.trans hdl) hdl4 rfl e0 (eb V hV).2.1 (eb V hV).2.2 j1
theorem lg_win2_1 {d : Nat} (hd : 705 ≤ d) {μ : zM} (hJ : LJ μ) (hR : RG μ μ) {c dl : Nat} (P : RPh μ μ 1 2 c) (hc : c < 34) (hdl4 : dl < 4) (hdl : μ.1 50 40 = nI dl) (heq : dl = 2) (kx : z_C d mi_X6_win [.ref 0] μ (fun _ μ' => LJ μ' ∧ EqM μ μ')) (km : ∀ μ1, LJ μ1 → z_C d mi_X7_win [.ref 50] μ1 (fun _ μ' => LJ μ' ∧ EqX μ1 μ')) : GO d mi_X6_win mi_X7_win [.ref 0] [.ref 50] μ := by
  have hA := hJ.1.1
  have R := hR.1
  have hp1 : μ.1 50 44 = 1 := P.pm
  have G := hJ.1.2.2 (by rw [hp1]; decide)
  obtain ⟨w, aw, q, sL, lL, H⟩ := hf_of R P hA G P.t4
  have cx : μ.1 0 15 = nI c := P.cx.trans (if_neg (by omega))
  have cm : μ.1 50 49 = nI c := P.cm.trans (if_neg (by omega))
  obtain ⟨f, hf4, hf47⟩ := i_nat (v := μ.1 50 47) (n := 4) (hA 50 47).1 (hA 50 47).2 (by decide)
  obtain ⟨rd, hrd2, hrd⟩ : ∃ rd, rd < 2 ∧ μ.1 50 41 = nI rd := by
    rcases R.rd with e | e
    · exact ⟨0, by decide, e⟩
    · exact ⟨1, by decide, e⟩
  have cc := gc_win1 d (by omega) μ 2 dl ((dl + 1) % 4) c 3 0 1 (by decide) P.tx hdl4 rfl hc cx (by decide) (by decide) (by decide) (by decide) (by decide) (by decide) heq.symm (fun μj => μj.1 0 15 = nI c ∧ WOj μ μj ∧ a_H μj ∧ BX w aw q c sL lL true (toX μ μ 2) (wiN 2 dl rd) (deM μ 2 w q f) (bqJ μj)) (fun m z => ⟨(z.2.1 0 8 (Or.inl (by decide))).1.trans P.tx, (z.2.1 0 9 (Or.inl (by decide))).1.trans (R.dl.trans hdl), (z.2.1 0 6 (Or.inl (by decide))).1.trans (R.wc.trans P.w0)⟩) (wx1 R P H hA hA hc hf4 hf47 hdl hrd)
  have mm : ∀ μ1, LJ μ1 → EqM μ μ1 → z_C d mi_X7_win [.ref 50] μ1 (fun r μ' => ∃ V, BM w q c sL lL true (tM1 (μ.1 67 2) (μ.1 69 2) (122 - μ.1 50 47 - μ.1 50 46) (μ.1 50 58) (decide (μ.1 68 2 = 1)) (decide (nI 2 = μ.1 50 40)) (!decide (μ.1 50 56 = 0))) (wdM (nI dl) (nI 2)) (nI rd) (deM μ 2 w q f) (bq V) ∧ ((decide (V.1 50 13 = 0) = true ∧ r = some (.int 0) ∧ SMj (z_ui μ1 50 0 0) μ') ∨ (decide (V.1 50 13 = 0) = false ∧ r = some (.int 1) ∧ SMj (wM2_1 μ1 V dl ((dl + 1) % 4) c) μ'))) := fun μ1 h1 qM => by
    have E : ∀ r k', gMc r k' → μ1.1 r k' = μ.1 r k' := fun r k' g => (qM r k' g).1
    exact gm_win2_1 d (by omega) μ1 h1.1.1 dl ((dl + 1) % 4) c ((E 50 45 (Or.inr ⟨rfl, by decide, by decide⟩)).trans P.tm) ((E 50 40 (Or.inr ⟨rfl, by decide, by decide⟩)).trans hdl) hdl4 rfl heq hc ((E 50 49 (Or.inr ⟨rfl, by decide, by decide⟩)).trans cm) (by rw [E 50 44 (Or.inr ⟨rfl, by decide, by decide⟩), hp1]; decide) (by rw [E 50 57 (Or.inr ⟨rfl, by decide, by decide⟩), P.jc rfl, if_neg (by omega)]; decide) _ (fun d hd => wmD1 P.t4 H hA hc hf4 hf47 hdl hrd _ (EqM_SVl (eqM_tr qM (t0_EqM μ1 0))) (a_H_ui h1.1.1 (bI_top _)) d hd)
  refine z_C_mono (zC_and d kx cc) (fun r μ1 qq => ?_)
  obtain ⟨⟨q1, qM⟩, q2⟩ := qq
  have eM : EqM μ (z_ui μ1 50 0 0) := eqM_tr qM (t0_EqM μ1 0)
  have m2 := mm μ1 q1 qM
  rcases q2 with ⟨b1, -, -⟩ | ⟨-, μj, ⟨j1, j2, j3, j4⟩, b2⟩
  · rw [P.px] at b1; exact absurd b1 (by decide)
  · have eb := fun (V : zM) hV => wb1 (b := bq V) R P H hA hc hf4 hdl4 hrd2 j4 hV
    rcases b2 with ⟨b3, b4, b5⟩ | ⟨b3, b4, b5⟩
    · refine go_in q1 km b4 (X := μ) (by rw [b5]; exact wo_EqX j2) (z_C_mono m2 (fun r μ' z => ?_))
      obtain ⟨V, hV, z⟩ := z
      have e0 : μj.1 4 0 = V.1 50 13 := (eb V hV).1
      rcases z with ⟨_, z2, z3⟩ | ⟨z1, -, -⟩
      · exact ⟨z2, hR.cg (eqX_rf _) (eqM_tr eM (sm_EqM z3))⟩
      · rw [← e0, b3] at z1; cases z1
    · refine go_in q1 km b4 (X := wn1 μj 2 dl ((dl + 1) % 4) 3 0 1) (by rw [b5]; exact eqX_rf _) (z_C_mono m2 (fun r μ' z => ?_))
      obtain ⟨V, hV, z⟩ := z
      have e0 : μj.1 4 0 = V.1 50 13 := (eb V hV).1
      rcases z with ⟨z1, -, -⟩ | ⟨_, z2, z3⟩
      · rw [← e0, b3] at z1; cases z1
      · refine ⟨z2, RG.cg (eqX_rf _) (sm_EqM z3) ?_⟩
        have P' := P.cg (wo_EqX j2) qM
        exact rg_win2_1 (R.cg (wo_EqX j2) qM) P'.fo (P'.tx.trans P'.tm.symm) ((qM 50 40 (Or.inr ⟨rfl, by decide, by decide⟩)).1.trans hdl) hdl4 rfl e0 (eb V hV).2.1 (eb V hV).2.2 j1
theorem lg_win2_0 {d : Nat} (hd : 705 ≤ d) {μ : zM} (hJ : LJ μ) (hR : RG μ μ) {c dl : Nat} (P : RPh μ μ 1 2 c) (hc : c < 34) (hdl4 : dl < 4) (hdl : μ.1 50 40 = nI dl) (heq : dl ≠ 2) (kx : z_C d mi_X6_win [.ref 0] μ (fun _ μ' => LJ μ' ∧ EqM μ μ')) (km : ∀ μ1, LJ μ1 → z_C d mi_X7_win [.ref 50] μ1 (fun _ μ' => LJ μ' ∧ EqX μ1 μ')) : GO d mi_X6_win mi_X7_win [.ref 0] [.ref 50] μ := by
  have hA := hJ.1.1
  have R := hR.1
  have hp1 : μ.1 50 44 = 1 := P.pm
  have G := hJ.1.2.2 (by rw [hp1]; decide)
  obtain ⟨w, aw, q, sL, lL, H⟩ := hf_of R P hA G P.t4
  have cx : μ.1 0 15 = nI c := P.cx.trans (if_neg (by omega))
  have cm : μ.1 50 49 = nI c := P.cm.trans (if_neg (by omega))
  obtain ⟨f, hf4, hf47⟩ := i_nat (v := μ.1 50 47) (n := 4) (hA 50 47).1 (hA 50 47).2 (by decide)
  obtain ⟨rd, hrd2, hrd⟩ : ∃ rd, rd < 2 ∧ μ.1 50 41 = nI rd := by
    rcases R.rd with e | e
    · exact ⟨0, by decide, e⟩
    · exact ⟨1, by decide, e⟩
  have cc := gc_win0 d (by omega) μ 2 dl ((dl + 1) % 4) c 3 0 1 (by decide) P.tx hdl4 rfl hc cx (by decide) (by decide) (by decide) (by decide) (by decide) (by decide) (fun e => heq e.symm) (fun μj => μj.1 0 15 = nI c ∧ WOj μ μj ∧ a_H μj ∧ BX w aw q c sL lL true (toX μ μ 2) (wiN 2 dl rd) (deM μ 2 w q f) (bqJ μj)) (fun m z => ⟨(z.2.1 0 8 (Or.inl (by decide))).1.trans P.tx, (z.2.1 0 9 (Or.inl (by decide))).1.trans (R.dl.trans hdl), (z.2.1 0 6 (Or.inl (by decide))).1.trans (R.wc.trans P.w0)⟩) (wx1 R P H hA hA hc hf4 hf47 hdl hrd)
  have mm : ∀ μ1, LJ μ1 → EqM μ μ1 → z_C d mi_X7_win [.ref 50] μ1 (fun r μ' => ∃ V, BM w q c sL lL true (tM1 (μ.1 67 2) (μ.1 69 2) (122 - μ.1 50 47 - μ.1 50 46) (μ.1 50 58) (decide (μ.1 68 2 = 1)) (decide (nI 2 = μ.1 50 40)) (!decide (μ.1 50 56 = 0))) (wdM (nI dl) (nI 2)) (nI rd) (deM μ 2 w q f) (bq V) ∧ ((decide (V.1 50 13 = 0) = true ∧ r = some (.int 0) ∧ SMj (z_ui μ1 50 0 0) μ') ∨ (decide (V.1 50 13 = 0) = false ∧ r = some (.int 1) ∧ SMj (wM2_0 μ1 V dl ((dl + 1) % 4) c) μ'))) := fun μ1 h1 qM => by
    have E : ∀ r k', gMc r k' → μ1.1 r k' = μ.1 r k' := fun r k' g => (qM r k' g).1
    exact gm_win2_0 d (by omega) μ1 h1.1.1 dl ((dl + 1) % 4) c ((E 50 45 (Or.inr ⟨rfl, by decide, by decide⟩)).trans P.tm) ((E 50 40 (Or.inr ⟨rfl, by decide, by decide⟩)).trans hdl) hdl4 rfl heq hc ((E 50 49 (Or.inr ⟨rfl, by decide, by decide⟩)).trans cm) (by rw [E 50 44 (Or.inr ⟨rfl, by decide, by decide⟩), hp1]; decide) (by rw [E 50 57 (Or.inr ⟨rfl, by decide, by decide⟩), P.jc rfl, if_neg (by omega)]; decide) _ (fun d hd => wmD1 P.t4 H hA hc hf4 hf47 hdl hrd _ (EqM_SVl (eqM_tr qM (t0_EqM μ1 0))) (a_H_ui h1.1.1 (bI_top _)) d hd)
  refine z_C_mono (zC_and d kx cc) (fun r μ1 qq => ?_)
  obtain ⟨⟨q1, qM⟩, q2⟩ := qq
  have eM : EqM μ (z_ui μ1 50 0 0) := eqM_tr qM (t0_EqM μ1 0)
  have m2 := mm μ1 q1 qM
  rcases q2 with ⟨b1, -, -⟩ | ⟨-, μj, ⟨j1, j2, j3, j4⟩, b2⟩
  · rw [P.px] at b1; exact absurd b1 (by decide)
  · have eb := fun (V : zM) hV => wb1 (b := bq V) R P H hA hc hf4 hdl4 hrd2 j4 hV
    rcases b2 with ⟨b3, b4, b5⟩ | ⟨b3, b4, b5⟩
    · refine go_in q1 km b4 (X := μ) (by rw [b5]; exact wo_EqX j2) (z_C_mono m2 (fun r μ' z => ?_))
      obtain ⟨V, hV, z⟩ := z
      have e0 : μj.1 4 0 = V.1 50 13 := (eb V hV).1
      rcases z with ⟨_, z2, z3⟩ | ⟨z1, -, -⟩
      · exact ⟨z2, hR.cg (eqX_rf _) (eqM_tr eM (sm_EqM z3))⟩
      · rw [← e0, b3] at z1; cases z1
    · refine go_in q1 km b4 (X := wn0 μj 2 dl ((dl + 1) % 4) 3 0 1) (by rw [b5]; exact eqX_rf _) (z_C_mono m2 (fun r μ' z => ?_))
      obtain ⟨V, hV, z⟩ := z
      have e0 : μj.1 4 0 = V.1 50 13 := (eb V hV).1
      rcases z with ⟨z1, -, -⟩ | ⟨_, z2, z3⟩
      · rw [← e0, b3] at z1; cases z1
      · refine ⟨z2, RG.cg (eqX_rf _) (sm_EqM z3) ?_⟩
        have P' := P.cg (wo_EqX j2) qM
        exact rg_win2_0 (R.cg (wo_EqX j2) qM) P'.fo (P'.tx.trans P'.tm.symm) ((qM 50 40 (Or.inr ⟨rfl, by decide, by decide⟩)).1.trans hdl) hdl4 rfl e0 (eb V hV).2.1 (eb V hV).2.2 j1
theorem lg_win3_1 {d : Nat} (hd : 705 ≤ d) {μ : zM} (hJ : LJ μ) (hR : RG μ μ) {c dl : Nat} (P : RPh μ μ 1 3 c) (hc : c < 34) (hdl4 : dl < 4) (hdl : μ.1 50 40 = nI dl) (heq : dl = 3) (kx : z_C d mi_X6_win [.ref 0] μ (fun _ μ' => LJ μ' ∧ EqM μ μ')) (km : ∀ μ1, LJ μ1 → z_C d mi_X7_win [.ref 50] μ1 (fun _ μ' => LJ μ' ∧ EqX μ1 μ')) : GO d mi_X6_win mi_X7_win [.ref 0] [.ref 50] μ := by
  have hA := hJ.1.1
  have R := hR.1
  have hp1 : μ.1 50 44 = 1 := P.pm
  have G := hJ.1.2.2 (by rw [hp1]; decide)
  obtain ⟨w, aw, q, sL, lL, H⟩ := hf_of R P hA G P.t4
  have cx : μ.1 0 15 = nI c := P.cx.trans (if_neg (by omega))
  have cm : μ.1 50 49 = nI c := P.cm.trans (if_neg (by omega))
  obtain ⟨f, hf4, hf47⟩ := i_nat (v := μ.1 50 47) (n := 4) (hA 50 47).1 (hA 50 47).2 (by decide)
  obtain ⟨rd, hrd2, hrd⟩ : ∃ rd, rd < 2 ∧ μ.1 50 41 = nI rd := by
    rcases R.rd with e | e
    · exact ⟨0, by decide, e⟩
    · exact ⟨1, by decide, e⟩
  have cc := gc_win1 d (by omega) μ 3 dl ((dl + 1) % 4) c 0 1 2 (by decide) P.tx hdl4 rfl hc cx (by decide) (by decide) (by decide) (by decide) (by decide) (by decide) heq.symm (fun μj => μj.1 0 15 = nI c ∧ WOj μ μj ∧ a_H μj ∧ BX w aw q c sL lL true (toX μ μ 3) (wiN 3 dl rd) (deM μ 3 w q f) (bqJ μj)) (fun m z => ⟨(z.2.1 0 8 (Or.inl (by decide))).1.trans P.tx, (z.2.1 0 9 (Or.inl (by decide))).1.trans (R.dl.trans hdl), (z.2.1 0 6 (Or.inl (by decide))).1.trans (R.wc.trans P.w0)⟩) (wx1 R P H hA hA hc hf4 hf47 hdl hrd)
  have mm : ∀ μ1, LJ μ1 → EqM μ μ1 → z_C d mi_X7_win [.ref 50] μ1 (fun r μ' => ∃ V, BM w q c sL lL true (tM1 (μ.1 67 3) (μ.1 69 3) (122 - μ.1 50 47 - μ.1 50 46) (μ.1 50 58) (decide (μ.1 68 3 = 1)) (decide (nI 3 = μ.1 50 40)) (!decide (μ.1 50 56 = 0))) (wdM (nI dl) (nI 3)) (nI rd) (deM μ 3 w q f) (bq V) ∧ ((decide (V.1 50 13 = 0) = true ∧ r = some (.int 0) ∧ SMj (z_ui μ1 50 0 0) μ') ∨ (decide (V.1 50 13 = 0) = false ∧ r = some (.int 1) ∧ SMj (wM3_1 μ1 V dl ((dl + 1) % 4) c) μ'))) := fun μ1 h1 qM => by
    have E : ∀ r k', gMc r k' → μ1.1 r k' = μ.1 r k' := fun r k' g => (qM r k' g).1
    exact gm_win3_1 d (by omega) μ1 h1.1.1 dl ((dl + 1) % 4) c ((E 50 45 (Or.inr ⟨rfl, by decide, by decide⟩)).trans P.tm) ((E 50 40 (Or.inr ⟨rfl, by decide, by decide⟩)).trans hdl) hdl4 rfl heq hc ((E 50 49 (Or.inr ⟨rfl, by decide, by decide⟩)).trans cm) (by rw [E 50 44 (Or.inr ⟨rfl, by decide, by decide⟩), hp1]; decide) (by rw [E 50 57 (Or.inr ⟨rfl, by decide, by decide⟩), P.jc rfl, if_neg (by omega)]; decide) _ (fun d hd => wmD1 P.t4 H hA hc hf4 hf47 hdl hrd _ (EqM_SVl (eqM_tr qM (t0_EqM μ1 0))) (a_H_ui h1.1.1 (bI_top _)) d hd)
  refine z_C_mono (zC_and d kx cc) (fun r μ1 qq => ?_)
  obtain ⟨⟨q1, qM⟩, q2⟩ := qq
  have eM : EqM μ (z_ui μ1 50 0 0) := eqM_tr qM (t0_EqM μ1 0)
  have m2 := mm μ1 q1 qM
  rcases q2 with ⟨b1, -, -⟩ | ⟨-, μj, ⟨j1, j2, j3, j4⟩, b2⟩
  · rw [P.px] at b1; exact absurd b1 (by decide)
  · have eb := fun (V : zM) hV => wb1 (b := bq V) R P H hA hc hf4 hdl4 hrd2 j4 hV
    rcases b2 with ⟨b3, b4, b5⟩ | ⟨b3, b4, b5⟩
    · refine go_in q1 km b4 (X := μ) (by rw [b5]; exact wo_EqX j2) (z_C_mono m2 (fun r μ' z => ?_))
      obtain ⟨V, hV, z⟩ := z
      have e0 : μj.1 4 0 = V.1 50 13 := (eb V hV).1
      rcases z with ⟨_, z2, z3⟩ | ⟨z1, -, -⟩
      · exact ⟨z2, hR.cg (eqX_rf _) (eqM_tr eM (sm_EqM z3))⟩
      · rw [← e0, b3] at z1; cases z1
    · refine go_in q1 km b4 (X := wn1 μj 3 dl ((dl + 1) % 4) 0 1 2) (by rw [b5]; exact eqX_rf _) (z_C_mono m2 (fun r μ' z => ?_))
      obtain ⟨V, hV, z⟩ := z
      have e0 : μj.1 4 0 = V.1 50 13 := (eb V hV).1
      rcases z with ⟨z1, -, -⟩ | ⟨_, z2, z3⟩
      · rw [← e0, b3] at z1; cases z1
      · refine ⟨z2, RG.cg (eqX_rf _) (sm_EqM z3) ?_⟩
        have P' := P.cg (wo_EqX j2) qM
        exact rg_win3_1 (R.cg (wo_EqX j2) qM) P'.fo (P'.tx.trans P'.tm.symm) ((qM 50 40 (Or.inr ⟨rfl, by decide, by decide⟩)).1.trans hdl) hdl4 rfl e0 (eb V hV).2.1 (eb V hV).2.2 j1
theorem lg_win3_0 {d : Nat} (hd : 705 ≤ d) {μ : zM} (hJ : LJ μ) (hR : RG μ μ) {c dl : Nat} (P : RPh μ μ 1 3 c) (hc : c < 34) (hdl4 : dl < 4) (hdl : μ.1 50 40 = nI dl) (heq : dl ≠ 3) (kx : z_C d mi_X6_win [.ref 0] μ (fun _ μ' => LJ μ' ∧ EqM μ μ')) (km : ∀ μ1, LJ μ1 → z_C d mi_X7_win [.ref 50] μ1 (fun _ μ' => LJ μ' ∧ EqX μ1 μ')) : GO d mi_X6_win mi_X7_win [.ref 0] [.ref 50] μ := by
  have hA := hJ.1.1
  have R := hR.1
  have hp1 : μ.1 50 44 = 1 := P.pm
  have G := hJ.1.2.2 (by rw [hp1]; decide)
  obtain ⟨w, aw, q, sL, lL, H⟩ := hf_of R P hA G P.t4
  have cx : μ.1 0 15 = nI c := P.cx.trans (if_neg (by omega))
  have cm : μ.1 50 49 = nI c := P.cm.trans (if_neg (by omega))
  obtain ⟨f, hf4, hf47⟩ := i_nat (v := μ.1 50 47) (n := 4) (hA 50 47).1 (hA 50 47).2 (by decide)
  obtain ⟨rd, hrd2, hrd⟩ : ∃ rd, rd < 2 ∧ μ.1 50 41 = nI rd := by
    rcases R.rd with e | e
    · exact ⟨0, by decide, e⟩
    · exact ⟨1, by decide, e⟩
  have cc := gc_win0 d (by omega) μ 3 dl ((dl + 1) % 4) c 0 1 2 (by decide) P.tx hdl4 rfl hc cx (by decide) (by decide) (by decide) (by decide) (by decide) (by decide) (fun e => heq e.symm) (fun μj => μj.1 0 15 = nI c ∧ WOj μ μj ∧ a_H μj ∧ BX w aw q c sL lL true (toX μ μ 3) (wiN 3 dl rd) (deM μ 3 w q f) (bqJ μj)) (fun m z => ⟨(z.2.1 0 8 (Or.inl (by decide))).1.trans P.tx, (z.2.1 0 9 (Or.inl (by decide))).1.trans (R.dl.trans hdl), (z.2.1 0 6 (Or.inl (by decide))).1.trans (R.wc.trans P.w0)⟩) (wx1 R P H hA hA hc hf4 hf47 hdl hrd)
  have mm : ∀ μ1, LJ μ1 → EqM μ μ1 → z_C d mi_X7_win [.ref 50] μ1 (fun r μ' => ∃ V, BM w q c sL lL true (tM1 (μ.1 67 3) (μ.1 69 3) (122 - μ.1 50 47 - μ.1 50 46) (μ.1 50 58) (decide (μ.1 68 3 = 1)) (decide (nI 3 = μ.1 50 40)) (!decide (μ.1 50 56 = 0))) (wdM (nI dl) (nI 3)) (nI rd) (deM μ 3 w q f) (bq V) ∧ ((decide (V.1 50 13 = 0) = true ∧ r = some (.int 0) ∧ SMj (z_ui μ1 50 0 0) μ') ∨ (decide (V.1 50 13 = 0) = false ∧ r = some (.int 1) ∧ SMj (wM3_0 μ1 V dl ((dl + 1) % 4) c) μ'))) := fun μ1 h1 qM => by
    have E : ∀ r k', gMc r k' → μ1.1 r k' = μ.1 r k' := fun r k' g => (qM r k' g).1
    exact gm_win3_0 d (by omega) μ1 h1.1.1 dl ((dl + 1) % 4) c ((E 50 45 (Or.inr ⟨rfl, by decide, by decide⟩)).trans P.tm) ((E 50 40 (Or.inr ⟨rfl, by decide, by decide⟩)).trans hdl) hdl4 rfl heq hc ((E 50 49 (Or.inr ⟨rfl, by decide, by decide⟩)).trans cm) (by rw [E 50 44 (Or.inr ⟨rfl, by decide, by decide⟩), hp1]; decide) (by rw [E 50 57 (Or.inr ⟨rfl, by decide, by decide⟩), P.jc rfl, if_neg (by omega)]; decide) _ (fun d hd => wmD1 P.t4 H hA hc hf4 hf47 hdl hrd _ (EqM_SVl (eqM_tr qM (t0_EqM μ1 0))) (a_H_ui h1.1.1 (bI_top _)) d hd)
  refine z_C_mono (zC_and d kx cc) (fun r μ1 qq => ?_)
  obtain ⟨⟨q1, qM⟩, q2⟩ := qq
  have eM : EqM μ (z_ui μ1 50 0 0) := eqM_tr qM (t0_EqM μ1 0)
  have m2 := mm μ1 q1 qM
  rcases q2 with ⟨b1, -, -⟩ | ⟨-, μj, ⟨j1, j2, j3, j4⟩, b2⟩
  · rw [P.px] at b1; exact absurd b1 (by decide)
  · have eb := fun (V : zM) hV => wb1 (b := bq V) R P H hA hc hf4 hdl4 hrd2 j4 hV
    rcases b2 with ⟨b3, b4, b5⟩ | ⟨b3, b4, b5⟩
    · refine go_in q1 km b4 (X := μ) (by rw [b5]; exact wo_EqX j2) (z_C_mono m2 (fun r μ' z => ?_))
      obtain ⟨V, hV, z⟩ := z
      have e0 : μj.1 4 0 = V.1 50 13 := (eb V hV).1
      rcases z with ⟨_, z2, z3⟩ | ⟨z1, -, -⟩
      · exact ⟨z2, hR.cg (eqX_rf _) (eqM_tr eM (sm_EqM z3))⟩
      · rw [← e0, b3] at z1; cases z1
    · refine go_in q1 km b4 (X := wn0 μj 3 dl ((dl + 1) % 4) 0 1 2) (by rw [b5]; exact eqX_rf _) (z_C_mono m2 (fun r μ' z => ?_))
      obtain ⟨V, hV, z⟩ := z
      have e0 : μj.1 4 0 = V.1 50 13 := (eb V hV).1
      rcases z with ⟨z1, -, -⟩ | ⟨_, z2, z3⟩
      · rw [← e0, b3] at z1; cases z1
      · refine ⟨z2, RG.cg (eqX_rf _) (sm_EqM z3) ?_⟩
        have P' := P.cg (wo_EqX j2) qM
        exact rg_win3_0 (R.cg (wo_EqX j2) qM) P'.fo (P'.tx.trans P'.tm.symm) ((qM 50 40 (Or.inr ⟨rfl, by decide, by decide⟩)).1.trans hdl) hdl4 rfl e0 (eb V hV).2.1 (eb V hV).2.2 j1
theorem lg_win {d : Nat} (hd : 705 ≤ d) {μ : zM} (h : LGm μ) : GO d mi_X6_win mi_X7_win [.ref 0] [.ref 50] μ := by
  obtain ⟨hJ, hR⟩ := h
  have kx : z_C d mi_X6_win [.ref 0] μ (fun _ μ' => LJ μ' ∧ EqM μ μ') := lg_k (i := 66) (K := ak_66) rfl (by omega) (by decide +kernel) (by decide +kernel) rfl (by decide +kernel) [.ref 0] μ hJ ⟨⟨0, by decide, rfl⟩, trivial⟩
  have km : ∀ μ1, LJ μ1 → z_C d mi_X7_win [.ref 50] μ1 (fun _ μ' => LJ μ' ∧ EqX μ1 μ') := fun μ1 h => lg_e h (fc_X7_win d (by omega) μ1 h.1.1 h.1.2.1 (fun h1 h2 => (h.1.2.2 (by rw [h1]; decide)).2.2.2.2.1 (fun _ => h2)))
  have hA := hJ.1.1
  rcases hR.2 with ⟨p1, p2, -, -, -⟩ | ⟨p, t, c, P⟩
  · exact go_no hR kx km (gx_winP d (by omega) μ (by rw [p1]; decide)) (mr_winP d (by omega) μ (by rw [p2]; decide))
  by_cases hp : p = 1
  · subst hp
    rcases P.c3 with hc | ⟨hc, _⟩
    · obtain ⟨dl, hdl4, hdl⟩ := dealer_nI hA
      obtain rfl | rfl | rfl | rfl := t_four P.t4
      · by_cases he : dl = 0
        · exact lg_win0_1 hd hJ hR P hc hdl4 hdl he kx km
        · exact lg_win0_0 hd hJ hR P hc hdl4 hdl he kx km
      · by_cases he : dl = 1
        · exact lg_win1_1 hd hJ hR P hc hdl4 hdl he kx km
        · exact lg_win1_0 hd hJ hR P hc hdl4 hdl he kx km
      · by_cases he : dl = 2
        · exact lg_win2_1 hd hJ hR P hc hdl4 hdl he kx km
        · exact lg_win2_0 hd hJ hR P hc hdl4 hdl he kx km
      · by_cases he : dl = 3
        · exact lg_win3_1 hd hJ hR P hc hdl4 hdl he kx km
        · exact lg_win3_0 hd hJ hR P hc hdl4 hdl he kx km
    · exact go_no hR kx km (gx_winT d (by omega) μ (by rw [P.px]; decide) (by rw [P.cx, if_pos hc]; decide)) (mr_winT d (by omega) μ (by rw [P.pm]; decide) (by rw [P.jc rfl, if_pos hc]; decide))
  · have e : ∀ v : Int32, v = nI p → decide (v = 1) = false := fun v hv => by
      rcases P.p3 with q | q | q
      · exact absurd q hp
      · rw [hv, q]; decide
      · rw [hv, q]; decide
    exact go_no hR kx km (gx_winP d (by omega) μ (e _ P.px)) (mr_winP d (by omega) μ (e _ P.pm))

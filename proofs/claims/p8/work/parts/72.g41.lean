/-! may a FOUR be made, a SET be claimed: of the reference -/
set_option maxRecDepth 8000
theorem gm_mayMake (d : Nat) (hd : 2 ≤ d) (μ : zM) (t : Nat) (ht4 : t < 4) (ht : μ.1 50 45 = nI t) : z_C d mi_X7_mayMake [.ref 50] μ (zR μ (.int (nB ((decide ((μ.1 50 44) = 1)) && ((decide ((μ.1 50 57) = 0)) && ((decide ((μ.1 67 t) = 0)) && (!(decide (((122 - (μ.1 50 47)) - (μ.1 50 46)) ≤ 0)) && (!(decide (4 ≤ (μ.1 50 47))))))))))) := by
  refine z_C_in (by decide) (by omega) (fun d' Z ed hc hr => ?_)
  have hH : zH mi_X7_mayMake zt_X7_mayMake 79 7 1 := hh_X7_mayMake
  refine z_rcs hc hH 1 (pc' := 1) (lv' := [(0, .ref 50)]) (st' := [.ref 50]) (μ' := μ) (by rfl) ?_
  refine zq_gfi hc hH (by rfl) (ci := 6) (f := 44) (by rfl) (by decide +kernel) (by rfl) ?_
  refine z_rcs hc hH 1 (pc' := 5) (lv' := [(0, .ref 50)]) (st' := [.int 1, .int (μ.1 50 44)]) (μ' := μ) (by rfl) ?_
  have hJ1 : Z 0 47 [(0, .ref 50)] [.int (nB ((decide ((μ.1 50 44) = 1)) && ((decide ((μ.1 50 57) = 0)) && ((decide ((μ.1 67 t) = 0)) && (!(decide (((122 - (μ.1 50 47)) - (μ.1 50 46)) ≤ 0)) && (!(decide (4 ≤ (μ.1 50 47)))))))))] μ := by
    generalize hee2 : ((decide ((μ.1 50 44) = 1)) && ((decide ((μ.1 50 57) = 0)) && ((decide ((μ.1 67 t) = 0)) && (!(decide (((122 - (μ.1 50 47)) - (μ.1 50 46)) ≤ 0)) && (!(decide (4 ≤ (μ.1 50 47)))))))) = ee2
    exact hr 0 47 _ _ _ (some (.int (nB ee2))) (by decide +kernel) ((fun b : Bool => (by cases b <;> rfl : z_rn mi_X7_mayMake 47 [.int (nB b)] = some (some (.int (nB b))))) ee2) (⟨rfl, (by subst hee2; rfl)⟩)
  refine zq_ic hc hH (by rfl) (tg := 46) (by rfl) (fun h3 => ?_) (fun h3 => ?_)
  · have h3 : (decide ((μ.1 50 44) = 1)) = false := decide_eq_false (cm_ne.mp h3)
    refine z_rcs hc hH 1 (pc' := 47) (lv' := [(0, .ref 50)]) (st' := [.int 0]) (μ' := μ) (by rfl) ?_
    exact zJ hJ1 rfl (by first | with_reducible rfl | (simp only [h3, lb_f, Int64.or_zero, Int32.add_zero, nB_t, nB_f, Bool.not_true, Bool.not_false, Bool.and_true, Bool.true_and, Bool.false_and, Bool.and_false, Bool.or_true, Bool.true_or, Bool.false_or, Bool.or_false, cond_true, cond_false]; done) | rfl) rfl
  · have h3 : (decide ((μ.1 50 44) = 1)) = true := decide_eq_true (cn_ne.mp h3)
    refine z_rcs hc hH 1 (pc' := 9) (lv' := [(0, .ref 50)]) (st' := [.ref 50]) (μ' := μ) (by rfl) ?_
    refine zq_gfi hc hH (by rfl) (ci := 6) (f := 57) (by rfl) (by decide +kernel) (by rfl) ?_
    refine zq_if hc hH (by rfl) (tg := 46) (by rfl) (fun h4 => ?_) (fun h4 => ?_)
    · have h4 : (decide ((μ.1 50 57) = 0)) = false := decide_eq_false (cm_ne.mp h4)
      refine z_rcs hc hH 1 (pc' := 47) (lv' := [(0, .ref 50)]) (st' := [.int 0]) (μ' := μ) (by rfl) ?_
      exact zJ hJ1 rfl (by first | with_reducible rfl | (simp only [h3, h4, lb_f, Int64.or_zero, Int32.add_zero, nB_t, nB_f, Bool.not_true, Bool.not_false, Bool.and_true, Bool.true_and, Bool.false_and, Bool.and_false, Bool.or_true, Bool.true_or, Bool.false_or, Bool.or_false, cond_true, cond_false]; done) | rfl) rfl
    · have h4 : (decide ((μ.1 50 57) = 0)) = true := decide_eq_true (cn_ne.mp h4)
      refine z_rcs hc hH 1 (pc' := 16) (lv' := [(0, .ref 50)]) (st' := [.ref 50]) (μ' := μ) (by rfl) ?_
      refine zq_gfr hc hH (by rfl) (ci := 6) (f := 35) (q := 67) (by rfl) (by decide +kernel) (by rfl) (by decide +kernel) ?_
      refine z_rcs hc hH 1 (pc' := 20) (lv' := [(0, .ref 50)]) (st' := [.ref 50, .ref 67]) (μ' := μ) (by rfl) ?_
      refine zq_gfi hc hH (by rfl) (ci := 6) (f := 45) (by rfl) (by decide +kernel) (by rfl) ?_
      rw [ht]
      refine zq_iald hc hH (by rfl) 4 (oka_i (by decide +kernel)) (vp_in_nI (by omega) (by decide)) ?_
      rw [nI_clamp (by omega)]
      refine zq_if hc hH (by rfl) (tg := 46) (by rfl) (fun h5 => ?_) (fun h5 => ?_)
      · have h5 : (decide ((μ.1 67 t) = 0)) = false := decide_eq_false (cm_ne.mp h5)
        refine z_rcs hc hH 1 (pc' := 47) (lv' := [(0, .ref 50)]) (st' := [.int 0]) (μ' := μ) (by rfl) ?_
        exact zJ hJ1 rfl (by first | with_reducible rfl | (simp only [h3, h4, h5, lb_f, Int64.or_zero, Int32.add_zero, nB_t, nB_f, Bool.not_true, Bool.not_false, Bool.and_true, Bool.true_and, Bool.false_and, Bool.and_false, Bool.or_true, Bool.true_or, Bool.false_or, Bool.or_false, cond_true, cond_false]; done) | rfl) rfl
      · have h5 : (decide ((μ.1 67 t) = 0)) = true := decide_eq_true (cn_ne.mp h5)
        refine z_rcs hc hH 1 (pc' := 28) (lv' := [(0, .ref 50)]) (st' := [.ref 50]) (μ' := μ) (by rfl) ?_
        refine zq_call hc (z_cx_ok hH (by rfl)) (fc_X7_left d' (by omega) μ) (by decide +kernel) (fun r9 μ9 hq => ?_)
        obtain ⟨hμ9, rfl⟩ := hq
        rw [hμ9]
        clear hμ9 μ9
        show Z 0 31 [(0, .ref 50)] [.int ((122 - (μ.1 50 47)) - (μ.1 50 46))] μ
        refine zq_if hc hH (by rfl) (tg := 46) (by rfl) (fun h6 => ?_) (fun h6 => ?_)
        · have h6 : (decide (((122 - (μ.1 50 47)) - (μ.1 50 46)) ≤ 0)) = true := decide_eq_true (cm_le.mp h6)
          refine z_rcs hc hH 1 (pc' := 47) (lv' := [(0, .ref 50)]) (st' := [.int 0]) (μ' := μ) (by rfl) ?_
          exact zJ hJ1 rfl (by first | with_reducible rfl | (simp only [h3, h4, h5, h6, lb_f, Int64.or_zero, Int32.add_zero, nB_t, nB_f, Bool.not_true, Bool.not_false, Bool.and_true, Bool.true_and, Bool.false_and, Bool.and_false, Bool.or_true, Bool.true_or, Bool.false_or, Bool.or_false, cond_true, cond_false]; done) | rfl) rfl
        · have h6 : (decide (((122 - (μ.1 50 47)) - (μ.1 50 46)) ≤ 0)) = false := decide_eq_false (cn_le.mp h6)
          refine z_rcs hc hH 1 (pc' := 35) (lv' := [(0, .ref 50)]) (st' := [.ref 50]) (μ' := μ) (by rfl) ?_
          refine zq_gfi hc hH (by rfl) (ci := 6) (f := 47) (by rfl) (by decide +kernel) (by rfl) ?_
          refine z_rcs hc hH 1 (pc' := 39) (lv' := [(0, .ref 50)]) (st' := [.int 4, .int (μ.1 50 47)]) (μ' := μ) (by rfl) ?_
          refine zq_ic hc hH (by rfl) (tg := 46) (by rfl) (fun h7 => ?_) (fun h7 => ?_)
          · have h7 : (decide (4 ≤ (μ.1 50 47))) = true := decide_eq_true (cm_ge.mp h7)
            refine z_rcs hc hH 1 (pc' := 47) (lv' := [(0, .ref 50)]) (st' := [.int 0]) (μ' := μ) (by rfl) ?_
            exact zJ hJ1 rfl (by first | with_reducible rfl | (simp only [h3, h4, h5, h6, h7, lb_f, Int64.or_zero, Int32.add_zero, nB_t, nB_f, Bool.not_true, Bool.not_false, Bool.and_true, Bool.true_and, Bool.false_and, Bool.and_false, Bool.or_true, Bool.true_or, Bool.false_or, Bool.or_false, cond_true, cond_false]; done) | rfl) rfl
          · have h7 : (decide (4 ≤ (μ.1 50 47))) = false := decide_eq_false (cn_ge.mp h7)
            refine z_rcs hc hH 2 (pc' := 47) (lv' := [(0, .ref 50)]) (st' := [.int 1]) (μ' := μ) (by rfl) ?_
            exact zJ hJ1 rfl (by first | with_reducible rfl | (simp only [h3, h4, h5, h6, h7, lb_f, Int64.or_zero, Int32.add_zero, nB_t, nB_f, Bool.not_true, Bool.not_false, Bool.and_true, Bool.true_and, Bool.false_and, Bool.and_false, Bool.or_true, Bool.true_or, Bool.false_or, Bool.or_false, cond_true, cond_false]; done) | rfl) rfl
noncomputable abbrev anS (μ : zM) : Bool := !(decide ((μ.1 71 0) = 0)) || (!(decide ((μ.1 71 1) = 0)) || (!(decide ((μ.1 71 2) = 0)) || (!(decide ((μ.1 71 3) = 0)))))
theorem gm_mayClaim (d : Nat) (hd : 2 ≤ d) (μ : zM) (s : Nat) (hs4 : s < 4) : z_C d mi_X7_mayClaim [.ref 50, .int (nI s)] μ (zR μ (.int (nB ((decide ((μ.1 50 44) = 2)) && (!(anS μ) && (!(decide (((122 - (μ.1 50 47)) - (μ.1 50 46)) ≤ 0)) && (!(decide ((nI s) = (μ.1 50 45))) && (decide ((μ.1 67 s) = 0))))))))) := by
  refine z_C_in (by decide) (by omega) (fun d' Z ed hc hr => ?_)
  have hH : zH mi_X7_mayClaim zt_X7_mayClaim 79 7 2 := hh_X7_mayClaim
  refine z_rcs hc hH 1 (pc' := 1) (lv' := [(0, .ref 50), (1, .int (nI s))]) (st' := [.ref 50]) (μ' := μ) (by rfl) ?_
  refine zq_gfi hc hH (by rfl) (ci := 6) (f := 44) (by rfl) (by decide +kernel) (by rfl) ?_
  refine z_rcs hc hH 1 (pc' := 5) (lv' := [(0, .ref 50), (1, .int (nI s))]) (st' := [.int 2, .int (μ.1 50 44)]) (μ' := μ) (by rfl) ?_
  have hJ1 : Z 0 51 [(0, .ref 50), (1, .int (nI s))] [.int (nB ((decide ((μ.1 50 44) = 2)) && (!(anS μ) && (!(decide (((122 - (μ.1 50 47)) - (μ.1 50 46)) ≤ 0)) && (!(decide ((nI s) = (μ.1 50 45))) && (decide ((μ.1 67 s) = 0)))))))] μ := by
    generalize hee2 : ((decide ((μ.1 50 44) = 2)) && (!(anS μ) && (!(decide (((122 - (μ.1 50 47)) - (μ.1 50 46)) ≤ 0)) && (!(decide ((nI s) = (μ.1 50 45))) && (decide ((μ.1 67 s) = 0)))))) = ee2
    exact hr 0 51 _ _ _ (some (.int (nB ee2))) (by decide +kernel) ((fun b : Bool => (by cases b <;> rfl : z_rn mi_X7_mayClaim 51 [.int (nB b)] = some (some (.int (nB b))))) ee2) (⟨rfl, (by subst hee2; rfl)⟩)
  refine zq_ic hc hH (by rfl) (tg := 50) (by rfl) (fun h3 => ?_) (fun h3 => ?_)
  · have h3 : (decide ((μ.1 50 44) = 2)) = false := decide_eq_false (cm_ne.mp h3)
    refine z_rcs hc hH 1 (pc' := 51) (lv' := [(0, .ref 50), (1, .int (nI s))]) (st' := [.int 0]) (μ' := μ) (by rfl) ?_
    exact zJ hJ1 rfl (by first | with_reducible rfl | (simp only [h3, lb_f, Int64.or_zero, Int32.add_zero, nB_t, nB_f, Bool.not_true, Bool.not_false, Bool.and_true, Bool.true_and, Bool.false_and, Bool.and_false, Bool.or_true, Bool.true_or, Bool.false_or, Bool.or_false, cond_true, cond_false]; done) | rfl) rfl
  · have h3 : (decide ((μ.1 50 44) = 2)) = true := decide_eq_true (cn_ne.mp h3)
    refine z_rcs hc hH 1 (pc' := 9) (lv' := [(0, .ref 50), (1, .int (nI s))]) (st' := [.ref 50]) (μ' := μ) (by rfl) ?_
    refine zq_call hc (z_cx_ok hH (by rfl)) (gm_anySays d' (by omega) μ) (by decide +kernel) (fun r9 μ9 hq => ?_)
    obtain ⟨hμ9, rfl⟩ := hq
    rw [hμ9]
    clear hμ9 μ9
    show Z 0 12 [(0, .ref 50), (1, .int (nI s))] [.int (nB (anS μ))] μ
    refine zq_if hc hH (by rfl) (tg := 50) (by rfl) (fun h4 => ?_) (fun h4 => ?_)
    · have h4 : (anS μ) = true := nB_n.mp (cm_ne.mp h4)
      refine z_rcs hc hH 1 (pc' := 51) (lv' := [(0, .ref 50), (1, .int (nI s))]) (st' := [.int 0]) (μ' := μ) (by rfl) ?_
      exact zJ hJ1 rfl (by first | with_reducible rfl | (simp only [h3, h4, lb_f, Int64.or_zero, Int32.add_zero, nB_t, nB_f, Bool.not_true, Bool.not_false, Bool.and_true, Bool.true_and, Bool.false_and, Bool.and_false, Bool.or_true, Bool.true_or, Bool.false_or, Bool.or_false, cond_true, cond_false]; done) | rfl) rfl
    · have h4 : (anS μ) = false := nB_z.mp (cn_ne.mp h4)
      refine z_rcs hc hH 1 (pc' := 16) (lv' := [(0, .ref 50), (1, .int (nI s))]) (st' := [.ref 50]) (μ' := μ) (by rfl) ?_
      refine zq_call hc (z_cx_ok hH (by rfl)) (fc_X7_left d' (by omega) μ) (by decide +kernel) (fun r9 μ9 hq => ?_)
      obtain ⟨hμ9, rfl⟩ := hq
      rw [hμ9]
      clear hμ9 μ9
      show Z 0 19 [(0, .ref 50), (1, .int (nI s))] [.int ((122 - (μ.1 50 47)) - (μ.1 50 46))] μ
      refine zq_if hc hH (by rfl) (tg := 50) (by rfl) (fun h5 => ?_) (fun h5 => ?_)
      · have h5 : (decide (((122 - (μ.1 50 47)) - (μ.1 50 46)) ≤ 0)) = true := decide_eq_true (cm_le.mp h5)
        refine z_rcs hc hH 1 (pc' := 51) (lv' := [(0, .ref 50), (1, .int (nI s))]) (st' := [.int 0]) (μ' := μ) (by rfl) ?_
        exact zJ hJ1 rfl (by first | with_reducible rfl | (simp only [h3, h4, h5, lb_f, Int64.or_zero, Int32.add_zero, nB_t, nB_f, Bool.not_true, Bool.not_false, Bool.and_true, Bool.true_and, Bool.false_and, Bool.and_false, Bool.or_true, Bool.true_or, Bool.false_or, Bool.or_false, cond_true, cond_false]; done) | rfl) rfl
      · have h5 : (decide (((122 - (μ.1 50 47)) - (μ.1 50 46)) ≤ 0)) = false := decide_eq_false (cn_le.mp h5)
        refine z_rcs hc hH 1 (pc' := 23) (lv' := [(0, .ref 50), (1, .int (nI s))]) (st' := [.int (nI s)]) (μ' := μ) (by rfl) ?_
        refine zq_call hc (z_cx_ok hH (by rfl)) (gm_isSeatN d' (by omega) μ s hs4) (by decide +kernel) (fun r9 μ9 hq => ?_)
        obtain ⟨hμ9, rfl⟩ := hq
        rw [hμ9]
        clear hμ9 μ9
        show Z 0 26 [(0, .ref 50), (1, .int (nI s))] [.int 1] μ
        refine z_rcs hc hH 3 (pc' := 31) (lv' := [(0, .ref 50), (1, .int (nI s))]) (st' := [.ref 50, .int (nI s)]) (μ' := μ) (by rfl) ?_
        refine zq_gfi hc hH (by rfl) (ci := 6) (f := 45) (by rfl) (by decide +kernel) (by rfl) ?_
        refine zq_ic hc hH (by rfl) (tg := 50) (by rfl) (fun h6 => ?_) (fun h6 => ?_)
        · have h6 : (decide ((nI s) = (μ.1 50 45))) = true := decide_eq_true (cm_eq9.mp h6)
          refine z_rcs hc hH 1 (pc' := 51) (lv' := [(0, .ref 50), (1, .int (nI s))]) (st' := [.int 0]) (μ' := μ) (by rfl) ?_
          exact zJ hJ1 rfl (by first | with_reducible rfl | (simp only [h3, h4, h5, h6, lb_f, Int64.or_zero, Int32.add_zero, nB_t, nB_f, Bool.not_true, Bool.not_false, Bool.and_true, Bool.true_and, Bool.false_and, Bool.and_false, Bool.or_true, Bool.true_or, Bool.false_or, Bool.or_false, cond_true, cond_false]; done) | rfl) rfl
        · have h6 : (decide ((nI s) = (μ.1 50 45))) = false := decide_eq_false (cn_eq.mp h6)
          refine z_rcs hc hH 1 (pc' := 38) (lv' := [(0, .ref 50), (1, .int (nI s))]) (st' := [.ref 50]) (μ' := μ) (by rfl) ?_
          refine zq_gfr hc hH (by rfl) (ci := 6) (f := 35) (q := 67) (by rfl) (by decide +kernel) (by rfl) (by decide +kernel) ?_
          refine z_rcs hc hH 1 (pc' := 42) (lv' := [(0, .ref 50), (1, .int (nI s))]) (st' := [.int (nI s), .ref 67]) (μ' := μ) (by rfl) ?_
          refine zq_iald hc hH (by rfl) 4 (oka_i (by decide +kernel)) (vp_in_nI (by omega) (by decide)) ?_
          rw [nI_clamp (by omega)]
          refine zq_if hc hH (by rfl) (tg := 50) (by rfl) (fun h7 => ?_) (fun h7 => ?_)
          · have h7 : (decide ((μ.1 67 s) = 0)) = false := decide_eq_false (cm_ne.mp h7)
            refine z_rcs hc hH 1 (pc' := 51) (lv' := [(0, .ref 50), (1, .int (nI s))]) (st' := [.int 0]) (μ' := μ) (by rfl) ?_
            exact zJ hJ1 rfl (by first | with_reducible rfl | (simp only [h3, h4, h5, h6, h7, lb_f, Int64.or_zero, Int32.add_zero, nB_t, nB_f, Bool.not_true, Bool.not_false, Bool.and_true, Bool.true_and, Bool.false_and, Bool.and_false, Bool.or_true, Bool.true_or, Bool.false_or, Bool.or_false, cond_true, cond_false]; done) | rfl) rfl
          · have h7 : (decide ((μ.1 67 s) = 0)) = true := decide_eq_true (cn_ne.mp h7)
            refine z_rcs hc hH 2 (pc' := 51) (lv' := [(0, .ref 50), (1, .int (nI s))]) (st' := [.int 1]) (μ' := μ) (by rfl) ?_
            exact zJ hJ1 rfl (by first | with_reducible rfl | (simp only [h3, h4, h5, h6, h7, lb_f, Int64.or_zero, Int32.add_zero, nB_t, nB_f, Bool.not_true, Bool.not_false, Bool.and_true, Bool.true_and, Bool.false_and, Bool.and_false, Bool.or_true, Bool.true_or, Bool.false_or, Bool.or_false, cond_true, cond_false]; done) | rfl) rfl
theorem mr_mayClaim (d : Nat) (hd : 2 ≤ d) (μ : zM) (y : Int32) (hs : ∀ d, 1 ≤ d → z_C d mi_X7_isSeat [.int y] μ (zR μ (.int 0))) : z_C d mi_X7_mayClaim [.ref 50, .int y] μ (fun r μ' => r = some (.int 0) ∧ μ' = μ) := by
  refine z_C_in (by decide) (by omega) (fun d' Z ed hc hr => ?_)
  have hH : zH mi_X7_mayClaim zt_X7_mayClaim 79 7 2 := hh_X7_mayClaim
  refine z_rcs hc hH 1 (pc' := 1) (lv' := [(0, .ref 50), (1, .int y)]) (st' := [.ref 50]) (μ' := μ) (by rfl) ?_
  refine zq_gfi hc hH (by rfl) (ci := 6) (f := 44) (by rfl) (by decide +kernel) (by rfl) ?_
  refine z_rcs hc hH 1 (pc' := 5) (lv' := [(0, .ref 50), (1, .int y)]) (st' := [.int 2, .int (μ.1 50 44)]) (μ' := μ) (by rfl) ?_
  refine zq_ic hc hH (by rfl) (tg := 50) (by rfl) (fun h1 => ?_) (fun h1 => ?_)
  · have h1 : (decide ((μ.1 50 44) = 2)) = false := decide_eq_false (cm_ne.mp h1)
    refine z_rcs hc hH 1 (pc' := 51) (lv' := [(0, .ref 50), (1, .int y)]) (st' := [.int 0]) (μ' := μ) (by rfl) ?_
    exact hr 0 51 _ _ _ (some (.int 0)) (by decide +kernel) (z_rx_ok hH (by rfl)) (⟨rfl, rfl⟩)
  · have h1 : (decide ((μ.1 50 44) = 2)) = true := decide_eq_true (cn_ne.mp h1)
    refine z_rcs hc hH 1 (pc' := 9) (lv' := [(0, .ref 50), (1, .int y)]) (st' := [.ref 50]) (μ' := μ) (by rfl) ?_
    refine zq_call hc (z_cx_ok hH (by rfl)) (gm_anySays d' (by omega) μ) (by decide +kernel) (fun r9 μ9 hq => ?_)
    obtain ⟨hμ9, rfl⟩ := hq
    rw [hμ9]
    clear hμ9 μ9
    show Z 0 12 [(0, .ref 50), (1, .int y)] [.int (nB (anS μ))] μ
    refine zq_if hc hH (by rfl) (tg := 50) (by rfl) (fun h2 => ?_) (fun h2 => ?_)
    · have h2 : (anS μ) = true := nB_n.mp (cm_ne.mp h2)
      refine z_rcs hc hH 1 (pc' := 51) (lv' := [(0, .ref 50), (1, .int y)]) (st' := [.int 0]) (μ' := μ) (by rfl) ?_
      exact hr 0 51 _ _ _ (some (.int 0)) (by decide +kernel) (z_rx_ok hH (by rfl)) (⟨rfl, rfl⟩)
    · have h2 : (anS μ) = false := nB_z.mp (cn_ne.mp h2)
      refine z_rcs hc hH 1 (pc' := 16) (lv' := [(0, .ref 50), (1, .int y)]) (st' := [.ref 50]) (μ' := μ) (by rfl) ?_
      refine zq_call hc (z_cx_ok hH (by rfl)) (fc_X7_left d' (by omega) μ) (by decide +kernel) (fun r9 μ9 hq => ?_)
      obtain ⟨hμ9, rfl⟩ := hq
      rw [hμ9]
      clear hμ9 μ9
      show Z 0 19 [(0, .ref 50), (1, .int y)] [.int ((122 - (μ.1 50 47)) - (μ.1 50 46))] μ
      refine zq_if hc hH (by rfl) (tg := 50) (by rfl) (fun h3 => ?_) (fun h3 => ?_)
      · have h3 : (decide (((122 - (μ.1 50 47)) - (μ.1 50 46)) ≤ 0)) = true := decide_eq_true (cm_le.mp h3)
        refine z_rcs hc hH 1 (pc' := 51) (lv' := [(0, .ref 50), (1, .int y)]) (st' := [.int 0]) (μ' := μ) (by rfl) ?_
        exact hr 0 51 _ _ _ (some (.int 0)) (by decide +kernel) (z_rx_ok hH (by rfl)) (⟨rfl, rfl⟩)
      · have h3 : (decide (((122 - (μ.1 50 47)) - (μ.1 50 46)) ≤ 0)) = false := decide_eq_false (cn_le.mp h3)
        refine z_rcs hc hH 1 (pc' := 23) (lv' := [(0, .ref 50), (1, .int y)]) (st' := [.int y]) (μ' := μ) (by rfl) ?_
        refine zq_call hc (z_cx_ok hH (by rfl)) (hs d' (by omega)) (by decide +kernel) (fun r9 μ9 hq => ?_)
        obtain ⟨hμ9, rfl⟩ := hq
        rw [hμ9]
        clear hμ9 μ9
        show Z 0 26 [(0, .ref 50), (1, .int y)] [.int 0] μ
        refine z_rcs hc hH 2 (pc' := 51) (lv' := [(0, .ref 50), (1, .int y)]) (st' := [.int 0]) (μ' := μ) (by rfl) ?_
        exact hr 0 51 _ _ _ (some (.int 0)) (by decide +kernel) (z_rx_ok hH (by rfl)) (⟨rfl, rfl⟩)
theorem gx_mayClaim (d : Nat) (hd : 2 ≤ d) (μ : zM) (y : Int32) (hs : ∀ d, 1 ≤ d → z_C d mi_X6_isSeat [.int y] μ (zR μ (.int 0))) : z_C d mi_X6_mayClaimSet [.ref 0, .int y] μ (fun r μ' => r = some (.int 0) ∧ μ' = μ) := by
  refine z_C_in (by decide) (by omega) (fun d' Z ed hc hr => ?_)
  have hH : zH mi_X6_mayClaimSet zt_X6_mayClaimSet 79 6 2 := hh_X6_mayClaimSet
  refine z_rcs hc hH 1 (pc' := 1) (lv' := [(0, .ref 0), (1, .int y)]) (st' := [.ref 0]) (μ' := μ) (by rfl) ?_
  refine zq_gfi hc hH (by rfl) (ci := 5) (f := 7) (by rfl) (by decide +kernel) (by rfl) ?_
  refine z_rcs hc hH 1 (pc' := 5) (lv' := [(0, .ref 0), (1, .int y)]) (st' := [.int 2, .int (μ.1 0 7)]) (μ' := μ) (by rfl) ?_
  refine zq_ic hc hH (by rfl) (tg := 55) (by rfl) (fun h1 => ?_) (fun h1 => ?_)
  · have h1 : (decide ((μ.1 0 7) = 2)) = false := decide_eq_false (cm_ne.mp h1)
    refine z_rcs hc hH 1 (pc' := 56) (lv' := [(0, .ref 0), (1, .int y)]) (st' := [.int 0]) (μ' := μ) (by rfl) ?_
    exact hr 0 56 _ _ _ (some (.int 0)) (by decide +kernel) (z_rx_ok hH (by rfl)) (⟨rfl, rfl⟩)
  · have h1 : (decide ((μ.1 0 7) = 2)) = true := decide_eq_true (cn_ne.mp h1)
    refine z_rcs hc hH 1 (pc' := 9) (lv' := [(0, .ref 0), (1, .int y)]) (st' := [.int y]) (μ' := μ) (by rfl) ?_
    refine zq_call hc (z_cx_ok hH (by rfl)) (hs d' (by omega)) (by decide +kernel) (fun r9 μ9 hq => ?_)
    obtain ⟨hμ9, rfl⟩ := hq
    rw [hμ9]
    clear hμ9 μ9
    show Z 0 12 [(0, .ref 0), (1, .int y)] [.int 0] μ
    refine z_rcs hc hH 2 (pc' := 56) (lv' := [(0, .ref 0), (1, .int y)]) (st' := [.int 0]) (μ' := μ) (by rfl) ?_
    exact hr 0 56 _ _ _ (some (.int 0)) (by decide +kernel) (z_rx_ok hH (by rfl)) (⟨rfl, rfl⟩)
theorem mr_hideH (d : Nat) (hd : 4 ≤ d) (μ : zM) (t k : Nat) (ht4 : t < 4) (ht : μ.1 50 45 = nI t) (hk : k < 34) (hmm : ∀ d, 2 ≤ d → z_C d mi_X7_mayMake [.ref 50] (z_ui μ 50 0 0) (zR (z_ui μ 50 0 0) (.int 1))) (h4 : decide (μ.1 60 (34 * t + k) = 4) = false) : z_C d mi_X7_hide [.ref 50, .int (nI k)] μ (fun r μ' => r = some (.int 0) ∧ μ' = z_ui μ 50 0 0) := by
  refine z_C_in (by decide) (by omega) (fun d' Z ed hc hr => ?_)
  have hH : zH mi_X7_hide zt_X7_hide 79 7 2 := hh_X7_hide
  refine z_rcs hc hH 2 (pc' := 2) (lv' := [(0, .ref 50), (1, .int (nI k))]) (st' := [.int 0, .ref 50]) (μ' := μ) (by rfl) ?_
  refine zq_pfi hc hH (by rfl) (ci := 6) (f := 0) (by rfl) (by decide +kernel) (by rfl) ?_
  show Z 0 5 [(0, .ref 50), (1, .int (nI k))] [] (z_ui μ 50 0 0)
  refine z_rcs hc hH 1 (pc' := 6) (lv' := [(0, .ref 50), (1, .int (nI k))]) (st' := [.ref 50]) (μ' := z_ui μ 50 0 0) (by rfl) ?_
  refine zq_call hc (z_cx_ok hH (by rfl)) (hmm d' (by omega)) (by decide +kernel) (fun r9 μ9 hq => ?_)
  obtain ⟨hμ9, rfl⟩ := hq
  rw [hμ9]
  clear hμ9 μ9
  show Z 0 9 [(0, .ref 50), (1, .int (nI k))] [.int 1] (z_ui μ 50 0 0)
  refine z_rcs hc hH 2 (pc' := 13) (lv' := [(0, .ref 50), (1, .int (nI k))]) (st' := [.int (nI k)]) (μ' := z_ui μ 50 0 0) (by rfl) ?_
  refine zq_call hc (z_cx_ok hH (by rfl)) (gm_isKindN d' (by omega) (z_ui μ 50 0 0) k hk) (by decide +kernel) (fun r9 μ9 hq => ?_)
  obtain ⟨hμ9, rfl⟩ := hq
  rw [hμ9]
  clear hμ9 μ9
  show Z 0 16 [(0, .ref 50), (1, .int (nI k))] [.int 1] (z_ui μ 50 0 0)
  refine z_rcs hc hH 3 (pc' := 21) (lv' := [(0, .ref 50), (1, .int (nI k))]) (st' := [.ref 50, .ref 50]) (μ' := z_ui μ 50 0 0) (by rfl) ?_
  refine zq_gfi hc hH (by rfl) (ci := 6) (f := 45) (by rfl) (by decide +kernel) (by rfl) ?_
  refine zV1 (Z := Z) (ui_k (by first | decide | omega)) ?_
  rw [ht]
  refine z_rcs hc hH 1 (pc' := 25) (lv' := [(0, .ref 50), (1, .int (nI k))]) (st' := [.int (nI k), .int (nI t), .ref 50]) (μ' := z_ui μ 50 0 0) (by rfl) ?_
  refine zq_call hc (z_cx_ok hH (by rfl)) (fc_X7_has_ d' (by omega) (z_ui μ 50 0 0) t k ht4 hk) (by decide +kernel) (fun r9 μ9 hq => ?_)
  obtain ⟨hμ9, rfl⟩ := hq
  rw [hμ9]
  clear hμ9 μ9
  rw [ui_o (by first | decide | omega)]
  show Z 0 28 [(0, .ref 50), (1, .int (nI k))] [.int (μ.1 60 (34 * t + k))] (z_ui μ 50 0 0)
  refine z_rcs hc hH 1 (pc' := 29) (lv' := [(0, .ref 50), (1, .int (nI k))]) (st' := [.int 4, .int (μ.1 60 (34 * t + k))]) (μ' := z_ui μ 50 0 0) (by rfl) ?_
  refine zq_ic hc hH (by rfl) (tg := 34) (by rfl) (fun h1 => ?_) (fun h1 => ?_)
  · have h1 : (decide ((μ.1 60 (34 * t + k)) = 4)) = true := decide_eq_true (cm_eq9.mp h1)
    exact absurd (Eq.trans (Eq.symm (h4)) h1) (by decide)
  · have h1 : (decide ((μ.1 60 (34 * t + k)) = 4)) = false := decide_eq_false (cn_eq.mp h1)
    refine z_rcs hc hH 1 (pc' := 33) (lv' := [(0, .ref 50), (1, .int (nI k))]) (st' := [.int 0]) (μ' := z_ui μ 50 0 0) (by rfl) ?_
    exact hr 0 33 _ _ _ (some (.int 0)) (by decide +kernel) (z_rx_ok hH (by rfl)) (⟨rfl, rfl⟩)
/-! hide answers alike -/
set_option maxRecDepth 8000
noncomputable abbrev xMM (μ : zM) (t : Nat) : Bool := (decide ((μ.1 0 7) = 1)) && (!(decide ((μ.1 0 15) = (-1))) && ((decide ((μ.1 (18 + 8 * t) 5) = 0)) && (!(decide ((xLf μ) ≤ 0)) && (!(decide (4 ≤ (μ.1 2 3)))))))
noncomputable abbrev mMM (μ : zM) (t : Nat) : Bool := (decide ((μ.1 50 44) = 1)) && ((decide ((μ.1 50 57) = 0)) && ((decide ((μ.1 67 t) = 0)) && (!(decide (((122 - (μ.1 50 47)) - (μ.1 50 46)) ≤ 0)) && (!(decide (4 ≤ (μ.1 50 47)))))))
theorem nI_m1n {c : Nat} (hc : c < 34) : decide (nI c = -1) = false := kn_m1 (by omega)
theorem mm_eq {x m : zM} {p t c : Nat} (R : RCl x m) (P : RPh x m p t c) : xMM x t = mMM m t := by
  unfold xMM mMM xLf
  rw [P.px, P.pm, R.sd, P.is, P.fo, R.nx, R.be t P.t4, P.cx]
  rcases P.p3 with e | e | e
  · rw [P.jc e]
    by_cases q : c = 34
    · rw [if_pos q, if_pos q]; rfl
    · rw [if_neg q, if_neg q, nI_m1n (by have := P.c3; omega)]; rfl
  · subst e; rfl
  · subst e; rfl
theorem turn_nI {m : zM} (h : a_H m) : ∃ t, t < 4 ∧ m.1 50 45 = nI t := by
  obtain ⟨a, h1, h2⟩ := i_nat (v := m.1 50 45) (n := 3) (h 50 45).1 (h 50 45).2 (by decide)
  exact ⟨a, by omega, h2⟩
theorem mMM_0 {m : zM} {t : Nat} {v : Int32} : mMM (z_ui m 50 0 v) t = mMM m t := by
  unfold mMM
  rw [ui_k (by decide), ui_k (by decide), ui_o (by decide), ui_k (by decide), ui_k (by decide)]
theorem mMM_e {m m' : zM} {t : Nat} (h : EqM m m') : mMM m' t = mMM m t := by
  have e : ∀ k, 40 ≤ k → k ≤ 59 → m'.1 50 k = m.1 50 k := fun k h1 h2 => (h 50 k (Or.inr ⟨rfl, h1, h2⟩)).1
  unfold mMM
  rw [e 44 (by decide) (by decide), e 57 (by decide) (by decide), e 47 (by decide) (by decide), e 46 (by decide) (by decide), (h 67 t (Or.inl ⟨by decide, by decide⟩)).1]
theorem rq_47 {x m : zM} {lb : Nat} (Q : RQ x m lb) (v : Int32) : RQ x (z_ui m 50 47 v) lb := ⟨(by rw [ui_k (by decide)]; exact Q.br), fun z s hs => by rw [ui_k (by decide)] at z; rw [ui_o (by decide)]; exact Q.us z s hs, Q.ow, (by rw [ui_k (by decide)]; exact Q.o1), (by rw [ui_k (by decide)]; exact Q.is), fun s hs => by rw [ui_o (by decide)]; exact Q.s1 s hs, (by rw [ui_k (by decide)]; exact Q.w0), DNm.cg (m := m) Q.dn (fun s _ => ui_o (by decide)) (ui_k (by decide)) (ui_k (by decide)) (ui_k (by decide)), fun z s hs => by rw [ui_k (by decide)] at z; rw [ui_o (by decide), ui_o (by decide)]; exact Q.dr z s hs, Q.tc.cg (fun _ _ _ _ => rfl) (fun i => ui_o (by decide)) (ui_k (by decide)) (ui_k (by decide))⟩
theorem rc_47 {x m : zM} (R : RCl x m) (v : Int32) : RCl x (z_ui m 50 47 v) := RCl.cg2 (x := x) (x' := x) (m := m) (m' := z_ui m 50 47 v) (q2_x _) (q2_mu (q2_m _) (by unfold gM2; omega)) R
/-- hide, done: both games behind it -/
theorem rg_hide {x m : zM} {t c k q n k2 : Nat} (R : RCl x m) (P : RPh x m 1 t c) (hk : k < 34) (hq : q ≤ 3) (e64 : m.1 64 t = nI q) (hm4 : ∀ j, j < 4 → (m.1 64 j).toNatClampNeg ≤ 4) (hn : n < 4) (e47 : m.1 50 47 = nI n) (e48 : m.1 50 48 = nI n) (hk2 : k2 < 34) (hw : m.1 59 (122 + n) = nI k2) (hnx : bI 0 122 (m.1 50 46)) (hh : ¬ (z_giv m t k (-4)).1 60 (34 * t + k2) = -1) : RG (dT1 (bkH (ldS x t 3 k q)) t n k2) (dM1 (z_ui (toM (z_lys (z_giv m t k (-4)) t q 3 (nI k))) 50 47 (m.1 50 47 + 1)) t n k2) := by
  have ht := P.t4
  have A := lay_hide (x := x) (m := m) (s := t) (c := k) (q := q) ht hk hq
  have R1 := rc_lay R A ht hq e64 (svd_n ⟨by decide, by decide⟩ (by decide) hk) hm4
  have R2 := rc_47 (rc_brk R1) (m.1 50 47 + 1)
  obtain ⟨Q, f1, f2⟩ := rq_hide P A (fun j hj => by
    rw [ct_n9 (by decide) hk hj]
    show (if j = k then (-4 : Int32) else 0) + _ = 0
    by_cases e : j = k
    · rw [if_pos e, if_pos e]; decide
    · rw [if_neg e, if_neg e]; decide)
  have Q2 := rq_47 Q (m.1 50 47 + 1)
  have g : ∀ r k', r ≠ 60 → r ≠ 62 → r ≠ 63 → r ≠ 64 → r ≠ 69 → (r ≠ 50 ∨ (k' ≠ 56 ∧ k' ≠ 47)) → (z_ui (toM (z_lys (z_giv m t k (-4)) t q 3 (nI k))) 50 47 (m.1 50 47 + 1)).1 r k' = m.1 r k' := fun r k' h1 h2 h3 h4 h5 h6 => by
    have z : (toM (z_lys (z_giv m t k (-4)) t q 3 (nI k))).1 r k' = m.1 r k' := by rw [toM_o ⟨h5, by omega⟩, lys_o ⟨h2, h3, h4⟩, giv_o h1]
    by_cases e : r = 50
    · rw [ui_k (by first | decide | omega)]; exact z
    · rw [ui_o e]; exact z
  refine ⟨rc_draw1 R2 ht hk2, Or.inr ⟨1, t, k2, rp_draw1 R2 Q2 ht hk2 ?_ hn ?_ ?_ ?_ (by rw [ui_o (by decide), toM_o ⟨by decide, Or.inl (by decide)⟩, lys_o ⟨by decide, by decide, by decide⟩]; exact hh)⟩⟩
  · rw [g 50 48 (by omega) (by omega) (by omega) (by omega) (by omega) (by omega)]; exact e48
  · rw [g 50 46 (by omega) (by omega) (by omega) (by omega) (by omega) (by omega)]; exact hnx
  · rw [g 59 _ (by omega) (by omega) (by omega) (by omega) (by omega) (by omega)]; exact hw
  · rw [ui_s, e47, nI_s1]
/-! hide answers alike: the call -/
set_option maxRecDepth 8000
theorem xk_mm {μ : zM} {t : Nat} (ht4 : t < 4) (ht : μ.1 0 8 = nI t) {b : Bool} (h : xMM μ t = b) : ∀ d, 3 ≤ d → z_C d mi_X6_mayMakeFour [.ref 0] μ (zR μ (.int (nB b))) := fun d hd => by
  rw [← h]; exact gc_mayMakeFour d hd μ t ht4 ht
theorem mk_mm {μ : zM} {t : Nat} (ht4 : t < 4) (ht : μ.1 50 45 = nI t) {b : Bool} (h : mMM μ t = b) : ∀ d, 2 ≤ d → z_C d mi_X7_mayMake [.ref 50] (z_ui μ 50 0 0) (zR (z_ui μ 50 0 0) (.int (nB b))) := fun d hd => by
  rw [← h, ← mMM_0 (m := μ) (v := 0)]
  exact gm_mayMake d hd (z_ui μ 50 0 0) t ht4 (by rw [ui_k (by decide)]; exact ht)
theorem isK_no {μ : zM} {x : Int32} (h : ¬ vp_in x 34) : ∀ d, 1 ≤ d → z_C d mi_X7_isKind [.int x] μ (zR μ (.int 0)) := fun d hd => z_C_mono (fc_X7_isKind d hd μ x) (fun r m z => ⟨z.1, by
  rcases z.2 with ⟨_, y⟩ | ⟨y, _⟩
  · exact absurd y h
  · exact y⟩)
theorem fr_no {μ : zM} {r : Nat} {x : Int32} (h : ¬ vp_in x 34) : fr μ r x = 0 := by
  unfold fr
  cases e : z_in x 34
  · rfl
  · exact absurd (z_in_iff.mp e) h
theorem fr_yes {μ : zM} {r k : Nat} (h : k < 34) : fr μ r (nI k) = μ.1 r k := by
  unfold fr
  rw [z_in_iff.mpr (vp_in_nI h (by decide)), cond_true, nI_clamp (by omega)]
theorem lg_hide {d : Nat} (hd : 705 ≤ d) {μ : zM} (h : LGm μ) (x : Int32) : z_C d mi_X6_hide [.ref 0, .int x] μ (fun r μ1 => LJ μ1 ∧ ∃ y, r = some (.int y) ∧ z_C d mi_X7_hide [.ref 50, .int x] μ1 (fun r2 μ2 => LGm μ2 ∧ r2 = some (.int y))) := by
  obtain ⟨hJ, hR⟩ := h
  have kx : z_C d mi_X6_hide [.ref 0, .int x] μ (fun _ μ' => LJ μ' ∧ EqM μ μ') := lg_k (i := 64) (K := ak_64) rfl (by omega) (by decide) (by decide) rfl (by decide) [.ref 0, .int x] μ hJ ⟨⟨0, by decide, rfl⟩, ⟨_, rfl, bI_top _⟩, trivial⟩
  have km : ∀ μ1, LJ μ1 → z_C d mi_X7_hide [.ref 50, .int x] μ1 (fun _ μ' => LJ μ' ∧ EqX μ1 μ') := fun μ1 h1 => lg_g h1 (fc_X7_hide d (by omega) μ1 x h1.1)
  have no : z_C d mi_X6_hide [.ref 0, .int x] μ (fun r μ' => r = some (.int 0) ∧ μ' = μ) → z_C d mi_X7_hide [.ref 50, .int x] μ (fun r μ' => r = some (.int 0) ∧ μ' = z_ui μ 50 0 0) → z_C d mi_X6_hide [.ref 0, .int x] μ (fun r μ1 => LJ μ1 ∧ ∃ y, r = some (.int y) ∧ z_C d mi_X7_hide [.ref 50, .int x] μ1 (fun r2 μ2 => LGm μ2 ∧ r2 = some (.int y))) := fun c1 c2 => z_C_mono (zC_and d kx c1) (fun r μ1 q => by
    obtain ⟨⟨q1, _⟩, q2, rfl⟩ := q
    exact ⟨q1, 0, q2, z_C_mono (zC_and d (km _ q1) c2) (fun r2 μ2 z => ⟨lg_no hR z.2.2 z.1.1, z.2.1⟩)⟩)
  have hA := hJ.1.1
  rcases hR.2 with ⟨p1, p2, p3, p4, p5⟩ | ⟨p, t, c, P⟩
  · obtain ⟨t, ht4, ht⟩ := turn_nI hA
    have e1 : xMM μ t = false := by unfold xMM; rw [p1]; rfl
    have e2 : mMM μ t = false := by unfold mMM; rw [p2]; rfl
    exact no (gx_hide d (by omega) μ x (xk_mm ht4 (p5.trans ht) e1)) (mr_hide d (by omega) μ x (mk_mm ht4 ht e2))
  · have R := hR.1
    have ht4 := P.t4
    have eq := mm_eq R P
    cases hm : mMM μ t with
    | false => exact no (gx_hide d (by omega) μ x (xk_mm ht4 P.tx (eq.trans hm))) (mr_hide d (by omega) μ x (mk_mm ht4 P.tm hm))
    | true =>
      have hx1 := xk_mm ht4 P.tx (eq.trans hm)
      have hm1 := mk_mm ht4 P.tm hm
      by_cases hv : vp_in x 34
      · obtain ⟨k, hk, rfl⟩ := vp_in_of hv (by decide)
        have hp0 : ¬ μ.1 50 44 = 0 := by rw [P.pm]; rcases P.p3 with q | q | q <;> (rw [q]; decide)
        have G := hJ.1.2.2 hp0
        obtain ⟨w, aw, q, sL, lL, H⟩ := hf_of R P hA G ht4
        have hwk := H.1.1 k hk
        by_cases h4 : w k = 4
        · have hp1 : p = 1 := by
            have z := hm
            unfold mMM at z
            have z := (z_and z).1
            have z := of_decide_eq_true z
            rw [P.pm] at z
            rcases P.p3 with q | q | q
            · exact q
            · rw [q] at z; exact absurd z (by decide)
            · rw [q] at z; exact absurd z (by decide)
          subst hp1
          obtain ⟨z1, z2⟩ := z_and hm
          obtain ⟨z3, z4⟩ := z_and z2
          obtain ⟨z5, z6⟩ := z_and z4
          obtain ⟨z7, z8⟩ := z_and z6
          obtain ⟨n, hn1, hn2⟩ := i_nat (v := μ.1 50 47) (n := 4) (hA 50 47).1 (hA 50 47).2 (by decide)
          have hn : n < 4 := by
            rcases Nat.lt_or_ge n 4 with y | y
            · exact y
            · exfalso
              have : n = 4 := by omega
              rw [hn2, this] at z8
              exact absurd z8 (by decide)
          have hq3 : q ≤ 3 := by
            have g1 := G.1.2 t ht4
            have g2 := G.1.le ht4 hk
            have g3 : glim μ t ≤ 14 := by unfold glim; split <;> decide
            have g4 : hI μ (34 * t + k) = 4 := by unfold hI; rw [hwk.1, h4]; decide
            have g5 : mI μ t = q := by unfold mI; rw [H.1.2.1]; exact nI_toInt (by have := H.1.2.2.1; omega)
            omega
          obtain ⟨k2, hk2a, hk2b⟩ := i_nat (v := μ.1 59 (122 + n)) (n := 33) (hA 59 _).1 (hA 59 _).2 (by decide)
          have hk2 : k2 < 34 := by omega
          have e48 : μ.1 50 48 = nI n := G.2.2.1.trans hn2
          have hz3 : k + zl 3 ≤ 33 := by rw [show zl 3 = 0 from by decide]; omega
          refine z_C_mono (zC_and d kx (gc_hide d (by omega) μ t ht4 P.tx k q hk hz3 hq3 H.2.2.2.1 n k2 (by omega) (P.fo.trans hn2) (R.sd.trans P.is) hk2 ((R.wl _ (by omega)).trans hk2b) true hx1)) (fun r μ1 qq => ?_)
          obtain ⟨⟨q1, qM⟩, q2, q3⟩ := qq
          have f4 : decide (4 ≤ fr μ (20 + 8 * t) (nI k)) = true := by rw [fr_yes hk, R.hd t k ht4 hk, hwk.1, h4]; decide
          rw [f4, cond_true, cond_true] at q2 q3
          refine ⟨q1, 1, q2, ?_⟩
          have E : ∀ r k', gMc r k' → μ1.1 r k' = μ.1 r k' := fun r k' g => (qM r k' g).1
          have R' := (hR.cg (eqX_rf _) qM).1
          have P' := P.cg (eqX_rf _) qM
          refine z_C_mono (zC_and d (km μ1 q1) (gm_hide d (by omega) μ1 t ht4 P'.tm k q n k2 hk (by omega) ((E 64 t (Or.inl ⟨by decide, by decide⟩)).trans H.1.2.1) (by omega) ((E 50 48 (Or.inr ⟨rfl, by decide, by decide⟩)).trans e48) hk2 ((E 59 _ (Or.inl ⟨by decide, by decide⟩)).trans hk2b) true (mk_mm ht4 P'.tm ((mMM_e qM).trans hm)))) (fun r2 μ2 z => ?_)
          obtain ⟨⟨y1, yX⟩, y2, y3⟩ := z
          have f5 : decide (μ1.1 60 (34 * t + k) = 4) = true := by rw [E 60 _ (Or.inl ⟨by decide, by decide⟩), hwk.1, h4]; decide
          rw [f5, cond_true, cond_true] at y2 y3
          refine ⟨⟨y1, ?_⟩, y2⟩
          have R0 := R'.cg (eqX_rf _) (t0_EqM μ1 0)
          have P0 := P'.cg (eqX_rf _) (t0_EqM μ1 0)
          have E0 : ∀ r k', gMc r k' → (z_ui μ1 50 0 0).1 r k' = μ.1 r k' := fun r k' g => ((t0_EqM μ1 0 r k' g).1).trans (E r k' g)
          have g := rg_hide (k := k) (q := q) (n := n) (k2 := k2) R0 P0 hk hq3 ((E0 64 t (Or.inl ⟨by decide, by decide⟩)).trans H.1.2.1) (fun j hj => by
            rw [E0 64 j (Or.inl ⟨by decide, by decide⟩)]
            obtain ⟨a, b1, b2⟩ := i_nat (v := μ.1 64 j) (n := 4) (hA 64 j).1 (hA 64 j).2 (by decide)
            rw [b2, nI_clamp (by omega)]; exact b1) hn ((E0 50 47 (Or.inr ⟨rfl, by decide, by decide⟩)).trans hn2) ((E0 50 48 (Or.inr ⟨rfl, by decide, by decide⟩)).trans e48) hk2 ((E0 59 _ (Or.inl ⟨by decide, by decide⟩)).trans hk2b) (by rw [E0 50 46 (Or.inr ⟨rfl, by decide, by decide⟩)]; exact hA 50 46) (by
            rw [giv_60, E0 60 _ (Or.inl ⟨by decide, by decide⟩), (H.1.1 k2 hk2).1]
            by_cases e : 34 * t + k2 = 34 * t + k
            · have e : k2 = k := by omega
              rw [if_pos (by omega), e, h4]; decide
            · rw [if_neg e]; exact of_decide_eq_false (kn_m1 (by have := (H.1.1 k2 hk2).2; omega)))
          rw [← q3, show (z_ui μ1 50 0 0).1 50 47 = μ1.1 50 47 from ui_k (by decide), ← y3] at g
          exact g.cg yX (eqM_rf _)
        · have ne4 : ∀ v : Nat, v ≤ 4 → v ≠ 4 → decide (4 ≤ nI v) = false ∧ decide (nI v = 4) = false := fun v h1 h2 => by
            obtain rfl | rfl | rfl | rfl : v = 0 ∨ v = 1 ∨ v = 2 ∨ v = 3 := by omega
            all_goals decide
          have z := ne4 (w k) hwk.2 h4
          exact no (gx_hideF d (by omega) μ (nI k) t ht4 P.tx hx1 (by rw [fr_yes hk, R.hd t k ht4 hk, hwk.1]; exact z.1)) (mr_hideH d (by omega) μ t k ht4 P.tm hk hm1 (by rw [hwk.1]; exact z.2))
      · exact no (gx_hideF d (by omega) μ x t ht4 P.tx hx1 (by rw [fr_no hv]; decide)) (mr_hideK d (by omega) μ x hm1 (isK_no hv))
/-! questions of the reference -/
set_option maxRecDepth 8000
theorem gm_hand (d : Nat) (hd : 3 ≤ d) (μ : zM) (s : Nat) (hs4 : s < 4) (k : Nat) (hk : k < 34) : z_C d mi_X7_hand [.ref 50, .int (nI s), .int (nI k)] μ (fun r μ' => r = some (.int (μ.1 60 (34 * s + k))) ∧ μ' = z_ui μ 50 0 0) := by
  refine z_C_in (by decide) (by omega) (fun d' Z ed hc hr => ?_)
  have hH : zH mi_X7_hand zt_X7_hand 79 7 3 := hh_X7_hand
  refine z_rcs hc hH 2 (pc' := 2) (lv' := [(0, .ref 50), (1, .int (nI s)), (2, .int (nI k))]) (st' := [.int 0, .ref 50]) (μ' := μ) (by rfl) ?_
  refine zq_pfi hc hH (by rfl) (ci := 6) (f := 0) (by rfl) (by decide +kernel) (by rfl) ?_
  show Z 0 5 [(0, .ref 50), (1, .int (nI s)), (2, .int (nI k))] [] (z_ui μ 50 0 0)
  refine z_rcs hc hH 1 (pc' := 6) (lv' := [(0, .ref 50), (1, .int (nI s)), (2, .int (nI k))]) (st' := [.int (nI s)]) (μ' := z_ui μ 50 0 0) (by rfl) ?_
  refine zq_call hc (z_cx_ok hH (by rfl)) (gm_isSeatN d' (by omega) (z_ui μ 50 0 0) s hs4) (by decide +kernel) (fun r9 μ9 hq => ?_)
  obtain ⟨hμ9, rfl⟩ := hq
  rw [hμ9]
  clear hμ9 μ9
  show Z 0 9 [(0, .ref 50), (1, .int (nI s)), (2, .int (nI k))] [.int 1] (z_ui μ 50 0 0)
  refine z_rcs hc hH 2 (pc' := 13) (lv' := [(0, .ref 50), (1, .int (nI s)), (2, .int (nI k))]) (st' := [.int (nI k)]) (μ' := z_ui μ 50 0 0) (by rfl) ?_
  refine zq_call hc (z_cx_ok hH (by rfl)) (gm_isKindN d' (by omega) (z_ui μ 50 0 0) k hk) (by decide +kernel) (fun r9 μ9 hq => ?_)
  obtain ⟨hμ9, rfl⟩ := hq
  rw [hμ9]
  clear hμ9 μ9
  show Z 0 16 [(0, .ref 50), (1, .int (nI s)), (2, .int (nI k))] [.int 1] (z_ui μ 50 0 0)
  refine z_rcs hc hH 4 (pc' := 22) (lv' := [(0, .ref 50), (1, .int (nI s)), (2, .int (nI k))]) (st' := [.int (nI k), .int (nI s), .ref 50]) (μ' := z_ui μ 50 0 0) (by rfl) ?_
  refine zq_call hc (z_cx_ok hH (by rfl)) (fc_X7_has_ d' (by omega) (z_ui μ 50 0 0) s k hs4 hk) (by decide +kernel) (fun r9 μ9 hq => ?_)
  obtain ⟨hμ9, rfl⟩ := hq
  rw [hμ9]
  clear hμ9 μ9
  rw [ui_o (by first | decide | omega)]
  show Z 0 25 [(0, .ref 50), (1, .int (nI s)), (2, .int (nI k))] [.int (μ.1 60 (34 * s + k))] (z_ui μ 50 0 0)
  refine z_rcs hc hH 1 (pc' := 29) (lv' := [(0, .ref 50), (1, .int (nI s)), (2, .int (nI k))]) (st' := [.int (μ.1 60 (34 * s + k))]) (μ' := z_ui μ 50 0 0) (by rfl) ?_
  exact hr 0 29 _ _ _ (some (.int (μ.1 60 (34 * s + k)))) (by decide +kernel) (z_rx_ok hH (by rfl)) (⟨rfl, rfl⟩)
theorem gm_handS (d : Nat) (hd : 3 ≤ d) (μ : zM) (y x : Int32) (hs : ∀ d, 1 ≤ d → z_C d mi_X7_isSeat [.int y] (z_ui μ 50 0 0) (zR (z_ui μ 50 0 0) (.int 0))) : z_C d mi_X7_hand [.ref 50, .int y, .int x] μ (fun r μ' => r = some (.int 0) ∧ μ' = z_ui μ 50 0 0) := by
  refine z_C_in (by decide) (by omega) (fun d' Z ed hc hr => ?_)
  have hH : zH mi_X7_hand zt_X7_hand 79 7 3 := hh_X7_hand
  refine z_rcs hc hH 2 (pc' := 2) (lv' := [(0, .ref 50), (1, .int y), (2, .int x)]) (st' := [.int 0, .ref 50]) (μ' := μ) (by rfl) ?_
  refine zq_pfi hc hH (by rfl) (ci := 6) (f := 0) (by rfl) (by decide +kernel) (by rfl) ?_
  show Z 0 5 [(0, .ref 50), (1, .int y), (2, .int x)] [] (z_ui μ 50 0 0)
  refine z_rcs hc hH 1 (pc' := 6) (lv' := [(0, .ref 50), (1, .int y), (2, .int x)]) (st' := [.int y]) (μ' := z_ui μ 50 0 0) (by rfl) ?_
  refine zq_call hc (z_cx_ok hH (by rfl)) (hs d' (by omega)) (by decide +kernel) (fun r9 μ9 hq => ?_)
  obtain ⟨hμ9, rfl⟩ := hq
  rw [hμ9]
  clear hμ9 μ9
  show Z 0 9 [(0, .ref 50), (1, .int y), (2, .int x)] [.int 0] (z_ui μ 50 0 0)
  refine z_rcs hc hH 2 (pc' := 29) (lv' := [(0, .ref 50), (1, .int y), (2, .int x)]) (st' := [.int 0]) (μ' := z_ui μ 50 0 0) (by rfl) ?_
  exact hr 0 29 _ _ _ (some (.int 0)) (by decide +kernel) (z_rx_ok hH (by rfl)) (⟨rfl, rfl⟩)
theorem gm_handK (d : Nat) (hd : 3 ≤ d) (μ : zM) (s : Nat) (hs4 : s < 4) (x : Int32) (hk : ∀ d, 1 ≤ d → z_C d mi_X7_isKind [.int x] (z_ui μ 50 0 0) (zR (z_ui μ 50 0 0) (.int 0))) : z_C d mi_X7_hand [.ref 50, .int (nI s), .int x] μ (fun r μ' => r = some (.int 0) ∧ μ' = z_ui μ 50 0 0) := by
  refine z_C_in (by decide) (by omega) (fun d' Z ed hc hr => ?_)
  have hH : zH mi_X7_hand zt_X7_hand 79 7 3 := hh_X7_hand
  refine z_rcs hc hH 2 (pc' := 2) (lv' := [(0, .ref 50), (1, .int (nI s)), (2, .int x)]) (st' := [.int 0, .ref 50]) (μ' := μ) (by rfl) ?_
  refine zq_pfi hc hH (by rfl) (ci := 6) (f := 0) (by rfl) (by decide +kernel) (by rfl) ?_
  show Z 0 5 [(0, .ref 50), (1, .int (nI s)), (2, .int x)] [] (z_ui μ 50 0 0)
  refine z_rcs hc hH 1 (pc' := 6) (lv' := [(0, .ref 50), (1, .int (nI s)), (2, .int x)]) (st' := [.int (nI s)]) (μ' := z_ui μ 50 0 0) (by rfl) ?_
  refine zq_call hc (z_cx_ok hH (by rfl)) (gm_isSeatN d' (by omega) (z_ui μ 50 0 0) s hs4) (by decide +kernel) (fun r9 μ9 hq => ?_)
  obtain ⟨hμ9, rfl⟩ := hq
  rw [hμ9]
  clear hμ9 μ9
  show Z 0 9 [(0, .ref 50), (1, .int (nI s)), (2, .int x)] [.int 1] (z_ui μ 50 0 0)
  refine z_rcs hc hH 2 (pc' := 13) (lv' := [(0, .ref 50), (1, .int (nI s)), (2, .int x)]) (st' := [.int x]) (μ' := z_ui μ 50 0 0) (by rfl) ?_
  refine zq_call hc (z_cx_ok hH (by rfl)) (hk d' (by omega)) (by decide +kernel) (fun r9 μ9 hq => ?_)
  obtain ⟨hμ9, rfl⟩ := hq
  rw [hμ9]
  clear hμ9 μ9
  show Z 0 16 [(0, .ref 50), (1, .int (nI s)), (2, .int x)] [.int 0] (z_ui μ 50 0 0)
  refine z_rcs hc hH 2 (pc' := 29) (lv' := [(0, .ref 50), (1, .int (nI s)), (2, .int x)]) (st' := [.int 0]) (μ' := z_ui μ 50 0 0) (by rfl) ?_
  exact hr 0 29 _ _ _ (some (.int 0)) (by decide +kernel) (z_rx_ok hH (by rfl)) (⟨rfl, rfl⟩)
theorem gm_seat0 (d : Nat) (hd : 4 ≤ d) (μ : zM) (s : Nat) (hs4 : s < 4) : z_C d mi_X7_seat [.ref 50, .int (nI s), .int 0] μ (fun r μ' => r = some (.int (μ.1 61 s)) ∧ μ' = z_ui μ 50 0 0) := by
  refine z_C_in (by decide) (by omega) (fun d' Z ed hc hr => ?_)
  have hH : zH mi_X7_seat zt_X7_seat 79 7 3 := hh_X7_seat
  refine z_rcs hc hH 2 (pc' := 2) (lv' := [(0, .ref 50), (1, .int (nI s)), (2, .int 0)]) (st' := [.int 0, .ref 50]) (μ' := μ) (by rfl) ?_
  refine zq_pfi hc hH (by rfl) (ci := 6) (f := 0) (by rfl) (by decide +kernel) (by rfl) ?_
  show Z 0 5 [(0, .ref 50), (1, .int (nI s)), (2, .int 0)] [] (z_ui μ 50 0 0)
  refine z_rcs hc hH 1 (pc' := 6) (lv' := [(0, .ref 50), (1, .int (nI s)), (2, .int 0)]) (st' := [.int (nI s)]) (μ' := z_ui μ 50 0 0) (by rfl) ?_
  refine zq_call hc (z_cx_ok hH (by rfl)) (gm_isSeatN d' (by omega) (z_ui μ 50 0 0) s hs4) (by decide +kernel) (fun r9 μ9 hq => ?_)
  obtain ⟨hμ9, rfl⟩ := hq
  rw [hμ9]
  clear hμ9 μ9
  show Z 0 9 [(0, .ref 50), (1, .int (nI s)), (2, .int 0)] [.int 1] (z_ui μ 50 0 0)
  refine z_rcs hc hH 4 (pc' := 61) (lv' := [(0, .ref 50), (1, .int (nI s)), (2, .int 0)]) (st' := [.ref 50]) (μ' := z_ui μ 50 0 0) (by rfl) ?_
  refine zq_gfr hc hH (by rfl) (ci := 6) (f := 29) (q := 61) (by rfl) (by decide +kernel) (by rfl) (by decide +kernel) ?_
  refine z_rcs hc hH 1 (pc' := 65) (lv' := [(0, .ref 50), (1, .int (nI s)), (2, .int 0)]) (st' := [.int (nI s), .ref 61]) (μ' := z_ui μ 50 0 0) (by rfl) ?_
  refine zq_iald hc hH (by rfl) 4 (oka_i (by decide +kernel)) (vp_in_nI (by omega) (by decide)) ?_
  rw [nI_clamp (by omega)]
  refine zV1 (Z := Z) (ui_o (by first | decide | omega)) ?_
  exact hr 0 66 _ _ _ (some (.int (μ.1 61 s))) (by decide +kernel) (z_rx_ok hH (by rfl)) (⟨rfl, rfl⟩)
theorem gm_seat1 (d : Nat) (hd : 4 ≤ d) (μ : zM) (s : Nat) (hs4 : s < 4) : z_C d mi_X7_seat [.ref 50, .int (nI s), .int 1] μ (fun r μ' => r = some (.int (μ.1 67 s)) ∧ μ' = z_ui μ 50 0 0) := by
  refine z_C_in (by decide) (by omega) (fun d' Z ed hc hr => ?_)
  have hH : zH mi_X7_seat zt_X7_seat 79 7 3 := hh_X7_seat
  refine z_rcs hc hH 2 (pc' := 2) (lv' := [(0, .ref 50), (1, .int (nI s)), (2, .int 1)]) (st' := [.int 0, .ref 50]) (μ' := μ) (by rfl) ?_
  refine zq_pfi hc hH (by rfl) (ci := 6) (f := 0) (by rfl) (by decide +kernel) (by rfl) ?_
  show Z 0 5 [(0, .ref 50), (1, .int (nI s)), (2, .int 1)] [] (z_ui μ 50 0 0)
  refine z_rcs hc hH 1 (pc' := 6) (lv' := [(0, .ref 50), (1, .int (nI s)), (2, .int 1)]) (st' := [.int (nI s)]) (μ' := z_ui μ 50 0 0) (by rfl) ?_
  refine zq_call hc (z_cx_ok hH (by rfl)) (gm_isSeatN d' (by omega) (z_ui μ 50 0 0) s hs4) (by decide +kernel) (fun r9 μ9 hq => ?_)
  obtain ⟨hμ9, rfl⟩ := hq
  rw [hμ9]
  clear hμ9 μ9
  show Z 0 9 [(0, .ref 50), (1, .int (nI s)), (2, .int 1)] [.int 1] (z_ui μ 50 0 0)
  refine z_rcs hc hH 4 (pc' := 68) (lv' := [(0, .ref 50), (1, .int (nI s)), (2, .int 1)]) (st' := [.ref 50]) (μ' := z_ui μ 50 0 0) (by rfl) ?_
  refine zq_gfr hc hH (by rfl) (ci := 6) (f := 35) (q := 67) (by rfl) (by decide +kernel) (by rfl) (by decide +kernel) ?_
  refine z_rcs hc hH 1 (pc' := 72) (lv' := [(0, .ref 50), (1, .int (nI s)), (2, .int 1)]) (st' := [.int (nI s), .ref 67]) (μ' := z_ui μ 50 0 0) (by rfl) ?_
  refine zq_iald hc hH (by rfl) 4 (oka_i (by decide +kernel)) (vp_in_nI (by omega) (by decide)) ?_
  rw [nI_clamp (by omega)]
  refine zV1 (Z := Z) (ui_o (by first | decide | omega)) ?_
  exact hr 0 73 _ _ _ (some (.int (μ.1 67 s))) (by decide +kernel) (z_rx_ok hH (by rfl)) (⟨rfl, rfl⟩)
theorem gm_seat2 (d : Nat) (hd : 4 ≤ d) (μ : zM) (s : Nat) (hs4 : s < 4) : z_C d mi_X7_seat [.ref 50, .int (nI s), .int 2] μ (fun r μ' => r = some ((bif decide ((μ.1 70 s) = 0) then .int 0 else .int 1)) ∧ μ' = z_ui μ 50 0 0) := by
  refine z_C_in (by decide) (by omega) (fun d' Z ed hc hr => ?_)
  have hH : zH mi_X7_seat zt_X7_seat 79 7 3 := hh_X7_seat
  refine z_rcs hc hH 2 (pc' := 2) (lv' := [(0, .ref 50), (1, .int (nI s)), (2, .int 2)]) (st' := [.int 0, .ref 50]) (μ' := μ) (by rfl) ?_
  refine zq_pfi hc hH (by rfl) (ci := 6) (f := 0) (by rfl) (by decide +kernel) (by rfl) ?_
  show Z 0 5 [(0, .ref 50), (1, .int (nI s)), (2, .int 2)] [] (z_ui μ 50 0 0)
  refine z_rcs hc hH 1 (pc' := 6) (lv' := [(0, .ref 50), (1, .int (nI s)), (2, .int 2)]) (st' := [.int (nI s)]) (μ' := z_ui μ 50 0 0) (by rfl) ?_
  refine zq_call hc (z_cx_ok hH (by rfl)) (gm_isSeatN d' (by omega) (z_ui μ 50 0 0) s hs4) (by decide +kernel) (fun r9 μ9 hq => ?_)
  obtain ⟨hμ9, rfl⟩ := hq
  rw [hμ9]
  clear hμ9 μ9
  show Z 0 9 [(0, .ref 50), (1, .int (nI s)), (2, .int 2)] [.int 1] (z_ui μ 50 0 0)
  refine z_rcs hc hH 4 (pc' := 75) (lv' := [(0, .ref 50), (1, .int (nI s)), (2, .int 2)]) (st' := [.ref 50]) (μ' := z_ui μ 50 0 0) (by rfl) ?_
  refine zq_gfr hc hH (by rfl) (ci := 6) (f := 38) (q := 70) (by rfl) (by decide +kernel) (by rfl) (by decide +kernel) ?_
  refine z_rcs hc hH 1 (pc' := 79) (lv' := [(0, .ref 50), (1, .int (nI s)), (2, .int 2)]) (st' := [.int (nI s), .ref 70]) (μ' := z_ui μ 50 0 0) (by rfl) ?_
  refine zq_bald hc hH (by rfl) 4 (by decide +kernel) (vp_in_nI (by omega) (by decide)) ?_
  rw [nI_clamp (by omega)]
  refine zV1 (Z := Z) (ui_o (by first | decide | omega)) ?_
  refine zq_if hc hH (by rfl) (tg := 87) (by rfl) (fun h1 => ?_) (fun h1 => ?_)
  · have h1 : (decide ((μ.1 70 s) = 0)) = true := decide_eq_true (cm_eq9.mp h1)
    refine z_rcs hc hH 1 (pc' := 88) (lv' := [(0, .ref 50), (1, .int (nI s)), (2, .int 2)]) (st' := [.int 0]) (μ' := z_ui μ 50 0 0) (by rfl) ?_
    exact hr 0 88 _ _ _ (some (.int 0)) (by decide +kernel) (z_rx_ok hH (by rfl)) (⟨(by first | with_reducible rfl | (simp only [h1, cond_true, cond_false]; done) | rfl), (by simp only [h1, cond_true, cond_false])⟩)
  · have h1 : (decide ((μ.1 70 s) = 0)) = false := decide_eq_false (cn_eq.mp h1)
    refine z_rcs hc hH 2 (pc' := 88) (lv' := [(0, .ref 50), (1, .int (nI s)), (2, .int 2)]) (st' := [.int 1]) (μ' := z_ui μ 50 0 0) (by rfl) ?_
    exact hr 0 88 _ _ _ (some (.int 1)) (by decide +kernel) (z_rx_ok hH (by rfl)) (⟨(by first | with_reducible rfl | (simp only [h1, cond_true, cond_false]; done) | rfl), (by simp only [h1, cond_true, cond_false])⟩)
theorem gm_seat3 (d : Nat) (hd : 4 ≤ d) (μ : zM) (s : Nat) (hs4 : s < 4) : z_C d mi_X7_seat [.ref 50, .int (nI s), .int 3] μ (fun r μ' => r = some (.int (wdM (μ.1 50 40) (nI s))) ∧ μ' = z_ui μ 50 0 0) := by
  refine z_C_in (by decide) (by omega) (fun d' Z ed hc hr => ?_)
  have hH : zH mi_X7_seat zt_X7_seat 79 7 3 := hh_X7_seat
  refine z_rcs hc hH 2 (pc' := 2) (lv' := [(0, .ref 50), (1, .int (nI s)), (2, .int 3)]) (st' := [.int 0, .ref 50]) (μ' := μ) (by rfl) ?_
  refine zq_pfi hc hH (by rfl) (ci := 6) (f := 0) (by rfl) (by decide +kernel) (by rfl) ?_
  show Z 0 5 [(0, .ref 50), (1, .int (nI s)), (2, .int 3)] [] (z_ui μ 50 0 0)
  refine z_rcs hc hH 1 (pc' := 6) (lv' := [(0, .ref 50), (1, .int (nI s)), (2, .int 3)]) (st' := [.int (nI s)]) (μ' := z_ui μ 50 0 0) (by rfl) ?_
  refine zq_call hc (z_cx_ok hH (by rfl)) (gm_isSeatN d' (by omega) (z_ui μ 50 0 0) s hs4) (by decide +kernel) (fun r9 μ9 hq => ?_)
  obtain ⟨hμ9, rfl⟩ := hq
  rw [hμ9]
  clear hμ9 μ9
  show Z 0 9 [(0, .ref 50), (1, .int (nI s)), (2, .int 3)] [.int 1] (z_ui μ 50 0 0)
  refine z_rcs hc hH 5 (pc' := 91) (lv' := [(0, .ref 50), (1, .int (nI s)), (2, .int 3)]) (st' := [.int (nI s), .ref 50]) (μ' := z_ui μ 50 0 0) (by rfl) ?_
  refine zq_call hc (z_cx_ok hH (by rfl)) (fx_wind d' (by omega) (z_ui μ 50 0 0) (μ.1 50 40) (nI s) (by rw [ui_k (by first | decide | omega)])) (by decide +kernel) (fun r9 μ9 hq => ?_)
  obtain ⟨hμ9, rfl⟩ := hq
  rw [hμ9]
  clear hμ9 μ9
  show Z 0 94 [(0, .ref 50), (1, .int (nI s)), (2, .int 3)] [.int (wdM (μ.1 50 40) (nI s))] (z_ui μ 50 0 0)
  exact hr 0 94 _ _ _ (some (.int (wdM (μ.1 50 40) (nI s)))) (by decide +kernel) (z_rx_ok hH (by rfl)) (⟨rfl, rfl⟩)
theorem gm_seat4 (d : Nat) (hd : 4 ≤ d) (μ : zM) (s : Nat) (hs4 : s < 4) : z_C d mi_X7_seat [.ref 50, .int (nI s), .int 4] μ (fun r μ' => r = some (.int (μ.1 66 s)) ∧ μ' = z_ui μ 50 0 0) := by
  refine z_C_in (by decide) (by omega) (fun d' Z ed hc hr => ?_)
  have hH : zH mi_X7_seat zt_X7_seat 79 7 3 := hh_X7_seat
  refine z_rcs hc hH 2 (pc' := 2) (lv' := [(0, .ref 50), (1, .int (nI s)), (2, .int 4)]) (st' := [.int 0, .ref 50]) (μ' := μ) (by rfl) ?_
  refine zq_pfi hc hH (by rfl) (ci := 6) (f := 0) (by rfl) (by decide +kernel) (by rfl) ?_
  show Z 0 5 [(0, .ref 50), (1, .int (nI s)), (2, .int 4)] [] (z_ui μ 50 0 0)
  refine z_rcs hc hH 1 (pc' := 6) (lv' := [(0, .ref 50), (1, .int (nI s)), (2, .int 4)]) (st' := [.int (nI s)]) (μ' := z_ui μ 50 0 0) (by rfl) ?_
  refine zq_call hc (z_cx_ok hH (by rfl)) (gm_isSeatN d' (by omega) (z_ui μ 50 0 0) s hs4) (by decide +kernel) (fun r9 μ9 hq => ?_)
  obtain ⟨hμ9, rfl⟩ := hq
  rw [hμ9]
  clear hμ9 μ9
  show Z 0 9 [(0, .ref 50), (1, .int (nI s)), (2, .int 4)] [.int 1] (z_ui μ 50 0 0)
  refine z_rcs hc hH 4 (pc' := 96) (lv' := [(0, .ref 50), (1, .int (nI s)), (2, .int 4)]) (st' := [.ref 50]) (μ' := z_ui μ 50 0 0) (by rfl) ?_
  refine zq_gfr hc hH (by rfl) (ci := 6) (f := 34) (q := 66) (by rfl) (by decide +kernel) (by rfl) (by decide +kernel) ?_
  refine z_rcs hc hH 1 (pc' := 100) (lv' := [(0, .ref 50), (1, .int (nI s)), (2, .int 4)]) (st' := [.int (nI s), .ref 66]) (μ' := z_ui μ 50 0 0) (by rfl) ?_
  refine zq_iald hc hH (by rfl) 4 (oka_i (by decide +kernel)) (vp_in_nI (by omega) (by decide)) ?_
  rw [nI_clamp (by omega)]
  refine zV1 (Z := Z) (ui_o (by first | decide | omega)) ?_
  exact hr 0 101 _ _ _ (some (.int (μ.1 66 s))) (by decide +kernel) (z_rx_ok hH (by rfl)) (⟨rfl, rfl⟩)
theorem gm_seat5 (d : Nat) (hd : 4 ≤ d) (μ : zM) (s : Nat) (hs4 : s < 4) : z_C d mi_X7_seat [.ref 50, .int (nI s), .int 5] μ (fun r μ' => r = some (.int (μ.1 64 s)) ∧ μ' = z_ui μ 50 0 0) := by
  refine z_C_in (by decide) (by omega) (fun d' Z ed hc hr => ?_)
  have hH : zH mi_X7_seat zt_X7_seat 79 7 3 := hh_X7_seat
  refine z_rcs hc hH 2 (pc' := 2) (lv' := [(0, .ref 50), (1, .int (nI s)), (2, .int 5)]) (st' := [.int 0, .ref 50]) (μ' := μ) (by rfl) ?_
  refine zq_pfi hc hH (by rfl) (ci := 6) (f := 0) (by rfl) (by decide +kernel) (by rfl) ?_
  show Z 0 5 [(0, .ref 50), (1, .int (nI s)), (2, .int 5)] [] (z_ui μ 50 0 0)
  refine z_rcs hc hH 1 (pc' := 6) (lv' := [(0, .ref 50), (1, .int (nI s)), (2, .int 5)]) (st' := [.int (nI s)]) (μ' := z_ui μ 50 0 0) (by rfl) ?_
  refine zq_call hc (z_cx_ok hH (by rfl)) (gm_isSeatN d' (by omega) (z_ui μ 50 0 0) s hs4) (by decide +kernel) (fun r9 μ9 hq => ?_)
  obtain ⟨hμ9, rfl⟩ := hq
  rw [hμ9]
  clear hμ9 μ9
  show Z 0 9 [(0, .ref 50), (1, .int (nI s)), (2, .int 5)] [.int 1] (z_ui μ 50 0 0)
  refine z_rcs hc hH 4 (pc' := 103) (lv' := [(0, .ref 50), (1, .int (nI s)), (2, .int 5)]) (st' := [.ref 50]) (μ' := z_ui μ 50 0 0) (by rfl) ?_
  refine zq_gfr hc hH (by rfl) (ci := 6) (f := 32) (q := 64) (by rfl) (by decide +kernel) (by rfl) (by decide +kernel) ?_
  refine z_rcs hc hH 1 (pc' := 107) (lv' := [(0, .ref 50), (1, .int (nI s)), (2, .int 5)]) (st' := [.int (nI s), .ref 64]) (μ' := z_ui μ 50 0 0) (by rfl) ?_
  refine zq_iald hc hH (by rfl) 4 (oka_i (by decide +kernel)) (vp_in_nI (by omega) (by decide)) ?_
  rw [nI_clamp (by omega)]
  refine zV1 (Z := Z) (ui_o (by first | decide | omega)) ?_
  exact hr 0 108 _ _ _ (some (.int (μ.1 64 s))) (by decide +kernel) (z_rx_ok hH (by rfl)) (⟨rfl, rfl⟩)
theorem gm_seat6 (d : Nat) (hd : 4 ≤ d) (μ : zM) (s : Nat) (hs4 : s < 4) (op : Bool) (hop : ∀ d, 1 ≤ d → z_C d mi_X7_isOpen_ [.ref 50, .int (nI s)] (z_ui μ 50 0 0) (zR (z_ui μ 50 0 0) (.int (nB op)))) : z_C d mi_X7_seat [.ref 50, .int (nI s), .int 6] μ (fun r μ' => r = some ((bif op then .int 1 else .int 0)) ∧ μ' = z_ui μ 50 0 0) := by
  refine z_C_in (by decide) (by omega) (fun d' Z ed hc hr => ?_)
  have hH : zH mi_X7_seat zt_X7_seat 79 7 3 := hh_X7_seat
  refine z_rcs hc hH 2 (pc' := 2) (lv' := [(0, .ref 50), (1, .int (nI s)), (2, .int 6)]) (st' := [.int 0, .ref 50]) (μ' := μ) (by rfl) ?_
  refine zq_pfi hc hH (by rfl) (ci := 6) (f := 0) (by rfl) (by decide +kernel) (by rfl) ?_
  show Z 0 5 [(0, .ref 50), (1, .int (nI s)), (2, .int 6)] [] (z_ui μ 50 0 0)
  refine z_rcs hc hH 1 (pc' := 6) (lv' := [(0, .ref 50), (1, .int (nI s)), (2, .int 6)]) (st' := [.int (nI s)]) (μ' := z_ui μ 50 0 0) (by rfl) ?_
  refine zq_call hc (z_cx_ok hH (by rfl)) (gm_isSeatN d' (by omega) (z_ui μ 50 0 0) s hs4) (by decide +kernel) (fun r9 μ9 hq => ?_)
  obtain ⟨hμ9, rfl⟩ := hq
  rw [hμ9]
  clear hμ9 μ9
  show Z 0 9 [(0, .ref 50), (1, .int (nI s)), (2, .int 6)] [.int 1] (z_ui μ 50 0 0)
  refine z_rcs hc hH 5 (pc' := 111) (lv' := [(0, .ref 50), (1, .int (nI s)), (2, .int 6)]) (st' := [.int (nI s), .ref 50]) (μ' := z_ui μ 50 0 0) (by rfl) ?_
  refine zq_call hc (z_cx_ok hH (by rfl)) (hop d' (by omega)) (by decide +kernel) (fun r9 μ9 hq => ?_)
  obtain ⟨hμ9, rfl⟩ := hq
  rw [hμ9]
  clear hμ9 μ9
  show Z 0 114 [(0, .ref 50), (1, .int (nI s)), (2, .int 6)] [.int (nB op)] (z_ui μ 50 0 0)
  refine zq_if hc hH (by rfl) (tg := 121) (by rfl) (fun h1 => ?_) (fun h1 => ?_)
  · have h1 : (op) = false := nB_z.mp (cm_eq9.mp h1)
    refine z_rcs hc hH 1 (pc' := 122) (lv' := [(0, .ref 50), (1, .int (nI s)), (2, .int 6)]) (st' := [.int 0]) (μ' := z_ui μ 50 0 0) (by rfl) ?_
    exact hr 0 122 _ _ _ (some (.int 0)) (by decide +kernel) (z_rx_ok hH (by rfl)) (⟨(by first | with_reducible rfl | (simp only [h1, cond_true, cond_false]; done) | rfl), (by simp only [h1, cond_true, cond_false])⟩)
  · have h1 : (op) = true := nB_n.mp (cn_eq.mp h1)
    refine z_rcs hc hH 2 (pc' := 122) (lv' := [(0, .ref 50), (1, .int (nI s)), (2, .int 6)]) (st' := [.int 1]) (μ' := z_ui μ 50 0 0) (by rfl) ?_
    exact hr 0 122 _ _ _ (some (.int 1)) (by decide +kernel) (z_rx_ok hH (by rfl)) (⟨(by first | with_reducible rfl | (simp only [h1, cond_true, cond_false]; done) | rfl), (by simp only [h1, cond_true, cond_false])⟩)
theorem gm_seat7 (d : Nat) (hd : 4 ≤ d) (μ : zM) (s : Nat) (hs4 : s < 4) : z_C d mi_X7_seat [.ref 50, .int (nI s), .int 7] μ (fun r μ' => r = some ((bif decide ((μ.1 71 s) = 0) then .int 0 else .int 1)) ∧ μ' = z_ui μ 50 0 0) := by
  refine z_C_in (by decide) (by omega) (fun d' Z ed hc hr => ?_)
  have hH : zH mi_X7_seat zt_X7_seat 79 7 3 := hh_X7_seat
  refine z_rcs hc hH 2 (pc' := 2) (lv' := [(0, .ref 50), (1, .int (nI s)), (2, .int 7)]) (st' := [.int 0, .ref 50]) (μ' := μ) (by rfl) ?_
  refine zq_pfi hc hH (by rfl) (ci := 6) (f := 0) (by rfl) (by decide +kernel) (by rfl) ?_
  show Z 0 5 [(0, .ref 50), (1, .int (nI s)), (2, .int 7)] [] (z_ui μ 50 0 0)
  refine z_rcs hc hH 1 (pc' := 6) (lv' := [(0, .ref 50), (1, .int (nI s)), (2, .int 7)]) (st' := [.int (nI s)]) (μ' := z_ui μ 50 0 0) (by rfl) ?_
  refine zq_call hc (z_cx_ok hH (by rfl)) (gm_isSeatN d' (by omega) (z_ui μ 50 0 0) s hs4) (by decide +kernel) (fun r9 μ9 hq => ?_)
  obtain ⟨hμ9, rfl⟩ := hq
  rw [hμ9]
  clear hμ9 μ9
  show Z 0 9 [(0, .ref 50), (1, .int (nI s)), (2, .int 7)] [.int 1] (z_ui μ 50 0 0)
  refine z_rcs hc hH 4 (pc' := 124) (lv' := [(0, .ref 50), (1, .int (nI s)), (2, .int 7)]) (st' := [.ref 50]) (μ' := z_ui μ 50 0 0) (by rfl) ?_
  refine zq_gfr hc hH (by rfl) (ci := 6) (f := 39) (q := 71) (by rfl) (by decide +kernel) (by rfl) (by decide +kernel) ?_
  refine z_rcs hc hH 1 (pc' := 128) (lv' := [(0, .ref 50), (1, .int (nI s)), (2, .int 7)]) (st' := [.int (nI s), .ref 71]) (μ' := z_ui μ 50 0 0) (by rfl) ?_
  refine zq_bald hc hH (by rfl) 4 (by decide +kernel) (vp_in_nI (by omega) (by decide)) ?_
  rw [nI_clamp (by omega)]
  refine zV1 (Z := Z) (ui_o (by first | decide | omega)) ?_
  refine zq_if hc hH (by rfl) (tg := 136) (by rfl) (fun h1 => ?_) (fun h1 => ?_)
  · have h1 : (decide ((μ.1 71 s) = 0)) = true := decide_eq_true (cm_eq9.mp h1)
    refine z_rcs hc hH 1 (pc' := 137) (lv' := [(0, .ref 50), (1, .int (nI s)), (2, .int 7)]) (st' := [.int 0]) (μ' := z_ui μ 50 0 0) (by rfl) ?_
    exact hr 0 137 _ _ _ (some (.int 0)) (by decide +kernel) (z_rx_ok hH (by rfl)) (⟨(by first | with_reducible rfl | (simp only [h1, cond_true, cond_false]; done) | rfl), (by simp only [h1, cond_true, cond_false])⟩)
  · have h1 : (decide ((μ.1 71 s) = 0)) = false := decide_eq_false (cn_eq.mp h1)
    refine z_rcs hc hH 2 (pc' := 137) (lv' := [(0, .ref 50), (1, .int (nI s)), (2, .int 7)]) (st' := [.int 1]) (μ' := z_ui μ 50 0 0) (by rfl) ?_
    exact hr 0 137 _ _ _ (some (.int 1)) (by decide +kernel) (z_rx_ok hH (by rfl)) (⟨(by first | with_reducible rfl | (simp only [h1, cond_true, cond_false]; done) | rfl), (by simp only [h1, cond_true, cond_false])⟩)
theorem gm_seatd (d : Nat) (hd : 4 ≤ d) (μ : zM) (s : Nat) (hs4 : s < 4) (x : Int32) (hx : (decide (x.toInt < 0) || decide (7 < x.toInt)) = true) : z_C d mi_X7_seat [.ref 50, .int (nI s), .int x] μ (fun r μ' => r = some (.int (-1)) ∧ μ' = z_ui μ 50 0 0) := by
  refine z_C_in (by decide) (by omega) (fun d' Z ed hc hr => ?_)
  have hH : zH mi_X7_seat zt_X7_seat 79 7 3 := hh_X7_seat
  refine z_rcs hc hH 2 (pc' := 2) (lv' := [(0, .ref 50), (1, .int (nI s)), (2, .int x)]) (st' := [.int 0, .ref 50]) (μ' := μ) (by rfl) ?_
  refine zq_pfi hc hH (by rfl) (ci := 6) (f := 0) (by rfl) (by decide +kernel) (by rfl) ?_
  show Z 0 5 [(0, .ref 50), (1, .int (nI s)), (2, .int x)] [] (z_ui μ 50 0 0)
  refine z_rcs hc hH 1 (pc' := 6) (lv' := [(0, .ref 50), (1, .int (nI s)), (2, .int x)]) (st' := [.int (nI s)]) (μ' := z_ui μ 50 0 0) (by rfl) ?_
  refine zq_call hc (z_cx_ok hH (by rfl)) (gm_isSeatN d' (by omega) (z_ui μ 50 0 0) s hs4) (by decide +kernel) (fun r9 μ9 hq => ?_)
  obtain ⟨hμ9, rfl⟩ := hq
  rw [hμ9]
  clear hμ9 μ9
  show Z 0 9 [(0, .ref 50), (1, .int (nI s)), (2, .int x)] [.int 1] (z_ui μ 50 0 0)
  refine z_rcs hc hH 2 (pc' := 15) (lv' := [(0, .ref 50), (1, .int (nI s)), (2, .int x)]) (st' := [.int x]) (μ' := z_ui μ 50 0 0) (by rfl) ?_
  refine zq_tsd hc hH (by rfl) (tg := 138) (by rfl) hx ?_
  refine z_rcs hc hH 1 (pc' := 139) (lv' := [(0, .ref 50), (1, .int (nI s)), (2, .int x)]) (st' := [.int (-1)]) (μ' := z_ui μ 50 0 0) (by rfl) ?_
  exact hr 0 139 _ _ _ (some (.int (-1))) (by decide +kernel) (z_rx_ok hH (by rfl)) (⟨rfl, rfl⟩)
theorem gm_seatS (d : Nat) (hd : 4 ≤ d) (μ : zM) (y x : Int32) (hs : ∀ d, 1 ≤ d → z_C d mi_X7_isSeat [.int y] (z_ui μ 50 0 0) (zR (z_ui μ 50 0 0) (.int 0))) : z_C d mi_X7_seat [.ref 50, .int y, .int x] μ (fun r μ' => r = some (.int (-1)) ∧ μ' = z_ui μ 50 0 0) := by
  refine z_C_in (by decide) (by omega) (fun d' Z ed hc hr => ?_)
  have hH : zH mi_X7_seat zt_X7_seat 79 7 3 := hh_X7_seat
  refine z_rcs hc hH 2 (pc' := 2) (lv' := [(0, .ref 50), (1, .int y), (2, .int x)]) (st' := [.int 0, .ref 50]) (μ' := μ) (by rfl) ?_
  refine zq_pfi hc hH (by rfl) (ci := 6) (f := 0) (by rfl) (by decide +kernel) (by rfl) ?_
  show Z 0 5 [(0, .ref 50), (1, .int y), (2, .int x)] [] (z_ui μ 50 0 0)
  refine z_rcs hc hH 1 (pc' := 6) (lv' := [(0, .ref 50), (1, .int y), (2, .int x)]) (st' := [.int y]) (μ' := z_ui μ 50 0 0) (by rfl) ?_
  refine zq_call hc (z_cx_ok hH (by rfl)) (hs d' (by omega)) (by decide +kernel) (fun r9 μ9 hq => ?_)
  obtain ⟨hμ9, rfl⟩ := hq
  rw [hμ9]
  clear hμ9 μ9
  show Z 0 9 [(0, .ref 50), (1, .int y), (2, .int x)] [.int 0] (z_ui μ 50 0 0)
  refine z_rcs hc hH 2 (pc' := 13) (lv' := [(0, .ref 50), (1, .int y), (2, .int x)]) (st' := [.int (-1)]) (μ' := z_ui μ 50 0 0) (by rfl) ?_
  exact hr 0 13 _ _ _ (some (.int (-1))) (by decide +kernel) (z_rx_ok hH (by rfl)) (⟨rfl, rfl⟩)
theorem gm_count0 (d : Nat) (hd : 4 ≤ d) (μ : zM) : z_C d mi_X7_count [.ref 50, .int 0] μ (fun r μ' => r = some (.int (μ.1 50 44)) ∧ μ' = z_ui μ 50 0 0) := by
  refine z_C_in (by decide) (by omega) (fun d' Z ed hc hr => ?_)
  have hH : zH mi_X7_count zt_X7_count 79 7 2 := hh_X7_count
  refine z_rcs hc hH 2 (pc' := 2) (lv' := [(0, .ref 50), (1, .int 0)]) (st' := [.int 0, .ref 50]) (μ' := μ) (by rfl) ?_
  refine zq_pfi hc hH (by rfl) (ci := 6) (f := 0) (by rfl) (by decide +kernel) (by rfl) ?_
  show Z 0 5 [(0, .ref 50), (1, .int 0)] [] (z_ui μ 50 0 0)
  refine z_rcs hc hH 3 (pc' := 73) (lv' := [(0, .ref 50), (1, .int 0)]) (st' := [.ref 50]) (μ' := z_ui μ 50 0 0) (by rfl) ?_
  refine zq_gfi hc hH (by rfl) (ci := 6) (f := 44) (by rfl) (by decide +kernel) (by rfl) ?_
  refine zV1 (Z := Z) (ui_k (by first | decide | omega)) ?_
  exact hr 0 76 _ _ _ (some (.int (μ.1 50 44))) (by decide +kernel) (z_rx_ok hH (by rfl)) (⟨rfl, rfl⟩)
theorem gm_count1 (d : Nat) (hd : 4 ≤ d) (μ : zM) : z_C d mi_X7_count [.ref 50, .int 1] μ (fun r μ' => r = some ((bif decide ((μ.1 50 44) = 0) then .int (-1) else .int (μ.1 50 45))) ∧ μ' = z_ui μ 50 0 0) := by
  refine z_C_in (by decide) (by omega) (fun d' Z ed hc hr => ?_)
  have hH : zH mi_X7_count zt_X7_count 79 7 2 := hh_X7_count
  refine z_rcs hc hH 2 (pc' := 2) (lv' := [(0, .ref 50), (1, .int 1)]) (st' := [.int 0, .ref 50]) (μ' := μ) (by rfl) ?_
  refine zq_pfi hc hH (by rfl) (ci := 6) (f := 0) (by rfl) (by decide +kernel) (by rfl) ?_
  show Z 0 5 [(0, .ref 50), (1, .int 1)] [] (z_ui μ 50 0 0)
  refine z_rcs hc hH 3 (pc' := 78) (lv' := [(0, .ref 50), (1, .int 1)]) (st' := [.ref 50]) (μ' := z_ui μ 50 0 0) (by rfl) ?_
  refine zq_gfi hc hH (by rfl) (ci := 6) (f := 44) (by rfl) (by decide +kernel) (by rfl) ?_
  refine zV1 (Z := Z) (ui_k (by first | decide | omega)) ?_
  refine zq_if hc hH (by rfl) (tg := 88) (by rfl) (fun h1 => ?_) (fun h1 => ?_)
  · have h1 : (decide ((μ.1 50 44) = 0)) = false := decide_eq_false (cm_ne.mp h1)
    refine z_rcs hc hH 1 (pc' := 89) (lv' := [(0, .ref 50), (1, .int 1)]) (st' := [.ref 50]) (μ' := z_ui μ 50 0 0) (by rfl) ?_
    refine zq_gfi hc hH (by rfl) (ci := 6) (f := 45) (by rfl) (by decide +kernel) (by rfl) ?_
    refine zV1 (Z := Z) (ui_k (by first | decide | omega)) ?_
    exact hr 0 92 _ _ _ (some (.int (μ.1 50 45))) (by decide +kernel) (z_rx_ok hH (by rfl)) (⟨(by first | with_reducible rfl | (simp only [h1, cond_true, cond_false]; done) | rfl), (by simp only [h1, cond_true, cond_false])⟩)
  · have h1 : (decide ((μ.1 50 44) = 0)) = true := decide_eq_true (cn_ne.mp h1)
    refine z_rcs hc hH 2 (pc' := 92) (lv' := [(0, .ref 50), (1, .int 1)]) (st' := [.int (-1)]) (μ' := z_ui μ 50 0 0) (by rfl) ?_
    exact hr 0 92 _ _ _ (some (.int (-1))) (by decide +kernel) (z_rx_ok hH (by rfl)) (⟨(by first | with_reducible rfl | (simp only [h1, cond_true, cond_false]; done) | rfl), (by simp only [h1, cond_true, cond_false])⟩)
theorem gm_count2 (d : Nat) (hd : 4 ≤ d) (μ : zM) : z_C d mi_X7_count [.ref 50, .int 2] μ (fun r μ' => r = some (.int (μ.1 50 40)) ∧ μ' = z_ui μ 50 0 0) := by
  refine z_C_in (by decide) (by omega) (fun d' Z ed hc hr => ?_)
  have hH : zH mi_X7_count zt_X7_count 79 7 2 := hh_X7_count
  refine z_rcs hc hH 2 (pc' := 2) (lv' := [(0, .ref 50), (1, .int 2)]) (st' := [.int 0, .ref 50]) (μ' := μ) (by rfl) ?_
  refine zq_pfi hc hH (by rfl) (ci := 6) (f := 0) (by rfl) (by decide +kernel) (by rfl) ?_
  show Z 0 5 [(0, .ref 50), (1, .int 2)] [] (z_ui μ 50 0 0)
  refine z_rcs hc hH 3 (pc' := 94) (lv' := [(0, .ref 50), (1, .int 2)]) (st' := [.ref 50]) (μ' := z_ui μ 50 0 0) (by rfl) ?_
  refine zq_gfi hc hH (by rfl) (ci := 6) (f := 40) (by rfl) (by decide +kernel) (by rfl) ?_
  refine zV1 (Z := Z) (ui_k (by first | decide | omega)) ?_
  exact hr 0 97 _ _ _ (some (.int (μ.1 50 40))) (by decide +kernel) (z_rx_ok hH (by rfl)) (⟨rfl, rfl⟩)
theorem gm_count3 (d : Nat) (hd : 4 ≤ d) (μ : zM) : z_C d mi_X7_count [.ref 50, .int 3] μ (fun r μ' => r = some (.int (μ.1 50 41)) ∧ μ' = z_ui μ 50 0 0) := by
  refine z_C_in (by decide) (by omega) (fun d' Z ed hc hr => ?_)
  have hH : zH mi_X7_count zt_X7_count 79 7 2 := hh_X7_count
  refine z_rcs hc hH 2 (pc' := 2) (lv' := [(0, .ref 50), (1, .int 3)]) (st' := [.int 0, .ref 50]) (μ' := μ) (by rfl) ?_
  refine zq_pfi hc hH (by rfl) (ci := 6) (f := 0) (by rfl) (by decide +kernel) (by rfl) ?_
  show Z 0 5 [(0, .ref 50), (1, .int 3)] [] (z_ui μ 50 0 0)
  refine z_rcs hc hH 3 (pc' := 99) (lv' := [(0, .ref 50), (1, .int 3)]) (st' := [.ref 50]) (μ' := z_ui μ 50 0 0) (by rfl) ?_
  refine zq_gfi hc hH (by rfl) (ci := 6) (f := 41) (by rfl) (by decide +kernel) (by rfl) ?_
  refine zV1 (Z := Z) (ui_k (by first | decide | omega)) ?_
  exact hr 0 102 _ _ _ (some (.int (μ.1 50 41))) (by decide +kernel) (z_rx_ok hH (by rfl)) (⟨rfl, rfl⟩)
theorem gm_count4 (d : Nat) (hd : 4 ≤ d) (μ : zM) : z_C d mi_X7_count [.ref 50, .int 4] μ (fun r μ' => r = some (.int (μ.1 50 42)) ∧ μ' = z_ui μ 50 0 0) := by
  refine z_C_in (by decide) (by omega) (fun d' Z ed hc hr => ?_)
  have hH : zH mi_X7_count zt_X7_count 79 7 2 := hh_X7_count
  refine z_rcs hc hH 2 (pc' := 2) (lv' := [(0, .ref 50), (1, .int 4)]) (st' := [.int 0, .ref 50]) (μ' := μ) (by rfl) ?_
  refine zq_pfi hc hH (by rfl) (ci := 6) (f := 0) (by rfl) (by decide +kernel) (by rfl) ?_
  show Z 0 5 [(0, .ref 50), (1, .int 4)] [] (z_ui μ 50 0 0)
  refine z_rcs hc hH 3 (pc' := 104) (lv' := [(0, .ref 50), (1, .int 4)]) (st' := [.ref 50]) (μ' := z_ui μ 50 0 0) (by rfl) ?_
  refine zq_gfi hc hH (by rfl) (ci := 6) (f := 42) (by rfl) (by decide +kernel) (by rfl) ?_
  refine zV1 (Z := Z) (ui_k (by first | decide | omega)) ?_
  exact hr 0 107 _ _ _ (some (.int (μ.1 50 42))) (by decide +kernel) (z_rx_ok hH (by rfl)) (⟨rfl, rfl⟩)
theorem gm_count5 (d : Nat) (hd : 4 ≤ d) (μ : zM) : z_C d mi_X7_count [.ref 50, .int 5] μ (fun r μ' => r = some (.int (μ.1 50 43)) ∧ μ' = z_ui μ 50 0 0) := by
  refine z_C_in (by decide) (by omega) (fun d' Z ed hc hr => ?_)
  have hH : zH mi_X7_count zt_X7_count 79 7 2 := hh_X7_count
  refine z_rcs hc hH 2 (pc' := 2) (lv' := [(0, .ref 50), (1, .int 5)]) (st' := [.int 0, .ref 50]) (μ' := μ) (by rfl) ?_
  refine zq_pfi hc hH (by rfl) (ci := 6) (f := 0) (by rfl) (by decide +kernel) (by rfl) ?_
  show Z 0 5 [(0, .ref 50), (1, .int 5)] [] (z_ui μ 50 0 0)
  refine z_rcs hc hH 3 (pc' := 109) (lv' := [(0, .ref 50), (1, .int 5)]) (st' := [.ref 50]) (μ' := z_ui μ 50 0 0) (by rfl) ?_
  refine zq_gfi hc hH (by rfl) (ci := 6) (f := 43) (by rfl) (by decide +kernel) (by rfl) ?_
  refine zV1 (Z := Z) (ui_k (by first | decide | omega)) ?_
  exact hr 0 112 _ _ _ (some (.int (μ.1 50 43))) (by decide +kernel) (z_rx_ok hH (by rfl)) (⟨rfl, rfl⟩)
theorem gm_count6 (d : Nat) (hd : 4 ≤ d) (μ : zM) : z_C d mi_X7_count [.ref 50, .int 6] μ (fun r μ' => r = some ((bif decide ((μ.1 50 55) = 0) then .int 0 else .int ((122 - (μ.1 50 47)) - (μ.1 50 46)))) ∧ μ' = z_ui μ 50 0 0) := by
  refine z_C_in (by decide) (by omega) (fun d' Z ed hc hr => ?_)
  have hH : zH mi_X7_count zt_X7_count 79 7 2 := hh_X7_count
  refine z_rcs hc hH 2 (pc' := 2) (lv' := [(0, .ref 50), (1, .int 6)]) (st' := [.int 0, .ref 50]) (μ' := μ) (by rfl) ?_
  refine zq_pfi hc hH (by rfl) (ci := 6) (f := 0) (by rfl) (by decide +kernel) (by rfl) ?_
  show Z 0 5 [(0, .ref 50), (1, .int 6)] [] (z_ui μ 50 0 0)
  refine z_rcs hc hH 3 (pc' := 114) (lv' := [(0, .ref 50), (1, .int 6)]) (st' := [.ref 50]) (μ' := z_ui μ 50 0 0) (by rfl) ?_
  refine zq_gfi hc hH (by rfl) (ci := 6) (f := 55) (by rfl) (by decide +kernel) (by rfl) ?_
  refine zV1 (Z := Z) (ui_k (by first | decide | omega)) ?_
  refine zq_if hc hH (by rfl) (tg := 127) (by rfl) (fun h1 => ?_) (fun h1 => ?_)
  · have h1 : (decide ((μ.1 50 55) = 0)) = true := decide_eq_true (cm_eq9.mp h1)
    refine z_rcs hc hH 1 (pc' := 128) (lv' := [(0, .ref 50), (1, .int 6)]) (st' := [.int 0]) (μ' := z_ui μ 50 0 0) (by rfl) ?_
    exact hr 0 128 _ _ _ (some (.int 0)) (by decide +kernel) (z_rx_ok hH (by rfl)) (⟨(by first | with_reducible rfl | (simp only [h1, cond_true, cond_false]; done) | rfl), (by simp only [h1, cond_true, cond_false])⟩)
  · have h1 : (decide ((μ.1 50 55) = 0)) = false := decide_eq_false (cn_eq.mp h1)
    refine z_rcs hc hH 1 (pc' := 121) (lv' := [(0, .ref 50), (1, .int 6)]) (st' := [.ref 50]) (μ' := z_ui μ 50 0 0) (by rfl) ?_
    refine zq_call hc (z_cx_ok hH (by rfl)) (fx_left d' (by omega) (z_ui μ 50 0 0) (μ.1 50 47) (μ.1 50 46) (by rw [ui_k (by first | decide | omega)]) (by rw [ui_k (by first | decide | omega)])) (by decide +kernel) (fun r9 μ9 hq => ?_)
    obtain ⟨hμ9, rfl⟩ := hq
    rw [hμ9]
    clear hμ9 μ9
    show Z 0 124 [(0, .ref 50), (1, .int 6)] [.int ((122 - (μ.1 50 47)) - (μ.1 50 46))] (z_ui μ 50 0 0)
    refine z_rcs hc hH 1 (pc' := 128) (lv' := [(0, .ref 50), (1, .int 6)]) (st' := [.int ((122 - (μ.1 50 47)) - (μ.1 50 46))]) (μ' := z_ui μ 50 0 0) (by rfl) ?_
    exact hr 0 128 _ _ _ (some (.int ((122 - (μ.1 50 47)) - (μ.1 50 46)))) (by decide +kernel) (z_rx_ok hH (by rfl)) (⟨(by first | with_reducible rfl | (simp only [h1, cond_true, cond_false]; done) | rfl), (by simp only [h1, cond_true, cond_false])⟩)
theorem gm_count7 (d : Nat) (hd : 4 ≤ d) (μ : zM) : z_C d mi_X7_count [.ref 50, .int 7] μ (fun r μ' => r = some (.int (μ.1 50 47)) ∧ μ' = z_ui μ 50 0 0) := by
  refine z_C_in (by decide) (by omega) (fun d' Z ed hc hr => ?_)
  have hH : zH mi_X7_count zt_X7_count 79 7 2 := hh_X7_count
  refine z_rcs hc hH 2 (pc' := 2) (lv' := [(0, .ref 50), (1, .int 7)]) (st' := [.int 0, .ref 50]) (μ' := μ) (by rfl) ?_
  refine zq_pfi hc hH (by rfl) (ci := 6) (f := 0) (by rfl) (by decide +kernel) (by rfl) ?_
  show Z 0 5 [(0, .ref 50), (1, .int 7)] [] (z_ui μ 50 0 0)
  refine z_rcs hc hH 3 (pc' := 130) (lv' := [(0, .ref 50), (1, .int 7)]) (st' := [.ref 50]) (μ' := z_ui μ 50 0 0) (by rfl) ?_
  refine zq_gfi hc hH (by rfl) (ci := 6) (f := 47) (by rfl) (by decide +kernel) (by rfl) ?_
  refine zV1 (Z := Z) (ui_k (by first | decide | omega)) ?_
  exact hr 0 133 _ _ _ (some (.int (μ.1 50 47))) (by decide +kernel) (z_rx_ok hH (by rfl)) (⟨rfl, rfl⟩)
theorem gm_count8 (d : Nat) (hd : 4 ≤ d) (μ : zM) : z_C d mi_X7_count [.ref 50, .int 8] μ (fun r μ' => r = some ((bif decide ((μ.1 50 55) = 0) then .int 0 else .int (1 + (μ.1 50 47)))) ∧ μ' = z_ui μ 50 0 0) := by
  refine z_C_in (by decide) (by omega) (fun d' Z ed hc hr => ?_)
  have hH : zH mi_X7_count zt_X7_count 79 7 2 := hh_X7_count
  refine z_rcs hc hH 2 (pc' := 2) (lv' := [(0, .ref 50), (1, .int 8)]) (st' := [.int 0, .ref 50]) (μ' := μ) (by rfl) ?_
  refine zq_pfi hc hH (by rfl) (ci := 6) (f := 0) (by rfl) (by decide +kernel) (by rfl) ?_
  show Z 0 5 [(0, .ref 50), (1, .int 8)] [] (z_ui μ 50 0 0)
  refine z_rcs hc hH 3 (pc' := 135) (lv' := [(0, .ref 50), (1, .int 8)]) (st' := [.ref 50]) (μ' := z_ui μ 50 0 0) (by rfl) ?_
  refine zq_gfi hc hH (by rfl) (ci := 6) (f := 55) (by rfl) (by decide +kernel) (by rfl) ?_
  refine zV1 (Z := Z) (ui_k (by first | decide | omega)) ?_
  refine zq_if hc hH (by rfl) (tg := 150) (by rfl) (fun h1 => ?_) (fun h1 => ?_)
  · have h1 : (decide ((μ.1 50 55) = 0)) = true := decide_eq_true (cm_eq9.mp h1)
    refine z_rcs hc hH 1 (pc' := 151) (lv' := [(0, .ref 50), (1, .int 8)]) (st' := [.int 0]) (μ' := z_ui μ 50 0 0) (by rfl) ?_
    exact hr 0 151 _ _ _ (some (.int 0)) (by decide +kernel) (z_rx_ok hH (by rfl)) (⟨(by first | with_reducible rfl | (simp only [h1, cond_true, cond_false]; done) | rfl), (by simp only [h1, cond_true, cond_false])⟩)
  · have h1 : (decide ((μ.1 50 55) = 0)) = false := decide_eq_false (cn_eq.mp h1)
    refine z_rcs hc hH 2 (pc' := 143) (lv' := [(0, .ref 50), (1, .int 8)]) (st' := [.ref 50, .int 1]) (μ' := z_ui μ 50 0 0) (by rfl) ?_
    refine zq_gfi hc hH (by rfl) (ci := 6) (f := 47) (by rfl) (by decide +kernel) (by rfl) ?_
    refine zV1 (Z := Z) (ui_k (by first | decide | omega)) ?_
    refine z_rcs hc hH 2 (pc' := 151) (lv' := [(0, .ref 50), (1, .int 8)]) (st' := [.int (1 + (μ.1 50 47))]) (μ' := z_ui μ 50 0 0) (by rfl) ?_
    exact hr 0 151 _ _ _ (some (.int (1 + (μ.1 50 47)))) (by decide +kernel) (z_rx_ok hH (by rfl)) (⟨(by first | with_reducible rfl | (simp only [h1, cond_true, cond_false]; done) | rfl), (by simp only [h1, cond_true, cond_false])⟩)
theorem gm_count9 (d : Nat) (hd : 4 ≤ d) (μ : zM) : z_C d mi_X7_count [.ref 50, .int 9] μ (fun r μ' => r = some ((bif decide ((μ.1 50 54) = 0) then .int 0 else .int 1)) ∧ μ' = z_ui μ 50 0 0) := by
  refine z_C_in (by decide) (by omega) (fun d' Z ed hc hr => ?_)
  have hH : zH mi_X7_count zt_X7_count 79 7 2 := hh_X7_count
  refine z_rcs hc hH 2 (pc' := 2) (lv' := [(0, .ref 50), (1, .int 9)]) (st' := [.int 0, .ref 50]) (μ' := μ) (by rfl) ?_
  refine zq_pfi hc hH (by rfl) (ci := 6) (f := 0) (by rfl) (by decide +kernel) (by rfl) ?_
  show Z 0 5 [(0, .ref 50), (1, .int 9)] [] (z_ui μ 50 0 0)
  refine z_rcs hc hH 3 (pc' := 153) (lv' := [(0, .ref 50), (1, .int 9)]) (st' := [.ref 50]) (μ' := z_ui μ 50 0 0) (by rfl) ?_
  refine zq_gfi hc hH (by rfl) (ci := 6) (f := 54) (by rfl) (by decide +kernel) (by rfl) ?_
  refine zV1 (Z := Z) (ui_k (by first | decide | omega)) ?_
  refine zq_if hc hH (by rfl) (tg := 163) (by rfl) (fun h1 => ?_) (fun h1 => ?_)
  · have h1 : (decide ((μ.1 50 54) = 0)) = true := decide_eq_true (cm_eq9.mp h1)
    refine z_rcs hc hH 1 (pc' := 164) (lv' := [(0, .ref 50), (1, .int 9)]) (st' := [.int 0]) (μ' := z_ui μ 50 0 0) (by rfl) ?_
    exact hr 0 164 _ _ _ (some (.int 0)) (by decide +kernel) (z_rx_ok hH (by rfl)) (⟨(by first | with_reducible rfl | (simp only [h1, cond_true, cond_false]; done) | rfl), (by simp only [h1, cond_true, cond_false])⟩)
  · have h1 : (decide ((μ.1 50 54) = 0)) = false := decide_eq_false (cn_eq.mp h1)
    refine z_rcs hc hH 2 (pc' := 164) (lv' := [(0, .ref 50), (1, .int 9)]) (st' := [.int 1]) (μ' := z_ui μ 50 0 0) (by rfl) ?_
    exact hr 0 164 _ _ _ (some (.int 1)) (by decide +kernel) (z_rx_ok hH (by rfl)) (⟨(by first | with_reducible rfl | (simp only [h1, cond_true, cond_false]; done) | rfl), (by simp only [h1, cond_true, cond_false])⟩)
theorem gm_count10 (d : Nat) (hd : 4 ≤ d) (μ : zM) : z_C d mi_X7_count [.ref 50, .int 10] μ (fun r μ' => r = some (.int (μ.1 50 52)) ∧ μ' = z_ui μ 50 0 0) := by
  refine z_C_in (by decide) (by omega) (fun d' Z ed hc hr => ?_)
  have hH : zH mi_X7_count zt_X7_count 79 7 2 := hh_X7_count
  refine z_rcs hc hH 2 (pc' := 2) (lv' := [(0, .ref 50), (1, .int 10)]) (st' := [.int 0, .ref 50]) (μ' := μ) (by rfl) ?_
  refine zq_pfi hc hH (by rfl) (ci := 6) (f := 0) (by rfl) (by decide +kernel) (by rfl) ?_
  show Z 0 5 [(0, .ref 50), (1, .int 10)] [] (z_ui μ 50 0 0)
  refine z_rcs hc hH 3 (pc' := 166) (lv' := [(0, .ref 50), (1, .int 10)]) (st' := [.ref 50]) (μ' := z_ui μ 50 0 0) (by rfl) ?_
  refine zq_gfi hc hH (by rfl) (ci := 6) (f := 52) (by rfl) (by decide +kernel) (by rfl) ?_
  refine zV1 (Z := Z) (ui_k (by first | decide | omega)) ?_
  exact hr 0 169 _ _ _ (some (.int (μ.1 50 52))) (by decide +kernel) (z_rx_ok hH (by rfl)) (⟨rfl, rfl⟩)
theorem gm_count11 (d : Nat) (hd : 4 ≤ d) (μ : zM) : z_C d mi_X7_count [.ref 50, .int 11] μ (fun r μ' => r = some (.int (μ.1 50 53)) ∧ μ' = z_ui μ 50 0 0) := by
  refine z_C_in (by decide) (by omega) (fun d' Z ed hc hr => ?_)
  have hH : zH mi_X7_count zt_X7_count 79 7 2 := hh_X7_count
  refine z_rcs hc hH 2 (pc' := 2) (lv' := [(0, .ref 50), (1, .int 11)]) (st' := [.int 0, .ref 50]) (μ' := μ) (by rfl) ?_
  refine zq_pfi hc hH (by rfl) (ci := 6) (f := 0) (by rfl) (by decide +kernel) (by rfl) ?_
  show Z 0 5 [(0, .ref 50), (1, .int 11)] [] (z_ui μ 50 0 0)
  refine z_rcs hc hH 3 (pc' := 171) (lv' := [(0, .ref 50), (1, .int 11)]) (st' := [.ref 50]) (μ' := z_ui μ 50 0 0) (by rfl) ?_
  refine zq_gfi hc hH (by rfl) (ci := 6) (f := 53) (by rfl) (by decide +kernel) (by rfl) ?_
  refine zV1 (Z := Z) (ui_k (by first | decide | omega)) ?_
  exact hr 0 174 _ _ _ (some (.int (μ.1 50 53))) (by decide +kernel) (z_rx_ok hH (by rfl)) (⟨rfl, rfl⟩)
theorem gm_count12 (d : Nat) (hd : 4 ≤ d) (μ : zM) : z_C d mi_X7_count [.ref 50, .int 12] μ (fun r μ' => r = some (.int (μ.1 50 49)) ∧ μ' = z_ui μ 50 0 0) := by
  refine z_C_in (by decide) (by omega) (fun d' Z ed hc hr => ?_)
  have hH : zH mi_X7_count zt_X7_count 79 7 2 := hh_X7_count
  refine z_rcs hc hH 2 (pc' := 2) (lv' := [(0, .ref 50), (1, .int 12)]) (st' := [.int 0, .ref 50]) (μ' := μ) (by rfl) ?_
  refine zq_pfi hc hH (by rfl) (ci := 6) (f := 0) (by rfl) (by decide +kernel) (by rfl) ?_
  show Z 0 5 [(0, .ref 50), (1, .int 12)] [] (z_ui μ 50 0 0)
  refine z_rcs hc hH 3 (pc' := 176) (lv' := [(0, .ref 50), (1, .int 12)]) (st' := [.ref 50]) (μ' := z_ui μ 50 0 0) (by rfl) ?_
  refine zq_gfi hc hH (by rfl) (ci := 6) (f := 49) (by rfl) (by decide +kernel) (by rfl) ?_
  refine zV1 (Z := Z) (ui_k (by first | decide | omega)) ?_
  exact hr 0 179 _ _ _ (some (.int (μ.1 50 49))) (by decide +kernel) (z_rx_ok hH (by rfl)) (⟨rfl, rfl⟩)
theorem gm_countd (d : Nat) (hd : 4 ≤ d) (μ : zM) (x : Int32) (hx : (decide (x.toInt < 0) || decide (12 < x.toInt)) = true) : z_C d mi_X7_count [.ref 50, .int x] μ (fun r μ' => r = some (.int (-1)) ∧ μ' = z_ui μ 50 0 0) := by
  refine z_C_in (by decide) (by omega) (fun d' Z ed hc hr => ?_)
  have hH : zH mi_X7_count zt_X7_count 79 7 2 := hh_X7_count
  refine z_rcs hc hH 2 (pc' := 2) (lv' := [(0, .ref 50), (1, .int x)]) (st' := [.int 0, .ref 50]) (μ' := μ) (by rfl) ?_
  refine zq_pfi hc hH (by rfl) (ci := 6) (f := 0) (by rfl) (by decide +kernel) (by rfl) ?_
  show Z 0 5 [(0, .ref 50), (1, .int x)] [] (z_ui μ 50 0 0)
  refine z_rcs hc hH 1 (pc' := 6) (lv' := [(0, .ref 50), (1, .int x)]) (st' := [.int x]) (μ' := z_ui μ 50 0 0) (by rfl) ?_
  refine zq_tsd hc hH (by rfl) (tg := 180) (by rfl) hx ?_
  refine z_rcs hc hH 1 (pc' := 181) (lv' := [(0, .ref 50), (1, .int x)]) (st' := [.int (-1)]) (μ' := z_ui μ 50 0 0) (by rfl) ?_
  exact hr 0 181 _ _ _ (some (.int (-1))) (by decide +kernel) (z_rx_ok hH (by rfl)) (⟨rfl, rfl⟩)
/-! questions: hand, count, seat answer alike -/
set_option maxRecDepth 8000
theorem q_go {d j j' : Nat} {As As' : List Value} {μ : zM} (h : LGm μ) {v : Int32} (c1 : z_C d j As μ (fun r μ' => r = some (.int v) ∧ μ' = μ)) (kq : z_C d j' As' μ (fun _ μ' => LJ μ')) (c2 : z_C d j' As' μ (fun r μ' => r = some (.int v) ∧ μ' = z_ui μ 50 0 0)) : z_C d j As μ (fun r μ1 => LJ μ1 ∧ ∃ y, r = some (.int y) ∧ z_C d j' As' μ1 (fun r2 μ2 => LGm μ2 ∧ r2 = some (.int y))) := z_C_mono c1 (fun r μ1 q => by
  obtain ⟨q1, rfl⟩ := q
  exact ⟨h.1, v, q1, z_C_mono (zC_and d kq c2) (fun r2 μ2 z => ⟨lg_no h.2 z.2.2 z.1, z.2.1⟩)⟩)
theorem sI_no {y : Int32} (h : ¬ vp_in y 4) : sI y = false := by
  unfold sI
  cases e1 : decide (y < 0) with
  | true => rfl
  | false =>
    cases e2 : decide (4 ≤ y) with
    | true => rfl
    | false => exact absurd (inOf2 (n := 4) (m := 4) rfl e1 e2) h
theorem isS_no {μ : zM} {y : Int32} (h : ¬ vp_in y 4) : ∀ d, 1 ≤ d → z_C d mi_X7_isSeat [.int y] μ (zR μ (.int 0)) := fun d hd => z_C_mono (fc_X7_isSeat d hd μ y) (fun r m z => ⟨z.1, by
  rcases z.2 with ⟨_, q⟩ | ⟨q, _⟩
  · exact absurd q h
  · exact q⟩)
theorem lg_hand {d : Nat} (hd : 705 ≤ d) {μ : zM} (h : LGm μ) (y x : Int32) : z_C d mi_X6_hand [.ref 0, .int y, .int x] μ (fun r μ1 => LJ μ1 ∧ ∃ v, r = some (.int v) ∧ z_C d mi_X7_hand [.ref 50, .int y, .int x] μ1 (fun r2 μ2 => LGm μ2 ∧ r2 = some (.int v))) := by
  have kq : z_C d mi_X7_hand [.ref 50, .int y, .int x] μ (fun _ μ' => LJ μ') := z_C_mono (lj_k (i := 126) (K := ak_126) rfl (by omega) (by decide) (by decide) rfl [.ref 50, .int y, .int x] μ h.1 ⟨⟨50, by decide, rfl⟩, ⟨_, rfl, bI_top _⟩, ⟨_, rfl, bI_top _⟩, trivial⟩) (fun _ _ q => q.1)
  by_cases hy : vp_in y 4
  · obtain ⟨s, hs, rfl⟩ := vp_in_of hy (by decide)
    by_cases hx : vp_in x 34
    · obtain ⟨k, hk, rfl⟩ := vp_in_of hx (by decide)
      refine q_go h (v := μ.1 60 (34 * s + k)) ?_ kq (gm_hand d (by omega) μ s hs k hk)
      have z := gq_hand d (by omega) μ s hs (nI k)
      rw [fr_yes hk, h.2.1.hd s k hs hk] at z
      exact z
    · refine q_go h (v := 0) ?_ kq (gm_handK d (by omega) μ s hs x (isK_no hx))
      have z := gq_hand d (by omega) μ s hs x
      rw [fr_no hx] at z
      exact z
  · exact q_go h (v := 0) (gq_hand0 d (by omega) μ x y (sI_no hy)) kq (gm_handS d (by omega) μ y x (isS_no hy))
/-! count answers alike -/
set_option maxRecDepth 8000
theorem rg_ph {x m : zM} (h : RG x m) : x.1 0 7 = m.1 50 44 ∧ x.1 0 8 = m.1 50 45 ∧ x.1 2 3 = m.1 50 47 := by
  rcases h.2 with ⟨p1, p2, p3, p4, p5⟩ | ⟨p, t, c, P⟩
  · exact ⟨p1.trans p2.symm, p5, p4⟩
  · exact ⟨P.px.trans P.pm.symm, P.tx.trans P.tm.symm, P.fo⟩
theorem rg_ti {x m : zM} (h : RG x m) : (bif decide (x.1 0 7 = 0) then (-1 : Int32) else x.1 0 15) = m.1 50 49 := by
  rcases h.2 with ⟨p1, p2, p3, p4, p5⟩ | ⟨p, t, c, P⟩
  · rw [p1, p3]; rfl
  · rw [P.px, P.cx, P.cm]
    rcases P.p3 with e | e | e <;> (subst e; rfl)
theorem bif_i {c : Bool} {a b : Int32} : (bif c then Value.int a else Value.int b) = Value.int (bif c then a else b) := by cases c <;> rfl
theorem k_count {d : Nat} (hd : 705 ≤ d) {μ : zM} (h : LJ μ) (x : Int32) : z_C d mi_X7_count [.ref 50, .int x] μ (fun _ μ' => LJ μ') := z_C_mono (lj_k (i := 133) (K := ak_133) rfl (by omega) (by decide) (by decide) rfl [.ref 50, .int x] μ h ⟨⟨50, by decide, rfl⟩, ⟨_, rfl, bI_top _⟩, trivial⟩) (fun _ _ q => q.1)
theorem lg_count0 {d : Nat} (hd : 705 ≤ d) {μ : zM} (h : LGm μ) : z_C d mi_X6_count [.ref 0, .int 0] μ (fun r μ1 => LJ μ1 ∧ ∃ v, r = some (.int v) ∧ z_C d mi_X7_count [.ref 50, .int 0] μ1 (fun r2 μ2 => LGm μ2 ∧ r2 = some (.int v))) := by
  have R := h.2.1
  obtain ⟨e7, e8, e3⟩ := rg_ph h.2
  have z1 := gq_count0 d (by omega) μ
  have z2 := gm_count0 d (by omega) μ
  rw [e7] at z1
  exact q_go h (v := μ.1 50 44) z1 (k_count hd h.1 _) z2
theorem lg_count1 {d : Nat} (hd : 705 ≤ d) {μ : zM} (h : LGm μ) : z_C d mi_X6_count [.ref 0, .int 1] μ (fun r μ1 => LJ μ1 ∧ ∃ v, r = some (.int v) ∧ z_C d mi_X7_count [.ref 50, .int 1] μ1 (fun r2 μ2 => LGm μ2 ∧ r2 = some (.int v))) := by
  have R := h.2.1
  obtain ⟨e7, e8, e3⟩ := rg_ph h.2
  have z1 := gq_count1 d (by omega) μ
  have z2 := gm_count1 d (by omega) μ
  rw [bif_i] at z1 z2
  rw [e7, e8] at z1
  exact q_go h (v := bif decide (μ.1 50 44 = 0) then (-1 : Int32) else μ.1 50 45) z1 (k_count hd h.1 _) z2
theorem lg_count2 {d : Nat} (hd : 705 ≤ d) {μ : zM} (h : LGm μ) : z_C d mi_X6_count [.ref 0, .int 2] μ (fun r μ1 => LJ μ1 ∧ ∃ v, r = some (.int v) ∧ z_C d mi_X7_count [.ref 50, .int 2] μ1 (fun r2 μ2 => LGm μ2 ∧ r2 = some (.int v))) := by
  have R := h.2.1
  obtain ⟨e7, e8, e3⟩ := rg_ph h.2
  have z1 := gq_count2 d (by omega) μ
  have z2 := gm_count2 d (by omega) μ
  rw [R.dl] at z1
  exact q_go h (v := μ.1 50 40) z1 (k_count hd h.1 _) z2
theorem lg_count3 {d : Nat} (hd : 705 ≤ d) {μ : zM} (h : LGm μ) : z_C d mi_X6_count [.ref 0, .int 3] μ (fun r μ1 => LJ μ1 ∧ ∃ v, r = some (.int v) ∧ z_C d mi_X7_count [.ref 50, .int 3] μ1 (fun r2 μ2 => LGm μ2 ∧ r2 = some (.int v))) := by
  have R := h.2.1
  obtain ⟨e7, e8, e3⟩ := rg_ph h.2
  have z1 := gq_count3 d (by omega) μ
  have z2 := gm_count3 d (by omega) μ
  rw [R.rn] at z1
  exact q_go h (v := μ.1 50 41) z1 (k_count hd h.1 _) z2
theorem lg_count4 {d : Nat} (hd : 705 ≤ d) {μ : zM} (h : LGm μ) : z_C d mi_X6_count [.ref 0, .int 4] μ (fun r μ1 => LJ μ1 ∧ ∃ v, r = some (.int v) ∧ z_C d mi_X7_count [.ref 50, .int 4] μ1 (fun r2 μ2 => LGm μ2 ∧ r2 = some (.int v))) := by
  have R := h.2.1
  obtain ⟨e7, e8, e3⟩ := rg_ph h.2
  have z1 := gq_count4 d (by omega) μ
  have z2 := gm_count4 d (by omega) μ
  rw [R.st] at z1
  exact q_go h (v := μ.1 50 42) z1 (k_count hd h.1 _) z2
theorem lg_count5 {d : Nat} (hd : 705 ≤ d) {μ : zM} (h : LGm μ) : z_C d mi_X6_count [.ref 0, .int 5] μ (fun r μ1 => LJ μ1 ∧ ∃ v, r = some (.int v) ∧ z_C d mi_X7_count [.ref 50, .int 5] μ1 (fun r2 μ2 => LGm μ2 ∧ r2 = some (.int v))) := by
  have R := h.2.1
  obtain ⟨e7, e8, e3⟩ := rg_ph h.2
  have z1 := gq_count5 d (by omega) μ
  have z2 := gm_count5 d (by omega) μ
  rw [R.bt] at z1
  exact q_go h (v := μ.1 50 43) z1 (k_count hd h.1 _) z2
theorem lg_count6 {d : Nat} (hd : 705 ≤ d) {μ : zM} (h : LGm μ) : z_C d mi_X6_count [.ref 0, .int 6] μ (fun r μ1 => LJ μ1 ∧ ∃ v, r = some (.int v) ∧ z_C d mi_X7_count [.ref 50, .int 6] μ1 (fun r2 μ2 => LGm μ2 ∧ r2 = some (.int v))) := by
  have R := h.2.1
  obtain ⟨e7, e8, e3⟩ := rg_ph h.2
  have z1 := gq_count6 d (by omega) μ
  have z2 := gm_count6 d (by omega) μ
  rw [bif_i] at z2
  unfold xLf at z1
  rw [R.sd, e3, R.nx] at z1
  exact q_go h (v := bif decide (μ.1 50 55 = 0) then (0 : Int32) else (122 - μ.1 50 47) - μ.1 50 46) z1 (k_count hd h.1 _) z2
theorem lg_count7 {d : Nat} (hd : 705 ≤ d) {μ : zM} (h : LGm μ) : z_C d mi_X6_count [.ref 0, .int 7] μ (fun r μ1 => LJ μ1 ∧ ∃ v, r = some (.int v) ∧ z_C d mi_X7_count [.ref 50, .int 7] μ1 (fun r2 μ2 => LGm μ2 ∧ r2 = some (.int v))) := by
  have R := h.2.1
  obtain ⟨e7, e8, e3⟩ := rg_ph h.2
  have z1 := gq_count7 d (by omega) μ
  have z2 := gm_count7 d (by omega) μ
  rw [e3] at z1
  exact q_go h (v := μ.1 50 47) z1 (k_count hd h.1 _) z2
theorem lg_count8 {d : Nat} (hd : 705 ≤ d) {μ : zM} (h : LGm μ) : z_C d mi_X6_count [.ref 0, .int 8] μ (fun r μ1 => LJ μ1 ∧ ∃ v, r = some (.int v) ∧ z_C d mi_X7_count [.ref 50, .int 8] μ1 (fun r2 μ2 => LGm μ2 ∧ r2 = some (.int v))) := by
  have R := h.2.1
  obtain ⟨e7, e8, e3⟩ := rg_ph h.2
  have z1 := gq_count8 d (by omega) μ
  have z2 := gm_count8 d (by omega) μ
  rw [bif_i] at z2
  unfold xSg at z1
  rw [R.sd, e3] at z1
  exact q_go h (v := bif decide (μ.1 50 55 = 0) then (0 : Int32) else 1 + μ.1 50 47) z1 (k_count hd h.1 _) z2
theorem lg_count9 {d : Nat} (hd : 705 ≤ d) {μ : zM} (h : LGm μ) : z_C d mi_X6_count [.ref 0, .int 9] μ (fun r μ1 => LJ μ1 ∧ ∃ v, r = some (.int v) ∧ z_C d mi_X7_count [.ref 50, .int 9] μ1 (fun r2 μ2 => LGm μ2 ∧ r2 = some (.int v))) := by
  have R := h.2.1
  obtain ⟨e7, e8, e3⟩ := rg_ph h.2
  have z1 := gq_count9 d (by omega) μ
  have z2 := gm_count9 d (by omega) μ
  rw [bif_i] at z1 z2
  rw [R.en] at z1
  exact q_go h (v := bif decide (μ.1 50 54 = 0) then (0 : Int32) else 1) z1 (k_count hd h.1 _) z2
theorem lg_count10 {d : Nat} (hd : 705 ≤ d) {μ : zM} (h : LGm μ) : z_C d mi_X6_count [.ref 0, .int 10] μ (fun r μ1 => LJ μ1 ∧ ∃ v, r = some (.int v) ∧ z_C d mi_X7_count [.ref 50, .int 10] μ1 (fun r2 μ2 => LGm μ2 ∧ r2 = some (.int v))) := by
  have R := h.2.1
  obtain ⟨e7, e8, e3⟩ := rg_ph h.2
  have z1 := gq_count10 d (by omega) μ
  have z2 := gm_count10 d (by omega) μ
  rw [R.he] at z1
  exact q_go h (v := μ.1 50 52) z1 (k_count hd h.1 _) z2
theorem lg_count11 {d : Nat} (hd : 705 ≤ d) {μ : zM} (h : LGm μ) : z_C d mi_X6_count [.ref 0, .int 11] μ (fun r μ1 => LJ μ1 ∧ ∃ v, r = some (.int v) ∧ z_C d mi_X7_count [.ref 50, .int 11] μ1 (fun r2 μ2 => LGm μ2 ∧ r2 = some (.int v))) := by
  have R := h.2.1
  obtain ⟨e7, e8, e3⟩ := rg_ph h.2
  have z1 := gq_count11 d (by omega) μ
  have z2 := gm_count11 d (by omega) μ
  rw [R.wc] at z1
  exact q_go h (v := μ.1 50 53) z1 (k_count hd h.1 _) z2
theorem lg_count12 {d : Nat} (hd : 705 ≤ d) {μ : zM} (h : LGm μ) : z_C d mi_X6_count [.ref 0, .int 12] μ (fun r μ1 => LJ μ1 ∧ ∃ v, r = some (.int v) ∧ z_C d mi_X7_count [.ref 50, .int 12] μ1 (fun r2 μ2 => LGm μ2 ∧ r2 = some (.int v))) := by
  have R := h.2.1
  obtain ⟨e7, e8, e3⟩ := rg_ph h.2
  have z1 := gq_count12 d (by omega) μ
  have z2 := gm_count12 d (by omega) μ
  rw [bif_i, rg_ti h.2] at z1
  exact q_go h (v := μ.1 50 49) z1 (k_count hd h.1 _) z2
theorem lg_count {d : Nat} (hd : 705 ≤ d) {μ : zM} (h : LGm μ) (x : Int32) : z_C d mi_X6_count [.ref 0, .int x] μ (fun r μ1 => LJ μ1 ∧ ∃ v, r = some (.int v) ∧ z_C d mi_X7_count [.ref 50, .int x] μ1 (fun r2 μ2 => LGm μ2 ∧ r2 = some (.int v))) := by
  by_cases hx : vp_in x 13
  · obtain ⟨k, hk, rfl⟩ := vp_in_of hx (by decide)
    match k, hk with
    | 0, _ => exact lg_count0 hd h
    | 1, _ => exact lg_count1 hd h
    | 2, _ => exact lg_count2 hd h
    | 3, _ => exact lg_count3 hd h
    | 4, _ => exact lg_count4 hd h
    | 5, _ => exact lg_count5 hd h
    | 6, _ => exact lg_count6 hd h
    | 7, _ => exact lg_count7 hd h
    | 8, _ => exact lg_count8 hd h
    | 9, _ => exact lg_count9 hd h
    | 10, _ => exact lg_count10 hd h
    | 11, _ => exact lg_count11 hd h
    | 12, _ => exact lg_count12 hd h
    | k + 13, h9 => exact absurd h9 (by omega)
  · have e : (decide (x.toInt < 0) || decide (12 < x.toInt)) = true := by
      cases e1 : decide (x.toInt < 0) with
      | true => rfl
      | false =>
        cases e2 : decide (12 < x.toInt) with
        | true => rfl
        | false =>
          have h1 := of_decide_eq_false e1
          have h2 := of_decide_eq_false e2
          exact absurd (vp_in_iff.mpr ⟨by omega, by omega⟩) hx
    exact q_go h (v := -1) (gq_countd d (by omega) μ x e) (k_count hd h.1 x) (gm_countd d (by omega) μ x e)
/-! seat answers alike -/
set_option maxRecDepth 8000
theorem wind_eq : ∀ s, s < 4 → ∀ dl, dl < 4 → (nI s - nI dl) &&& 3 = wdM (nI dl) (nI s) := by decide +kernel
theorem open_eq {x m : zM} (R : RCl x m) {s : Nat} (hs : s < 4) : ∀ q, q ≤ 4 → xOr (x.1 (22 + 8 * s)) q = kA (ioF m s) q
  | 0, _ => rfl
  | q + 1, h => by
    show (xOr (x.1 (22 + 8 * s)) q || !decide (x.1 (22 + 8 * s) q = 3)) = (kA (ioF m s) q || ioF m s q)
    rw [open_eq R hs q (by omega), R.so s q hs (by omega)]
    rfl
theorem k_seat {d : Nat} (hd : 705 ≤ d) {μ : zM} (h : LJ μ) (y x : Int32) : z_C d mi_X7_seat [.ref 50, .int y, .int x] μ (fun _ μ' => LJ μ') := z_C_mono (lj_k (i := 130) (K := ak_130) rfl (by omega) (by decide) (by decide) rfl [.ref 50, .int y, .int x] μ h ⟨⟨50, by decide, rfl⟩, ⟨_, rfl, bI_top _⟩, ⟨_, rfl, bI_top _⟩, trivial⟩) (fun _ _ q => q.1)
theorem lg_seat0 {d : Nat} (hd : 705 ≤ d) {μ : zM} (h : LGm μ) {s : Nat} (hs : s < 4) : z_C d mi_X6_seat [.ref 0, .int (nI s), .int 0] μ (fun r μ1 => LJ μ1 ∧ ∃ v, r = some (.int v) ∧ z_C d mi_X7_seat [.ref 50, .int (nI s), .int 0] μ1 (fun r2 μ2 => LGm μ2 ∧ r2 = some (.int v))) := by
  have R := h.2.1
  have z1 := gq_seat0 d (by omega) μ s hs
  have z2 := gm_seat0 d (by omega) μ s hs
  rw [R.pt s hs] at z1
  exact q_go h (v := μ.1 61 s) z1 (k_seat hd h.1 _ _) z2
theorem lg_seat1 {d : Nat} (hd : 705 ≤ d) {μ : zM} (h : LGm μ) {s : Nat} (hs : s < 4) : z_C d mi_X6_seat [.ref 0, .int (nI s), .int 1] μ (fun r μ1 => LJ μ1 ∧ ∃ v, r = some (.int v) ∧ z_C d mi_X7_seat [.ref 50, .int (nI s), .int 1] μ1 (fun r2 μ2 => LGm μ2 ∧ r2 = some (.int v))) := by
  have R := h.2.1
  have z1 := gq_seat1 d (by omega) μ s hs
  have z2 := gm_seat1 d (by omega) μ s hs
  rw [R.be s hs] at z1
  exact q_go h (v := μ.1 67 s) z1 (k_seat hd h.1 _ _) z2
theorem lg_seat2 {d : Nat} (hd : 705 ≤ d) {μ : zM} (h : LGm μ) {s : Nat} (hs : s < 4) : z_C d mi_X6_seat [.ref 0, .int (nI s), .int 2] μ (fun r μ1 => LJ μ1 ∧ ∃ v, r = some (.int v) ∧ z_C d mi_X7_seat [.ref 50, .int (nI s), .int 2] μ1 (fun r2 μ2 => LGm μ2 ∧ r2 = some (.int v))) := by
  have R := h.2.1
  have z1 := gq_seat2 d (by omega) μ s hs
  have z2 := gm_seat2 d (by omega) μ s hs
  rw [bif_i] at z1 z2
  rw [R.lg s hs] at z1
  exact q_go h (v := bif decide (μ.1 70 s = 0) then (0 : Int32) else 1) z1 (k_seat hd h.1 _ _) z2
theorem lg_seat3 {d : Nat} (hd : 705 ≤ d) {μ : zM} (h : LGm μ) {s : Nat} (hs : s < 4) : z_C d mi_X6_seat [.ref 0, .int (nI s), .int 3] μ (fun r μ1 => LJ μ1 ∧ ∃ v, r = some (.int v) ∧ z_C d mi_X7_seat [.ref 50, .int (nI s), .int 3] μ1 (fun r2 μ2 => LGm μ2 ∧ r2 = some (.int v))) := by
  have R := h.2.1
  have z1 := gq_seat3 d (by omega) μ s hs
  have z2 := gm_seat3 d (by omega) μ s hs
  obtain ⟨dl, hdl4, hdl⟩ := dealer_nI h.1.1.1
  rw [R.dl, hdl, wind_eq s hs dl hdl4, ← hdl] at z1
  exact q_go h (v := wdM (μ.1 50 40) (nI s)) z1 (k_seat hd h.1 _ _) z2
theorem lg_seat4 {d : Nat} (hd : 705 ≤ d) {μ : zM} (h : LGm μ) {s : Nat} (hs : s < 4) : z_C d mi_X6_seat [.ref 0, .int (nI s), .int 4] μ (fun r μ1 => LJ μ1 ∧ ∃ v, r = some (.int v) ∧ z_C d mi_X7_seat [.ref 50, .int (nI s), .int 4] μ1 (fun r2 μ2 => LGm μ2 ∧ r2 = some (.int v))) := by
  have R := h.2.1
  have z1 := gq_seat4 d (by omega) μ s hs
  have z2 := gm_seat4 d (by omega) μ s hs
  rw [R.ds s hs] at z1
  exact q_go h (v := μ.1 66 s) z1 (k_seat hd h.1 _ _) z2
theorem lg_seat5 {d : Nat} (hd : 705 ≤ d) {μ : zM} (h : LGm μ) {s : Nat} (hs : s < 4) : z_C d mi_X6_seat [.ref 0, .int (nI s), .int 5] μ (fun r μ1 => LJ μ1 ∧ ∃ v, r = some (.int v) ∧ z_C d mi_X7_seat [.ref 50, .int (nI s), .int 5] μ1 (fun r2 μ2 => LGm μ2 ∧ r2 = some (.int v))) := by
  have R := h.2.1
  have z1 := gq_seat5 d (by omega) μ s hs
  have z2 := gm_seat5 d (by omega) μ s hs
  rw [R.lm s hs] at z1
  exact q_go h (v := μ.1 64 s) z1 (k_seat hd h.1 _ _) z2
theorem lg_seat6 {d : Nat} (hd : 705 ≤ d) {μ : zM} (h : LGm μ) {s : Nat} (hs : s < 4) : z_C d mi_X6_seat [.ref 0, .int (nI s), .int 6] μ (fun r μ1 => LJ μ1 ∧ ∃ v, r = some (.int v) ∧ z_C d mi_X7_seat [.ref 50, .int (nI s), .int 6] μ1 (fun r2 μ2 => LGm μ2 ∧ r2 = some (.int v))) := by
  have R := h.2.1
  obtain ⟨q, hq4, hq⟩ : ∃ q, q ≤ 4 ∧ μ.1 64 s = nI q := i_nat (h.1.1.1 64 s).1 (h.1.1.1 64 s).2 (by decide)
  have z1 := gq_seat6 d (by omega) μ s hs (kA (ioF μ s) q) (fun d' hd' => by rw [← open_eq R hs q hq4]; exact gc_isOpen d' hd' μ s hs q hq4 ((R.lm s hs).trans hq))
  have z2 := gm_seat6 d (by omega) μ s hs (kA (ioF μ s) q) (fun d' hd' => by
    have z := gm_isOpenS d' hd' (z_ui μ 50 0 0) s q hs hq4 (by rw [ui_o (by decide)]; exact hq)
    rw [show kA (ioF (z_ui μ 50 0 0) s) q = kA (ioF μ s) q from kA_cg (fun i _ => by unfold ioF; rw [ui_o (by decide)])] at z
    exact z)
  rw [bif_i] at z1 z2
  exact q_go h (v := bif kA (ioF μ s) q then (1 : Int32) else 0) z1 (k_seat hd h.1 _ _) z2
theorem lg_seat7 {d : Nat} (hd : 705 ≤ d) {μ : zM} (h : LGm μ) {s : Nat} (hs : s < 4) : z_C d mi_X6_seat [.ref 0, .int (nI s), .int 7] μ (fun r μ1 => LJ μ1 ∧ ∃ v, r = some (.int v) ∧ z_C d mi_X7_seat [.ref 50, .int (nI s), .int 7] μ1 (fun r2 μ2 => LGm μ2 ∧ r2 = some (.int v))) := by
  have R := h.2.1
  have z1 := gq_seat7 d (by omega) μ s hs
  have z2 := gm_seat7 d (by omega) μ s hs
  rw [bif_i] at z1 z2
  rw [R.sy s hs] at z1
  exact q_go h (v := bif decide (μ.1 71 s = 0) then (0 : Int32) else 1) z1 (k_seat hd h.1 _ _) z2
theorem lg_seat {d : Nat} (hd : 705 ≤ d) {μ : zM} (h : LGm μ) (y x : Int32) : z_C d mi_X6_seat [.ref 0, .int y, .int x] μ (fun r μ1 => LJ μ1 ∧ ∃ v, r = some (.int v) ∧ z_C d mi_X7_seat [.ref 50, .int y, .int x] μ1 (fun r2 μ2 => LGm μ2 ∧ r2 = some (.int v))) := by
  by_cases hy : vp_in y 4
  · obtain ⟨s, hs, rfl⟩ := vp_in_of hy (by decide)
    by_cases hx : vp_in x 8
    · obtain ⟨k, hk, rfl⟩ := vp_in_of hx (by decide)
      match k, hk with
      | 0, _ => exact lg_seat0 hd h hs
      | 1, _ => exact lg_seat1 hd h hs
      | 2, _ => exact lg_seat2 hd h hs
      | 3, _ => exact lg_seat3 hd h hs
      | 4, _ => exact lg_seat4 hd h hs
      | 5, _ => exact lg_seat5 hd h hs
      | 6, _ => exact lg_seat6 hd h hs
      | 7, _ => exact lg_seat7 hd h hs
      | k + 8, h9 => exact absurd h9 (by omega)
    · have e : (decide (x.toInt < 0) || decide (7 < x.toInt)) = true := by
        cases e1 : decide (x.toInt < 0) with
        | true => rfl
        | false =>
          cases e2 : decide (7 < x.toInt) with
          | true => rfl
          | false =>
            have h1 := of_decide_eq_false e1
            have h2 := of_decide_eq_false e2
            exact absurd (vp_in_iff.mpr ⟨by omega, by omega⟩) hx
      exact q_go h (v := -1) (gq_seatd d (by omega) μ s hs x e) (k_seat hd h.1 _ x) (gm_seatd d (by omega) μ s hs x e)
  · exact q_go h (v := -1) (gq_seat0y d (by omega) μ y x (sI_no hy)) (k_seat hd h.1 y x) (gm_seatS d (by omega) μ y x (isS_no hy))
/-! a SET is claimed: both games behind it -/
set_option maxRecDepth 8000
theorem h56_t (m : zM) : (toM m).1 50 56 = 0 := by unfold toM; rw [ui_o (by decide), ui_o (by decide), ui_o (by decide), ui_o (by decide), ui_s]
theorem t64_t (m : zM) (j : Nat) : (toM m).1 64 j = m.1 64 j := toM_o ⟨by decide, Or.inl (by decide)⟩
theorem t50_t (m : zM) {k : Nat} (h : k ≠ 56) : (toM m).1 50 k = m.1 50 k := toM_o ⟨by decide, Or.inr h⟩
theorem rg_three {x m : zM} {s c q : Nat} (R : RCl x m) (Q : RQ x m c) (hfo : x.1 2 3 = m.1 50 47) (hs : s < 4) (hc : c < 34) (hq : q ≤ 3) (e64 : m.1 64 s = nI q) (hm4 : ∀ j, j < 4 → (m.1 64 j).toNatClampNeg ≤ 4) {bs : Int64} (hbs : bs = (((1 : Int64) <<< ((m.1 50 50).toInt64 &&& 63)) ||| (bif decide (m.1 50 51 = -1) then (0 : Int64) else 1 <<< ((m.1 50 51).toInt64 &&& 63)))) (hbn : BN m) : RG (clX (ldS (pS (bkH x) s c 1) s 1 c q) s bs) (clN (toM (z_lys (z_giv m s c (-2)) s q 1 (nI c))) s) := by
  rw [toM_lys, toM_giv]
  obtain ⟨Q1, f1, f2, f3⟩ := rq_brk Q
  have A := lay_three (x := bkH x) (m := toM m) (s := s) (c := c) (q := q) hs hc hq
  have R1 := rc_lay (rc_brk R) A hs hq ((t64_t m s).trans e64) (svd_n ⟨by decide, by decide⟩ (by decide) hc) (fun j hj => by rw [t64_t]; exact hm4 j hj)
  obtain ⟨Q2, g1, g2⟩ := rq_lay Q1 A hs f3 (fun j hj => by
    rw [ct_n9 (by decide) hc hj]
    show (if j = c then (-2 : Int32) else 0) + _ = _
    by_cases e : j = c
    · rw [if_pos e, if_pos e, if_pos e]; decide
    · rw [if_neg e, if_neg e, if_neg e]; decide)
  have e50 : ∀ k, k ≠ 56 → (z_lys (z_giv (toM m) s c (-2)) s q 1 (nI c)).1 50 k = m.1 50 k := fun k hk => by
    rw [A.fm 50 k (by decide) (by decide) (by decide) (by decide)]; exact t50_t m hk
  refine ⟨rc_claimed R1, Or.inr ⟨1, s, 34, rp_claimed Q2 hs ?_ ?_ ?_ (by unfold BN; rw [e50 50 (by decide), e50 51 (by decide)]; exact hbn)⟩⟩
  · rw [g1, g2, f1, f2]; exact hfo
  · rw [A.fm 50 56 (by decide) (by decide) (by decide) (by decide)]; exact f3
  · rw [e50 50 (by decide), e50 51 (by decide)]; exact hbs
theorem rg_run0 {x m : zM} {s l q : Nat} (R : RCl x m) (Q : RQ x m l) (hfo : x.1 2 3 = m.1 50 47) (hs : s < 4) (hl : l + 2 < 34) (hsr : sr (nI l)) (hq : q ≤ 3) (e64 : m.1 64 s = nI q) (hm4 : ∀ j, j < 4 → (m.1 64 j).toNatClampNeg ≤ 4) {bs : Int64} (hbs : bs = (((1 : Int64) <<< ((m.1 50 50).toInt64 &&& 63)) ||| (bif decide (m.1 50 51 = -1) then (0 : Int64) else 1 <<< ((m.1 50 51).toInt64 &&& 63)))) (hbn : BN m) : RG (clX (ldS (pS (bkH x) s l 1) s 0 l q) s bs) (clN (toM (z_lys (z_giv (z_giv m s (l + 1) (-1)) s (l + 2) (-1)) s q 0 (nI l))) s) := by
  rw [toM_lys, toM_giv, toM_giv]
  obtain ⟨Q1, f1, f2, f3⟩ := rq_brk Q
  have A := lay_run0 (x := bkH x) (m := toM m) (s := s) (l := l) (q := q) hs hl hq
  have R1 := rc_lay (rc_brk R) A hs hq ((t64_t m s).trans e64) (⟨⟨by decide, by decide⟩, bd_nI (by omega) ⟨by omega, by omega⟩, fun _ => hsr⟩) (fun j hj => by rw [t64_t]; exact hm4 j hj)
  obtain ⟨Q2, g1, g2⟩ := rq_lay Q1 A hs f3 (fun j hj => by
    rw [ct_r hl hj]
    show (if j = (l + 1) ∨ j = (l + 2) then (-1 : Int32) else 0) + _ = _
    by_cases e : j = l
    · rw [if_neg (by omega), if_pos (by omega), if_pos e]; decide
    · by_cases e2 : j = (l + 1) ∨ j = (l + 2)
      · rw [if_pos e2, if_pos (by omega), if_neg e]; decide
      · rw [if_neg e2, if_neg (by omega), if_neg e]; decide)
  have e50 : ∀ k, k ≠ 56 → (z_lys (z_giv (z_giv (toM m) s (l + 1) (-1)) s (l + 2) (-1)) s q 0 (nI l)).1 50 k = m.1 50 k := fun k hk => by
    rw [A.fm 50 k (by decide) (by decide) (by decide) (by decide)]; exact t50_t m hk
  refine ⟨rc_claimed R1, Or.inr ⟨1, s, 34, rp_claimed Q2 hs ?_ ?_ ?_ (by unfold BN; rw [e50 50 (by decide), e50 51 (by decide)]; exact hbn)⟩⟩
  · rw [g1, g2, f1, f2]; exact hfo
  · rw [A.fm 50 56 (by decide) (by decide) (by decide) (by decide)]; exact f3
  · rw [e50 50 (by decide), e50 51 (by decide)]; exact hbs
theorem rg_run1 {x m : zM} {s l q : Nat} (R : RCl x m) (Q : RQ x m (l + 1)) (hfo : x.1 2 3 = m.1 50 47) (hs : s < 4) (hl : l + 2 < 34) (hsr : sr (nI l)) (hq : q ≤ 3) (e64 : m.1 64 s = nI q) (hm4 : ∀ j, j < 4 → (m.1 64 j).toNatClampNeg ≤ 4) {bs : Int64} (hbs : bs = (((1 : Int64) <<< ((m.1 50 50).toInt64 &&& 63)) ||| (bif decide (m.1 50 51 = -1) then (0 : Int64) else 1 <<< ((m.1 50 51).toInt64 &&& 63)))) (hbn : BN m) : RG (clX (ldS (pS (bkH x) s (l + 1) 1) s 0 l q) s bs) (clN (toM (z_lys (z_giv (z_giv m s l (-1)) s (l + 2) (-1)) s q 0 (nI l))) s) := by
  rw [toM_lys, toM_giv, toM_giv]
  obtain ⟨Q1, f1, f2, f3⟩ := rq_brk Q
  have A := lay_run1 (x := bkH x) (m := toM m) (s := s) (l := l) (q := q) hs hl hq
  have R1 := rc_lay (rc_brk R) A hs hq ((t64_t m s).trans e64) (⟨⟨by decide, by decide⟩, bd_nI (by omega) ⟨by omega, by omega⟩, fun _ => hsr⟩) (fun j hj => by rw [t64_t]; exact hm4 j hj)
  obtain ⟨Q2, g1, g2⟩ := rq_lay Q1 A hs f3 (fun j hj => by
    rw [ct_r hl hj]
    show (if j = l ∨ j = (l + 2) then (-1 : Int32) else 0) + _ = _
    by_cases e : j = (l + 1)
    · rw [if_neg (by omega), if_pos (by omega), if_pos e]; decide
    · by_cases e2 : j = l ∨ j = (l + 2)
      · rw [if_pos e2, if_pos (by omega), if_neg e]; decide
      · rw [if_neg e2, if_neg (by omega), if_neg e]; decide)
  have e50 : ∀ k, k ≠ 56 → (z_lys (z_giv (z_giv (toM m) s l (-1)) s (l + 2) (-1)) s q 0 (nI l)).1 50 k = m.1 50 k := fun k hk => by
    rw [A.fm 50 k (by decide) (by decide) (by decide) (by decide)]; exact t50_t m hk
  refine ⟨rc_claimed R1, Or.inr ⟨1, s, 34, rp_claimed Q2 hs ?_ ?_ ?_ (by unfold BN; rw [e50 50 (by decide), e50 51 (by decide)]; exact hbn)⟩⟩
  · rw [g1, g2, f1, f2]; exact hfo
  · rw [A.fm 50 56 (by decide) (by decide) (by decide) (by decide)]; exact f3
  · rw [e50 50 (by decide), e50 51 (by decide)]; exact hbs
theorem rg_run2 {x m : zM} {s l q : Nat} (R : RCl x m) (Q : RQ x m (l + 2)) (hfo : x.1 2 3 = m.1 50 47) (hs : s < 4) (hl : l + 2 < 34) (hsr : sr (nI l)) (hq : q ≤ 3) (e64 : m.1 64 s = nI q) (hm4 : ∀ j, j < 4 → (m.1 64 j).toNatClampNeg ≤ 4) {bs : Int64} (hbs : bs = (((1 : Int64) <<< ((m.1 50 50).toInt64 &&& 63)) ||| (bif decide (m.1 50 51 = -1) then (0 : Int64) else 1 <<< ((m.1 50 51).toInt64 &&& 63)))) (hbn : BN m) : RG (clX (ldS (pS (bkH x) s (l + 2) 1) s 0 l q) s bs) (clN (toM (z_lys (z_giv (z_giv m s l (-1)) s (l + 1) (-1)) s q 0 (nI l))) s) := by
  rw [toM_lys, toM_giv, toM_giv]
  obtain ⟨Q1, f1, f2, f3⟩ := rq_brk Q
  have A := lay_run2 (x := bkH x) (m := toM m) (s := s) (l := l) (q := q) hs hl hq
  have R1 := rc_lay (rc_brk R) A hs hq ((t64_t m s).trans e64) (⟨⟨by decide, by decide⟩, bd_nI (by omega) ⟨by omega, by omega⟩, fun _ => hsr⟩) (fun j hj => by rw [t64_t]; exact hm4 j hj)
  obtain ⟨Q2, g1, g2⟩ := rq_lay Q1 A hs f3 (fun j hj => by
    rw [ct_r hl hj]
    show (if j = l ∨ j = (l + 1) then (-1 : Int32) else 0) + _ = _
    by_cases e : j = (l + 2)
    · rw [if_neg (by omega), if_pos (by omega), if_pos e]; decide
    · by_cases e2 : j = l ∨ j = (l + 1)
      · rw [if_pos e2, if_pos (by omega), if_neg e]; decide
      · rw [if_neg e2, if_neg (by omega), if_neg e]; decide)
  have e50 : ∀ k, k ≠ 56 → (z_lys (z_giv (z_giv (toM m) s l (-1)) s (l + 1) (-1)) s q 0 (nI l)).1 50 k = m.1 50 k := fun k hk => by
    rw [A.fm 50 k (by decide) (by decide) (by decide) (by decide)]; exact t50_t m hk
  refine ⟨rc_claimed R1, Or.inr ⟨1, s, 34, rp_claimed Q2 hs ?_ ?_ ?_ (by unfold BN; rw [e50 50 (by decide), e50 51 (by decide)]; exact hbn)⟩⟩
  · rw [g1, g2, f1, f2]; exact hfo
  · rw [A.fm 50 56 (by decide) (by decide) (by decide) (by decide)]; exact f3
  · rw [e50 50 (by decide), e50 51 (by decide)]; exact hbs
/-! four, pass, add: both games behind them -/
set_option maxRecDepth 8000
theorem toM_tt (m : zM) : toM (toM m) = toM m := by
  refine Prod.ext (funext fun r => funext fun k => ?_) rfl
  by_cases e : r = 69
  · subst e
    by_cases e3 : k = 3
    · subst e3; unfold toM; rw [ui_s, ui_s]
    · by_cases e2 : k = 2
      · subst e2; unfold toM; simp (disch := first | decide | omega) only [↓ui_s, ↓ui_k, ui_s, ui_k]
      · by_cases e1 : k = 1
        · subst e1; unfold toM; simp (disch := first | decide | omega) only [↓ui_s, ↓ui_k, ui_s, ui_k]
        · by_cases e0 : k = 0
          · subst e0; unfold toM; simp (disch := first | decide | omega) only [↓ui_s, ↓ui_k, ui_s, ui_k]
          · unfold toM; simp (disch := first | decide | omega) only [↓ui_s, ↓ui_k, ↓ui_o, ui_s, ui_k, ui_o]
  · by_cases e5 : r = 50 ∧ k = 56
    · obtain ⟨rfl, rfl⟩ := e5
      rw [h56_t, h56_t]
    · exact toM_o ⟨e, by omega⟩
noncomputable def tkW (y : zM) (s : Nat) : zM := z_ui (z_ui (z_ui y 0 8 (nI s)) 0 7 1) 0 15 (-1)
theorem rc_tkW {x m : zM} (R : RCl x m) (s : Nat) : RCl (tkW x s) m := RCl.cg2 (x := x) (x' := tkW x s) (m := m) (m' := m) (q2_xu (q2_xu (q2_xu (q2_x _) (by unfold gX2; omega)) (by unfold gX2; omega)) (by unfold gX2; omega)) (q2_m _) R
theorem rq_tkW {x m : zM} {lb : Nat} (Q : RQ x m lb) (s : Nat) : RQ (tkW x s) m lb ∧ (tkW x s).1 2 3 = x.1 2 3 := by
  unfold tkW
  refine ⟨⟨(by rw [ui_k (by decide), ui_k (by decide), ui_k (by decide)]; exact Q.br), Q.us, fun j h => by rw [ui_o (by first | decide | omega), ui_o (by first | decide | omega), ui_o (by first | decide | omega)]; exact Q.ow j h, Q.o1, Q.is, Q.s1, Q.w0, Q.dn, Q.dr, Q.tc.cg (fun j k _ _ => by rw [ui_o (by first | decide | omega), ui_o (by first | decide | omega), ui_o (by first | decide | omega)]) (fun _ => rfl) rfl rfl⟩, by rw [ui_o (by decide), ui_o (by decide), ui_o (by decide)]⟩
theorem rg_four {x m : zM} {s c q n k2 : Nat} (R : RCl x m) (Q : RQ x m c) (hs : s < 4) (hc : c < 34) (hq : q ≤ 3) (e64 : m.1 64 s = nI q) (hm4 : ∀ j, j < 4 → (m.1 64 j).toNatClampNeg ≤ 4) (hn : n < 4) (e47 : m.1 50 47 = nI n) (e48 : m.1 50 48 = nI n) (hk2 : k2 < 34) (hw : m.1 59 (122 + n) = nI k2) (hnx : bI 0 122 (m.1 50 46)) (hh : ¬ (z_giv m s c (-3)).1 60 (34 * s + k2) = -1) : RG (dT1 (bkH (tkW (ldS (pS (bkH x) s c 1) s 2 c q) s)) s n k2) (dM1 (z_ui (toM (z_lys (z_giv m s c (-3)) s q 2 (nI c))) 50 47 (m.1 50 47 + 1)) s n k2) := by
  rw [toM_lys, toM_giv]
  obtain ⟨Q1, f1, f2, f3⟩ := rq_brk Q
  have A := lay_four (x := bkH x) (m := toM m) (s := s) (c := c) (q := q) hs hc hq
  have R1 := rc_lay (rc_brk R) A hs hq ((t64_t m s).trans e64) (svd_n ⟨by decide, by decide⟩ (by decide) hc) (fun j hj => by rw [t64_t]; exact hm4 j hj)
  obtain ⟨Q2, g1, g2⟩ := rq_lay Q1 A hs f3 (fun j hj => by
    rw [ct_n9 (by decide) hc hj]
    show (if j = c then (-3 : Int32) else 0) + _ = _
    by_cases e : j = c
    · rw [if_pos e, if_pos e, if_pos e]; decide
    · rw [if_neg e, if_neg e, if_neg e]; decide)
  have R2 := rc_brk (rc_tkW R1 s)
  obtain ⟨Q3, -⟩ := rq_tkW Q2 s
  obtain ⟨Q4, -, -, -⟩ := rq_brk Q3
  have eT : toM (z_lys (z_giv (toM m) s c (-3)) s q 2 (nI c)) = z_lys (z_giv (toM m) s c (-3)) s q 2 (nI c) := by rw [toM_lys, toM_giv, toM_tt]
  rw [eT] at R2 Q4
  have R5 := rc_47 R2 (m.1 50 47 + 1)
  have Q5 := rq_47 Q4 (m.1 50 47 + 1)
  have g : ∀ r k', r ≠ 60 → r ≠ 62 → r ≠ 63 → r ≠ 64 → r ≠ 69 → (r ≠ 50 ∨ (k' ≠ 56 ∧ k' ≠ 47)) → (z_ui (z_lys (z_giv (toM m) s c (-3)) s q 2 (nI c)) 50 47 (m.1 50 47 + 1)).1 r k' = m.1 r k' := fun r k' h1 h2 h3 h4 h5 h6 => by
    have z : (z_lys (z_giv (toM m) s c (-3)) s q 2 (nI c)).1 r k' = m.1 r k' := by rw [lys_o ⟨h2, h3, h4⟩, giv_o h1, toM_o ⟨h5, by omega⟩]
    by_cases e : r = 50
    · rw [ui_k (by first | decide | omega)]; exact z
    · rw [ui_o e]; exact z
  refine ⟨rc_draw1 R5 hs hk2, Or.inr ⟨1, s, k2, rp_draw1 R5 Q5 hs hk2 ?_ hn ?_ ?_ ?_ (by rw [ui_o (by decide), lys_o ⟨by decide, by decide, by decide⟩, ← toM_giv, toM_o ⟨by decide, Or.inl (by decide)⟩]; exact hh)⟩⟩
  · rw [g 50 48 (by omega) (by omega) (by omega) (by omega) (by omega) (by omega)]; exact e48
  · rw [g 50 46 (by omega) (by omega) (by omega) (by omega) (by omega) (by omega)]; exact hnx
  · rw [g 59 _ (by omega) (by omega) (by omega) (by omega) (by omega) (by omega)]; exact hw
  · rw [ui_s, e47, nI_s1]
/-- a FOUR by an added tile goes through -/
theorem rg_pass3 {x m : zM} {t n k2 : Nat} (R : RCl x m) (Q : RQ x m 34) (ht : t < 4) (hn : n < 4) (e47 : m.1 50 47 = nI n) (e48 : m.1 50 48 = nI n) (hk2 : k2 < 34) (hw : m.1 59 (122 + n) = nI k2) (hnx : bI 0 122 (m.1 50 46)) (hh : ¬ m.1 60 (34 * t + k2) = -1) : RG (dT1 (bkH x) t n k2) (dM1 (toM (z_ui m 50 47 (m.1 50 47 + 1))) t n k2) := by
  rw [toM_47]
  obtain ⟨Q1, -, -, -⟩ := rq_brk Q
  have R5 := rc_47 (rc_brk R) (m.1 50 47 + 1)
  have Q5 := rq_47 Q1 (m.1 50 47 + 1)
  have g : ∀ r k', r ≠ 69 → (r ≠ 50 ∨ (k' ≠ 56 ∧ k' ≠ 47)) → (z_ui (toM m) 50 47 (m.1 50 47 + 1)).1 r k' = m.1 r k' := fun r k' h5 h6 => by
    have z : (toM m).1 r k' = m.1 r k' := toM_o ⟨h5, by omega⟩
    by_cases e : r = 50
    · rw [ui_k (by first | decide | omega)]; exact z
    · rw [ui_o e]; exact z
  refine ⟨rc_draw1 R5 ht hk2, Or.inr ⟨1, t, k2, rp_draw1 R5 Q5 ht hk2 ?_ hn ?_ ?_ ?_ (by rw [g 60 _ (by omega) (by omega)]; exact hh)⟩⟩
  · rw [g 50 48 (by omega) (by omega)]; exact e48
  · rw [g 50 46 (by omega) (by omega)]; exact hnx
  · rw [g 59 _ (by omega) (by omega)]; exact hw
  · rw [ui_s, e47, nI_s1]
/-- the next draws -/
theorem rg_pass2 {x m : zM} {u n k : Nat} (R : RCl x m) (Q : RQ x m 34) (hu : u < 4) (hk : k < 34) (hn : m.1 50 46 = nI n) (hn2 : n < 122) (hbk : bI 0 4 (m.1 50 48)) (hw : m.1 59 n = nI k) (hfo : x.1 2 3 = m.1 50 47) (hh : ¬ m.1 60 (34 * u + k) = -1) : RG (dT0 x u n k) (dM0 m u n k) := ⟨rc_draw0 R hu hk hn, Or.inr ⟨1, u, k, rp_draw0 R Q hu hk hn hn2 hbk hw hfo hh⟩⟩
/-- the tile that nobody wanted lies no more between -/
theorem rq_34 {x m : zM} {c : Nat} (Q : RQ x m c) : RQ x m 34 := ⟨Q.br, Q.us, Q.ow, Q.o1, Q.is, Q.s1, Q.w0, Q.dn, Q.dr, Q.tc.elim fun a z => ⟨a, z.1, fun k hk => by have y := z.2 k hk; simp only [show ¬ 34 = k by omega, if_false]; omega⟩⟩
/-! ends: both games behind them -/
set_option maxRecDepth 8000
theorem rg_ends {x m : zM} (R : RCl x m) (hfo : x.1 2 3 = m.1 50 47) (htu : x.1 0 8 = m.1 50 45) {dl e : Nat} (hdl : m.1 50 40 = nI dl) (hdl4 : dl < 4) (he : (dl + 1) % 4 = e) (ds ow : Bool) : RG (eHB x ds ow (xBk x) dl e (rcM x)) (eMB m ds (!ow) dl e) := by
  obtain ⟨h1, p1, p2, p3, p4, p5, p6, p7⟩ := rc_ends R hdl hdl4 he ds ow
  exact ⟨h1, Or.inl ⟨p1, p2, p3, p4.trans (hfo.trans p5.symm), p6.trans (htu.trans p7.symm)⟩⟩
theorem rg_win0_1 {x m W : zM} (R : RCl x m) (hfo : x.1 2 3 = m.1 50 47) (htu : x.1 0 8 = m.1 50 45) {dl e c : Nat} (hdl : m.1 50 40 = nI dl) (hdl4 : dl < 4) (he : (dl + 1) % 4 = e) (hb : x.1 4 0 = W.1 50 13) (hh : x.1 4 1 = W.1 50 14) (hf : x.2.1 4 3 = W.2.1 50 17) (hc : x.1 0 15 = nI c) : RG (wn1 x 0 dl e 1 2 3) (wM0_1 m W dl e c) := by
  rw [wn1_p, wM0_1p]
  have R1 := rc_win0_1 (dl := dl) R hb hh hf hc
  refine rg_ends R1 ?_ ?_ ?_ hdl4 he true false
  · unfold wp1 wq0_1 rcW; simp (disch := first | decide | omega) only [↓ui_s, ↓uj_s, ↓ui_o, ↓ui_k, ↓uj_o, ↓uj_k, ↓ui_j, ↓uj_i, ui_s, uj_s, ui_o, ui_k, uj_o, uj_k, ui_j, uj_i]; exact hfo
  · unfold wp1 wq0_1 rcW; simp (disch := first | decide | omega) only [↓ui_s, ↓uj_s, ↓ui_o, ↓ui_k, ↓uj_o, ↓uj_k, ↓ui_j, ↓uj_i, ui_s, uj_s, ui_o, ui_k, uj_o, uj_k, ui_j, uj_i]; exact htu
  · unfold wq0_1; simp (disch := first | decide | omega) only [↓ui_s, ↓uj_s, ↓ui_o, ↓ui_k, ↓uj_o, ↓uj_k, ↓ui_j, ↓uj_i, ui_s, uj_s, ui_o, ui_k, uj_o, uj_k, ui_j, uj_i]; exact hdl
theorem rg_win0_0 {x m W : zM} (R : RCl x m) (hfo : x.1 2 3 = m.1 50 47) (htu : x.1 0 8 = m.1 50 45) {dl e c : Nat} (hdl : m.1 50 40 = nI dl) (hdl4 : dl < 4) (he : (dl + 1) % 4 = e) (hb : x.1 4 0 = W.1 50 13) (hh : x.1 4 1 = W.1 50 14) (hf : x.2.1 4 3 = W.2.1 50 17) (hc : x.1 0 15 = nI c) : RG (wn0 x 0 dl e 1 2 3) (wM0_0 m W dl e c) := by
  rw [wn0_p, wM0_0p]
  have R1 := rc_win0_0 (dl := dl) R hb hh hf hc
  refine rg_ends R1 ?_ ?_ ?_ hdl4 he false true
  · unfold wp0 wq0_0 rcW; simp (disch := first | decide | omega) only [↓ui_s, ↓uj_s, ↓ui_o, ↓ui_k, ↓uj_o, ↓uj_k, ↓ui_j, ↓uj_i, ui_s, uj_s, ui_o, ui_k, uj_o, uj_k, ui_j, uj_i]; exact hfo
  · unfold wp0 wq0_0 rcW; simp (disch := first | decide | omega) only [↓ui_s, ↓uj_s, ↓ui_o, ↓ui_k, ↓uj_o, ↓uj_k, ↓ui_j, ↓uj_i, ui_s, uj_s, ui_o, ui_k, uj_o, uj_k, ui_j, uj_i]; exact htu
  · unfold wq0_0; simp (disch := first | decide | omega) only [↓ui_s, ↓uj_s, ↓ui_o, ↓ui_k, ↓uj_o, ↓uj_k, ↓ui_j, ↓uj_i, ui_s, uj_s, ui_o, ui_k, uj_o, uj_k, ui_j, uj_i]; exact hdl
theorem rg_win1_1 {x m W : zM} (R : RCl x m) (hfo : x.1 2 3 = m.1 50 47) (htu : x.1 0 8 = m.1 50 45) {dl e c : Nat} (hdl : m.1 50 40 = nI dl) (hdl4 : dl < 4) (he : (dl + 1) % 4 = e) (hb : x.1 4 0 = W.1 50 13) (hh : x.1 4 1 = W.1 50 14) (hf : x.2.1 4 3 = W.2.1 50 17) (hc : x.1 0 15 = nI c) : RG (wn1 x 1 dl e 2 3 0) (wM1_1 m W dl e c) := by
  rw [wn1_p, wM1_1p]
  have R1 := rc_win1_1 (dl := dl) R hb hh hf hc
  refine rg_ends R1 ?_ ?_ ?_ hdl4 he true false
  · unfold wp1 wq1_1 rcW; simp (disch := first | decide | omega) only [↓ui_s, ↓uj_s, ↓ui_o, ↓ui_k, ↓uj_o, ↓uj_k, ↓ui_j, ↓uj_i, ui_s, uj_s, ui_o, ui_k, uj_o, uj_k, ui_j, uj_i]; exact hfo
  · unfold wp1 wq1_1 rcW; simp (disch := first | decide | omega) only [↓ui_s, ↓uj_s, ↓ui_o, ↓ui_k, ↓uj_o, ↓uj_k, ↓ui_j, ↓uj_i, ui_s, uj_s, ui_o, ui_k, uj_o, uj_k, ui_j, uj_i]; exact htu
  · unfold wq1_1; simp (disch := first | decide | omega) only [↓ui_s, ↓uj_s, ↓ui_o, ↓ui_k, ↓uj_o, ↓uj_k, ↓ui_j, ↓uj_i, ui_s, uj_s, ui_o, ui_k, uj_o, uj_k, ui_j, uj_i]; exact hdl
theorem rg_win1_0 {x m W : zM} (R : RCl x m) (hfo : x.1 2 3 = m.1 50 47) (htu : x.1 0 8 = m.1 50 45) {dl e c : Nat} (hdl : m.1 50 40 = nI dl) (hdl4 : dl < 4) (he : (dl + 1) % 4 = e) (hb : x.1 4 0 = W.1 50 13) (hh : x.1 4 1 = W.1 50 14) (hf : x.2.1 4 3 = W.2.1 50 17) (hc : x.1 0 15 = nI c) : RG (wn0 x 1 dl e 2 3 0) (wM1_0 m W dl e c) := by
  rw [wn0_p, wM1_0p]
  have R1 := rc_win1_0 (dl := dl) R hb hh hf hc
  refine rg_ends R1 ?_ ?_ ?_ hdl4 he false true
  · unfold wp0 wq1_0 rcW; simp (disch := first | decide | omega) only [↓ui_s, ↓uj_s, ↓ui_o, ↓ui_k, ↓uj_o, ↓uj_k, ↓ui_j, ↓uj_i, ui_s, uj_s, ui_o, ui_k, uj_o, uj_k, ui_j, uj_i]; exact hfo
  · unfold wp0 wq1_0 rcW; simp (disch := first | decide | omega) only [↓ui_s, ↓uj_s, ↓ui_o, ↓ui_k, ↓uj_o, ↓uj_k, ↓ui_j, ↓uj_i, ui_s, uj_s, ui_o, ui_k, uj_o, uj_k, ui_j, uj_i]; exact htu
  · unfold wq1_0; simp (disch := first | decide | omega) only [↓ui_s, ↓uj_s, ↓ui_o, ↓ui_k, ↓uj_o, ↓uj_k, ↓ui_j, ↓uj_i, ui_s, uj_s, ui_o, ui_k, uj_o, uj_k, ui_j, uj_i]; exact hdl
theorem rg_win2_1 {x m W : zM} (R : RCl x m) (hfo : x.1 2 3 = m.1 50 47) (htu : x.1 0 8 = m.1 50 45) {dl e c : Nat} (hdl : m.1 50 40 = nI dl) (hdl4 : dl < 4) (he : (dl + 1) % 4 = e) (hb : x.1 4 0 = W.1 50 13) (hh : x.1 4 1 = W.1 50 14) (hf : x.2.1 4 3 = W.2.1 50 17) (hc : x.1 0 15 = nI c) : RG (wn1 x 2 dl e 3 0 1) (wM2_1 m W dl e c) := by
  rw [wn1_p, wM2_1p]
  have R1 := rc_win2_1 (dl := dl) R hb hh hf hc
  refine rg_ends R1 ?_ ?_ ?_ hdl4 he true false
  · unfold wp1 wq2_1 rcW; simp (disch := first | decide | omega) only [↓ui_s, ↓uj_s, ↓ui_o, ↓ui_k, ↓uj_o, ↓uj_k, ↓ui_j, ↓uj_i, ui_s, uj_s, ui_o, ui_k, uj_o, uj_k, ui_j, uj_i]; exact hfo
  · unfold wp1 wq2_1 rcW; simp (disch := first | decide | omega) only [↓ui_s, ↓uj_s, ↓ui_o, ↓ui_k, ↓uj_o, ↓uj_k, ↓ui_j, ↓uj_i, ui_s, uj_s, ui_o, ui_k, uj_o, uj_k, ui_j, uj_i]; exact htu
  · unfold wq2_1; simp (disch := first | decide | omega) only [↓ui_s, ↓uj_s, ↓ui_o, ↓ui_k, ↓uj_o, ↓uj_k, ↓ui_j, ↓uj_i, ui_s, uj_s, ui_o, ui_k, uj_o, uj_k, ui_j, uj_i]; exact hdl
theorem rg_win2_0 {x m W : zM} (R : RCl x m) (hfo : x.1 2 3 = m.1 50 47) (htu : x.1 0 8 = m.1 50 45) {dl e c : Nat} (hdl : m.1 50 40 = nI dl) (hdl4 : dl < 4) (he : (dl + 1) % 4 = e) (hb : x.1 4 0 = W.1 50 13) (hh : x.1 4 1 = W.1 50 14) (hf : x.2.1 4 3 = W.2.1 50 17) (hc : x.1 0 15 = nI c) : RG (wn0 x 2 dl e 3 0 1) (wM2_0 m W dl e c) := by
  rw [wn0_p, wM2_0p]
  have R1 := rc_win2_0 (dl := dl) R hb hh hf hc
  refine rg_ends R1 ?_ ?_ ?_ hdl4 he false true
  · unfold wp0 wq2_0 rcW; simp (disch := first | decide | omega) only [↓ui_s, ↓uj_s, ↓ui_o, ↓ui_k, ↓uj_o, ↓uj_k, ↓ui_j, ↓uj_i, ui_s, uj_s, ui_o, ui_k, uj_o, uj_k, ui_j, uj_i]; exact hfo
  · unfold wp0 wq2_0 rcW; simp (disch := first | decide | omega) only [↓ui_s, ↓uj_s, ↓ui_o, ↓ui_k, ↓uj_o, ↓uj_k, ↓ui_j, ↓uj_i, ui_s, uj_s, ui_o, ui_k, uj_o, uj_k, ui_j, uj_i]; exact htu
  · unfold wq2_0; simp (disch := first | decide | omega) only [↓ui_s, ↓uj_s, ↓ui_o, ↓ui_k, ↓uj_o, ↓uj_k, ↓ui_j, ↓uj_i, ui_s, uj_s, ui_o, ui_k, uj_o, uj_k, ui_j, uj_i]; exact hdl
theorem rg_win3_1 {x m W : zM} (R : RCl x m) (hfo : x.1 2 3 = m.1 50 47) (htu : x.1 0 8 = m.1 50 45) {dl e c : Nat} (hdl : m.1 50 40 = nI dl) (hdl4 : dl < 4) (he : (dl + 1) % 4 = e) (hb : x.1 4 0 = W.1 50 13) (hh : x.1 4 1 = W.1 50 14) (hf : x.2.1 4 3 = W.2.1 50 17) (hc : x.1 0 15 = nI c) : RG (wn1 x 3 dl e 0 1 2) (wM3_1 m W dl e c) := by
  rw [wn1_p, wM3_1p]
  have R1 := rc_win3_1 (dl := dl) R hb hh hf hc
  refine rg_ends R1 ?_ ?_ ?_ hdl4 he true false
  · unfold wp1 wq3_1 rcW; simp (disch := first | decide | omega) only [↓ui_s, ↓uj_s, ↓ui_o, ↓ui_k, ↓uj_o, ↓uj_k, ↓ui_j, ↓uj_i, ui_s, uj_s, ui_o, ui_k, uj_o, uj_k, ui_j, uj_i]; exact hfo
  · unfold wp1 wq3_1 rcW; simp (disch := first | decide | omega) only [↓ui_s, ↓uj_s, ↓ui_o, ↓ui_k, ↓uj_o, ↓uj_k, ↓ui_j, ↓uj_i, ui_s, uj_s, ui_o, ui_k, uj_o, uj_k, ui_j, uj_i]; exact htu
  · unfold wq3_1; simp (disch := first | decide | omega) only [↓ui_s, ↓uj_s, ↓ui_o, ↓ui_k, ↓uj_o, ↓uj_k, ↓ui_j, ↓uj_i, ui_s, uj_s, ui_o, ui_k, uj_o, uj_k, ui_j, uj_i]; exact hdl
theorem rg_win3_0 {x m W : zM} (R : RCl x m) (hfo : x.1 2 3 = m.1 50 47) (htu : x.1 0 8 = m.1 50 45) {dl e c : Nat} (hdl : m.1 50 40 = nI dl) (hdl4 : dl < 4) (he : (dl + 1) % 4 = e) (hb : x.1 4 0 = W.1 50 13) (hh : x.1 4 1 = W.1 50 14) (hf : x.2.1 4 3 = W.2.1 50 17) (hc : x.1 0 15 = nI c) : RG (wn0 x 3 dl e 0 1 2) (wM3_0 m W dl e c) := by
  rw [wn0_p, wM3_0p]
  have R1 := rc_win3_0 (dl := dl) R hb hh hf hc
  refine rg_ends R1 ?_ ?_ ?_ hdl4 he false true
  · unfold wp0 wq3_0 rcW; simp (disch := first | decide | omega) only [↓ui_s, ↓uj_s, ↓ui_o, ↓ui_k, ↓uj_o, ↓uj_k, ↓ui_j, ↓uj_i, ui_s, uj_s, ui_o, ui_k, uj_o, uj_k, ui_j, uj_i]; exact hfo
  · unfold wp0 wq3_0 rcW; simp (disch := first | decide | omega) only [↓ui_s, ↓uj_s, ↓ui_o, ↓ui_k, ↓uj_o, ↓uj_k, ↓ui_j, ↓uj_i, ui_s, uj_s, ui_o, ui_k, uj_o, uj_k, ui_j, uj_i]; exact htu
  · unfold wq3_0; simp (disch := first | decide | omega) only [↓ui_s, ↓uj_s, ↓ui_o, ↓ui_k, ↓uj_o, ↓uj_k, ↓ui_j, ↓uj_i, ui_s, uj_s, ui_o, ui_k, uj_o, uj_k, ui_j, uj_i]; exact hdl
/-! all that said so win: both games behind it -/
set_option maxRecDepth 8000
theorem rg_aw001 {x m W3 N3 : zM} {v3 : Q4} (R : RCl x m) {t dl e c u1 u2 u3 : Nat} (hfo : x.1 2 3 = m.1 50 47) (htu : x.1 0 8 = m.1 50 45) (hdl : m.1 50 40 = nI dl) (hdl4 : dl < 4) (he : (dl + 1) % 4 = e) (ht : t < 4) (hu1 : (t + 1) % 4 = u1) (hu2 : (t + 2) % 4 = u2) (hu3 : (t + 3) % 4 = u3) (hc : x.1 0 15 = nI c) (hO3 : WOj (x) W3) (hv3 : bqJ W3 = v3) (hb3 : v3.1 = N3.1 50 13) (hh3 : v3.2.1 = N3.1 50 14) (hf3 : v3.2.2.2 = N3.2.1 50 17) : RG (wA001 W3 t dl e u1 u2 u3 v3 x) (aM001 m N3 t dl e c u1 u2 u3) := by
  rw [wA001_p, aM001_p]
  have R1 := rc_aw001 (dl := dl) R ht hu1 hu2 hu3 hc hO3 hv3 hb3 hh3 hf3
  have o3 := fun r k h => (hO3 r k h).1
  have h1 : u1 < 4 := by omega
  have h2 : u2 < 4 := by omega
  have h3 : u3 < 4 := by omega
  have g := rg_ends R1 (dl := dl) (e := e) ?_ ?_ ?_ hdl4 he ((decide ((nI u3) = (nI dl)))) (!((decide ((nI u3) = (nI dl)))))
  · rw [Bool.not_not] at g; exact g
  · unfold wa001 aq001; unfold rcW at *; simp (disch := first | decide | omega) only [↓ui_s, ↓uj_s, ↓ui_o, ↓ui_k, ↓uj_o, ↓uj_k, ↓ui_j, ↓uj_i, ↓o3, ui_s, uj_s, ui_o, ui_k, uj_o, uj_k, ui_j, uj_i, o3]; exact hfo
  · unfold wa001 aq001; unfold rcW at *; simp (disch := first | decide | omega) only [↓ui_s, ↓uj_s, ↓ui_o, ↓ui_k, ↓uj_o, ↓uj_k, ↓ui_j, ↓uj_i, ↓o3, ui_s, uj_s, ui_o, ui_k, uj_o, uj_k, ui_j, uj_i, o3]; exact htu
  · unfold aq001; simp (disch := first | decide | omega) only [↓ui_s, ↓uj_s, ↓ui_o, ↓ui_k, ↓uj_o, ↓uj_k, ↓ui_j, ↓uj_i, ui_s, uj_s, ui_o, ui_k, uj_o, uj_k, ui_j, uj_i]; exact hdl
theorem rg_aw010 {x m W2 N2 : zM} {v2 : Q4} (R : RCl x m) {t dl e c u1 u2 u3 : Nat} (hfo : x.1 2 3 = m.1 50 47) (htu : x.1 0 8 = m.1 50 45) (hdl : m.1 50 40 = nI dl) (hdl4 : dl < 4) (he : (dl + 1) % 4 = e) (ht : t < 4) (hu1 : (t + 1) % 4 = u1) (hu2 : (t + 2) % 4 = u2) (hu3 : (t + 3) % 4 = u3) (hc : x.1 0 15 = nI c) (hO2 : WOj (x) W2) (hv2 : bqJ W2 = v2) (hb2 : v2.1 = N2.1 50 13) (hh2 : v2.2.1 = N2.1 50 14) (hf2 : v2.2.2.2 = N2.2.1 50 17) : RG (wA010 W2 t dl e u1 u2 u3 v2 x) (aM010 m N2 t dl e c u1 u2 u3) := by
  rw [wA010_p, aM010_p]
  have R1 := rc_aw010 (dl := dl) R ht hu1 hu2 hu3 hc hO2 hv2 hb2 hh2 hf2
  have o2 := fun r k h => (hO2 r k h).1
  have h1 : u1 < 4 := by omega
  have h2 : u2 < 4 := by omega
  have h3 : u3 < 4 := by omega
  have g := rg_ends R1 (dl := dl) (e := e) ?_ ?_ ?_ hdl4 he ((decide ((nI u2) = (nI dl)))) (!((decide ((nI u2) = (nI dl)))))
  · rw [Bool.not_not] at g; exact g
  · unfold wa010 aq010; unfold rcW at *; simp (disch := first | decide | omega) only [↓ui_s, ↓uj_s, ↓ui_o, ↓ui_k, ↓uj_o, ↓uj_k, ↓ui_j, ↓uj_i, ↓o2, ui_s, uj_s, ui_o, ui_k, uj_o, uj_k, ui_j, uj_i, o2]; exact hfo
  · unfold wa010 aq010; unfold rcW at *; simp (disch := first | decide | omega) only [↓ui_s, ↓uj_s, ↓ui_o, ↓ui_k, ↓uj_o, ↓uj_k, ↓ui_j, ↓uj_i, ↓o2, ui_s, uj_s, ui_o, ui_k, uj_o, uj_k, ui_j, uj_i, o2]; exact htu
  · unfold aq010; simp (disch := first | decide | omega) only [↓ui_s, ↓uj_s, ↓ui_o, ↓ui_k, ↓uj_o, ↓uj_k, ↓ui_j, ↓uj_i, ui_s, uj_s, ui_o, ui_k, uj_o, uj_k, ui_j, uj_i]; exact hdl
theorem rg_aw011 {x m W2 W3 N2 N3 : zM} {v2 v3 : Q4} (R : RCl x m) {t dl e c u1 u2 u3 : Nat} (hfo : x.1 2 3 = m.1 50 47) (htu : x.1 0 8 = m.1 50 45) (hdl : m.1 50 40 = nI dl) (hdl4 : dl < 4) (he : (dl + 1) % 4 = e) (ht : t < 4) (hu1 : (t + 1) % 4 = u1) (hu2 : (t + 2) % 4 = u2) (hu3 : (t + 3) % 4 = u3) (hc : x.1 0 15 = nI c) (hO2 : WOj (x) W2) (hv2 : bqJ W2 = v2) (hb2 : v2.1 = N2.1 50 13) (hh2 : v2.2.1 = N2.1 50 14) (hf2 : v2.2.2.2 = N2.2.1 50 17) (hO3 : WOj (z_ui (rcW (z_ui (z_ui W2 (18 + 8 * t) 4 ((x.1 (18 + 8 * t) 4) - ((hnd (v2.1 * (bif decide ((nI u2) = (nI dl)) then (6 : Int32) else 4))) + (300 * (x.1 0 11))))) (18 + 8 * u2) 4 ((x.1 (18 + 8 * u2) 4) + (((hnd (v2.1 * (bif decide ((nI u2) = (nI dl)) then (6 : Int32) else 4))) + (300 * (x.1 0 11))) + ((x.1 0 12) * 1000)))) 0 (nI u2) (nI t) (((hnd (v2.1 * (bif decide ((nI u2) = (nI dl)) then (6 : Int32) else 4))) + (300 * (x.1 0 11))) + ((x.1 0 12) * 1000))) 0 12 0) W3) (hv3 : bqJ W3 = v3) (hb3 : v3.1 = N3.1 50 13) (hh3 : v3.2.1 = N3.1 50 14) (hf3 : v3.2.2.2 = N3.2.1 50 17) : RG (wA011 W3 t dl e u1 u2 u3 v2 v3 x) (aM011 m N2 N3 t dl e c u1 u2 u3) := by
  rw [wA011_p, aM011_p]
  have R1 := rc_aw011 (dl := dl) R ht hu1 hu2 hu3 hc hO2 hv2 hb2 hh2 hf2 hO3 hv3 hb3 hh3 hf3
  have o2 := fun r k h => (hO2 r k h).1
  have o3 := fun r k h => (hO3 r k h).1
  have h1 : u1 < 4 := by omega
  have h2 : u2 < 4 := by omega
  have h3 : u3 < 4 := by omega
  have g := rg_ends R1 (dl := dl) (e := e) ?_ ?_ ?_ hdl4 he ((decide ((nI u2) = (nI dl))) || (decide ((nI u3) = (nI dl)))) (!((decide ((nI u2) = (nI dl))) || (decide ((nI u3) = (nI dl)))))
  · rw [Bool.not_not] at g; exact g
  · unfold wa011 aq011; unfold rcW at *; simp (disch := first | decide | omega) only [↓ui_s, ↓uj_s, ↓ui_o, ↓ui_k, ↓uj_o, ↓uj_k, ↓ui_j, ↓uj_i, ↓o2, ↓o3, ui_s, uj_s, ui_o, ui_k, uj_o, uj_k, ui_j, uj_i, o2, o3]; exact hfo
  · unfold wa011 aq011; unfold rcW at *; simp (disch := first | decide | omega) only [↓ui_s, ↓uj_s, ↓ui_o, ↓ui_k, ↓uj_o, ↓uj_k, ↓ui_j, ↓uj_i, ↓o2, ↓o3, ui_s, uj_s, ui_o, ui_k, uj_o, uj_k, ui_j, uj_i, o2, o3]; exact htu
  · unfold aq011; simp (disch := first | decide | omega) only [↓ui_s, ↓uj_s, ↓ui_o, ↓ui_k, ↓uj_o, ↓uj_k, ↓ui_j, ↓uj_i, ui_s, uj_s, ui_o, ui_k, uj_o, uj_k, ui_j, uj_i]; exact hdl
theorem rg_aw100 {x m W1 N1 : zM} {v1 : Q4} (R : RCl x m) {t dl e c u1 u2 u3 : Nat} (hfo : x.1 2 3 = m.1 50 47) (htu : x.1 0 8 = m.1 50 45) (hdl : m.1 50 40 = nI dl) (hdl4 : dl < 4) (he : (dl + 1) % 4 = e) (ht : t < 4) (hu1 : (t + 1) % 4 = u1) (hu2 : (t + 2) % 4 = u2) (hu3 : (t + 3) % 4 = u3) (hc : x.1 0 15 = nI c) (hO1 : WOj (x) W1) (hv1 : bqJ W1 = v1) (hb1 : v1.1 = N1.1 50 13) (hh1 : v1.2.1 = N1.1 50 14) (hf1 : v1.2.2.2 = N1.2.1 50 17) : RG (wA100 W1 t dl e u1 u2 u3 v1 x) (aM100 m N1 t dl e c u1 u2 u3) := by
  rw [wA100_p, aM100_p]
  have R1 := rc_aw100 (dl := dl) R ht hu1 hu2 hu3 hc hO1 hv1 hb1 hh1 hf1
  have o1 := fun r k h => (hO1 r k h).1
  have h1 : u1 < 4 := by omega
  have h2 : u2 < 4 := by omega
  have h3 : u3 < 4 := by omega
  have g := rg_ends R1 (dl := dl) (e := e) ?_ ?_ ?_ hdl4 he ((decide ((nI u1) = (nI dl)))) (!((decide ((nI u1) = (nI dl)))))
  · rw [Bool.not_not] at g; exact g
  · unfold wa100 aq100; unfold rcW at *; simp (disch := first | decide | omega) only [↓ui_s, ↓uj_s, ↓ui_o, ↓ui_k, ↓uj_o, ↓uj_k, ↓ui_j, ↓uj_i, ↓o1, ui_s, uj_s, ui_o, ui_k, uj_o, uj_k, ui_j, uj_i, o1]; exact hfo
  · unfold wa100 aq100; unfold rcW at *; simp (disch := first | decide | omega) only [↓ui_s, ↓uj_s, ↓ui_o, ↓ui_k, ↓uj_o, ↓uj_k, ↓ui_j, ↓uj_i, ↓o1, ui_s, uj_s, ui_o, ui_k, uj_o, uj_k, ui_j, uj_i, o1]; exact htu
  · unfold aq100; simp (disch := first | decide | omega) only [↓ui_s, ↓uj_s, ↓ui_o, ↓ui_k, ↓uj_o, ↓uj_k, ↓ui_j, ↓uj_i, ui_s, uj_s, ui_o, ui_k, uj_o, uj_k, ui_j, uj_i]; exact hdl
theorem rg_aw101 {x m W1 W3 N1 N3 : zM} {v1 v3 : Q4} (R : RCl x m) {t dl e c u1 u2 u3 : Nat} (hfo : x.1 2 3 = m.1 50 47) (htu : x.1 0 8 = m.1 50 45) (hdl : m.1 50 40 = nI dl) (hdl4 : dl < 4) (he : (dl + 1) % 4 = e) (ht : t < 4) (hu1 : (t + 1) % 4 = u1) (hu2 : (t + 2) % 4 = u2) (hu3 : (t + 3) % 4 = u3) (hc : x.1 0 15 = nI c) (hO1 : WOj (x) W1) (hv1 : bqJ W1 = v1) (hb1 : v1.1 = N1.1 50 13) (hh1 : v1.2.1 = N1.1 50 14) (hf1 : v1.2.2.2 = N1.2.1 50 17) (hO3 : WOj (z_ui (rcW (z_ui (z_ui W1 (18 + 8 * t) 4 ((x.1 (18 + 8 * t) 4) - ((hnd (v1.1 * (bif decide ((nI u1) = (nI dl)) then (6 : Int32) else 4))) + (300 * (x.1 0 11))))) (18 + 8 * u1) 4 ((x.1 (18 + 8 * u1) 4) + (((hnd (v1.1 * (bif decide ((nI u1) = (nI dl)) then (6 : Int32) else 4))) + (300 * (x.1 0 11))) + ((x.1 0 12) * 1000)))) 0 (nI u1) (nI t) (((hnd (v1.1 * (bif decide ((nI u1) = (nI dl)) then (6 : Int32) else 4))) + (300 * (x.1 0 11))) + ((x.1 0 12) * 1000))) 0 12 0) W3) (hv3 : bqJ W3 = v3) (hb3 : v3.1 = N3.1 50 13) (hh3 : v3.2.1 = N3.1 50 14) (hf3 : v3.2.2.2 = N3.2.1 50 17) : RG (wA101 W3 t dl e u1 u2 u3 v1 v3 x) (aM101 m N1 N3 t dl e c u1 u2 u3) := by
  rw [wA101_p, aM101_p]
  have R1 := rc_aw101 (dl := dl) R ht hu1 hu2 hu3 hc hO1 hv1 hb1 hh1 hf1 hO3 hv3 hb3 hh3 hf3
  have o1 := fun r k h => (hO1 r k h).1
  have o3 := fun r k h => (hO3 r k h).1
  have h1 : u1 < 4 := by omega
  have h2 : u2 < 4 := by omega
  have h3 : u3 < 4 := by omega
  have g := rg_ends R1 (dl := dl) (e := e) ?_ ?_ ?_ hdl4 he ((decide ((nI u1) = (nI dl))) || (decide ((nI u3) = (nI dl)))) (!((decide ((nI u1) = (nI dl))) || (decide ((nI u3) = (nI dl)))))
  · rw [Bool.not_not] at g; exact g
  · unfold wa101 aq101; unfold rcW at *; simp (disch := first | decide | omega) only [↓ui_s, ↓uj_s, ↓ui_o, ↓ui_k, ↓uj_o, ↓uj_k, ↓ui_j, ↓uj_i, ↓o1, ↓o3, ui_s, uj_s, ui_o, ui_k, uj_o, uj_k, ui_j, uj_i, o1, o3]; exact hfo
  · unfold wa101 aq101; unfold rcW at *; simp (disch := first | decide | omega) only [↓ui_s, ↓uj_s, ↓ui_o, ↓ui_k, ↓uj_o, ↓uj_k, ↓ui_j, ↓uj_i, ↓o1, ↓o3, ui_s, uj_s, ui_o, ui_k, uj_o, uj_k, ui_j, uj_i, o1, o3]; exact htu
  · unfold aq101; simp (disch := first | decide | omega) only [↓ui_s, ↓uj_s, ↓ui_o, ↓ui_k, ↓uj_o, ↓uj_k, ↓ui_j, ↓uj_i, ui_s, uj_s, ui_o, ui_k, uj_o, uj_k, ui_j, uj_i]; exact hdl
theorem rg_aw110 {x m W1 W2 N1 N2 : zM} {v1 v2 : Q4} (R : RCl x m) {t dl e c u1 u2 u3 : Nat} (hfo : x.1 2 3 = m.1 50 47) (htu : x.1 0 8 = m.1 50 45) (hdl : m.1 50 40 = nI dl) (hdl4 : dl < 4) (he : (dl + 1) % 4 = e) (ht : t < 4) (hu1 : (t + 1) % 4 = u1) (hu2 : (t + 2) % 4 = u2) (hu3 : (t + 3) % 4 = u3) (hc : x.1 0 15 = nI c) (hO1 : WOj (x) W1) (hv1 : bqJ W1 = v1) (hb1 : v1.1 = N1.1 50 13) (hh1 : v1.2.1 = N1.1 50 14) (hf1 : v1.2.2.2 = N1.2.1 50 17) (hO2 : WOj (z_ui (rcW (z_ui (z_ui W1 (18 + 8 * t) 4 ((x.1 (18 + 8 * t) 4) - ((hnd (v1.1 * (bif decide ((nI u1) = (nI dl)) then (6 : Int32) else 4))) + (300 * (x.1 0 11))))) (18 + 8 * u1) 4 ((x.1 (18 + 8 * u1) 4) + (((hnd (v1.1 * (bif decide ((nI u1) = (nI dl)) then (6 : Int32) else 4))) + (300 * (x.1 0 11))) + ((x.1 0 12) * 1000)))) 0 (nI u1) (nI t) (((hnd (v1.1 * (bif decide ((nI u1) = (nI dl)) then (6 : Int32) else 4))) + (300 * (x.1 0 11))) + ((x.1 0 12) * 1000))) 0 12 0) W2) (hv2 : bqJ W2 = v2) (hb2 : v2.1 = N2.1 50 13) (hh2 : v2.2.1 = N2.1 50 14) (hf2 : v2.2.2.2 = N2.2.1 50 17) : RG (wA110 W2 t dl e u1 u2 u3 v1 v2 x) (aM110 m N1 N2 t dl e c u1 u2 u3) := by
  rw [wA110_p, aM110_p]
  have R1 := rc_aw110 (dl := dl) R ht hu1 hu2 hu3 hc hO1 hv1 hb1 hh1 hf1 hO2 hv2 hb2 hh2 hf2
  have o1 := fun r k h => (hO1 r k h).1
  have o2 := fun r k h => (hO2 r k h).1
  have h1 : u1 < 4 := by omega
  have h2 : u2 < 4 := by omega
  have h3 : u3 < 4 := by omega
  have g := rg_ends R1 (dl := dl) (e := e) ?_ ?_ ?_ hdl4 he ((decide ((nI u1) = (nI dl))) || (decide ((nI u2) = (nI dl)))) (!((decide ((nI u1) = (nI dl))) || (decide ((nI u2) = (nI dl)))))
  · rw [Bool.not_not] at g; exact g
  · unfold wa110 aq110; unfold rcW at *; simp (disch := first | decide | omega) only [↓ui_s, ↓uj_s, ↓ui_o, ↓ui_k, ↓uj_o, ↓uj_k, ↓ui_j, ↓uj_i, ↓o1, ↓o2, ui_s, uj_s, ui_o, ui_k, uj_o, uj_k, ui_j, uj_i, o1, o2]; exact hfo
  · unfold wa110 aq110; unfold rcW at *; simp (disch := first | decide | omega) only [↓ui_s, ↓uj_s, ↓ui_o, ↓ui_k, ↓uj_o, ↓uj_k, ↓ui_j, ↓uj_i, ↓o1, ↓o2, ui_s, uj_s, ui_o, ui_k, uj_o, uj_k, ui_j, uj_i, o1, o2]; exact htu
  · unfold aq110; simp (disch := first | decide | omega) only [↓ui_s, ↓uj_s, ↓ui_o, ↓ui_k, ↓uj_o, ↓uj_k, ↓ui_j, ↓uj_i, ui_s, uj_s, ui_o, ui_k, uj_o, uj_k, ui_j, uj_i]; exact hdl
theorem rg_aw111 {x m W1 W2 W3 N1 N2 N3 : zM} {v1 v2 v3 : Q4} (R : RCl x m) {t dl e c u1 u2 u3 : Nat} (hfo : x.1 2 3 = m.1 50 47) (htu : x.1 0 8 = m.1 50 45) (hdl : m.1 50 40 = nI dl) (hdl4 : dl < 4) (he : (dl + 1) % 4 = e) (ht : t < 4) (hu1 : (t + 1) % 4 = u1) (hu2 : (t + 2) % 4 = u2) (hu3 : (t + 3) % 4 = u3) (hc : x.1 0 15 = nI c) (hO1 : WOj (x) W1) (hv1 : bqJ W1 = v1) (hb1 : v1.1 = N1.1 50 13) (hh1 : v1.2.1 = N1.1 50 14) (hf1 : v1.2.2.2 = N1.2.1 50 17) (hO2 : WOj (z_ui (rcW (z_ui (z_ui W1 (18 + 8 * t) 4 ((x.1 (18 + 8 * t) 4) - ((hnd (v1.1 * (bif decide ((nI u1) = (nI dl)) then (6 : Int32) else 4))) + (300 * (x.1 0 11))))) (18 + 8 * u1) 4 ((x.1 (18 + 8 * u1) 4) + (((hnd (v1.1 * (bif decide ((nI u1) = (nI dl)) then (6 : Int32) else 4))) + (300 * (x.1 0 11))) + ((x.1 0 12) * 1000)))) 0 (nI u1) (nI t) (((hnd (v1.1 * (bif decide ((nI u1) = (nI dl)) then (6 : Int32) else 4))) + (300 * (x.1 0 11))) + ((x.1 0 12) * 1000))) 0 12 0) W2) (hv2 : bqJ W2 = v2) (hb2 : v2.1 = N2.1 50 13) (hh2 : v2.2.1 = N2.1 50 14) (hf2 : v2.2.2.2 = N2.2.1 50 17) (hO3 : WOj (z_ui (rcW (z_ui (z_ui W2 (18 + 8 * t) 4 (((x.1 (18 + 8 * t) 4) - ((hnd (v1.1 * (bif decide ((nI u1) = (nI dl)) then (6 : Int32) else 4))) + (300 * (x.1 0 11)))) - ((hnd (v2.1 * (bif decide ((nI u2) = (nI dl)) then (6 : Int32) else 4))) + 0))) (18 + 8 * u2) 4 ((x.1 (18 + 8 * u2) 4) + (((hnd (v2.1 * (bif decide ((nI u2) = (nI dl)) then (6 : Int32) else 4))) + 0) + 0))) 1 (nI u2) (nI t) (((hnd (v2.1 * (bif decide ((nI u2) = (nI dl)) then (6 : Int32) else 4))) + 0) + 0)) 0 12 0) W3) (hv3 : bqJ W3 = v3) (hb3 : v3.1 = N3.1 50 13) (hh3 : v3.2.1 = N3.1 50 14) (hf3 : v3.2.2.2 = N3.2.1 50 17) : RG (wA111 W3 t dl e u1 u2 u3 v1 v2 v3 x) (aM111 m N1 N2 N3 t dl e c u1 u2 u3) := by
  rw [wA111_p, aM111_p]
  have R1 := rc_aw111 (dl := dl) R ht hu1 hu2 hu3 hc hO1 hv1 hb1 hh1 hf1 hO2 hv2 hb2 hh2 hf2 hO3 hv3 hb3 hh3 hf3
  have o1 := fun r k h => (hO1 r k h).1
  have o2 := fun r k h => (hO2 r k h).1
  have o3 := fun r k h => (hO3 r k h).1
  have h1 : u1 < 4 := by omega
  have h2 : u2 < 4 := by omega
  have h3 : u3 < 4 := by omega
  have g := rg_ends R1 (dl := dl) (e := e) ?_ ?_ ?_ hdl4 he (((decide ((nI u1) = (nI dl))) || (decide ((nI u2) = (nI dl)))) || (decide ((nI u3) = (nI dl)))) (!(((decide ((nI u1) = (nI dl))) || (decide ((nI u2) = (nI dl)))) || (decide ((nI u3) = (nI dl)))))
  · rw [Bool.not_not] at g; exact g
  · unfold wa111 aq111; unfold rcW at *; simp (disch := first | decide | omega) only [↓ui_s, ↓uj_s, ↓ui_o, ↓ui_k, ↓uj_o, ↓uj_k, ↓ui_j, ↓uj_i, ↓o1, ↓o2, ↓o3, ui_s, uj_s, ui_o, ui_k, uj_o, uj_k, ui_j, uj_i, o1, o2, o3]; exact hfo
  · unfold wa111 aq111; unfold rcW at *; simp (disch := first | decide | omega) only [↓ui_s, ↓uj_s, ↓ui_o, ↓ui_k, ↓uj_o, ↓uj_k, ↓ui_j, ↓uj_i, ↓o1, ↓o2, ↓o3, ui_s, uj_s, ui_o, ui_k, uj_o, uj_k, ui_j, uj_i, o1, o2, o3]; exact htu
  · unfold aq111; simp (disch := first | decide | omega) only [↓ui_s, ↓uj_s, ↓ui_o, ↓ui_k, ↓uj_o, ↓uj_k, ↓ui_j, ↓uj_i, ui_s, uj_s, ui_o, ui_k, uj_o, uj_k, ui_j, uj_i]; exact hdl
/-! a hand without a winner: both games behind it -/
set_option maxRecDepth 8000
theorem rg_nob0000 {x m : zM} (R : RCl x m) (hfo : x.1 2 3 = m.1 50 47) (htu : x.1 0 8 = m.1 50 45) {dl e : Nat} (hdl : m.1 50 40 = nI dl) (hdl4 : dl < 4) (he : (dl + 1) % 4 = e) (ds : Bool) : RG (eHB (x) ds false (xBk (x)) dl e (rcM (x))) (eMB (nM0000 m) ds true dl e) := by
  refine rg_ends (rc_nob0000 R) ?_ ?_ ?_ hdl4 he ds false
  · unfold nM0000; simp (disch := first | decide | omega) only [↓ui_s, ↓uj_s, ↓ui_o, ↓ui_k, ↓uj_o, ↓uj_k, ↓ui_j, ↓uj_i, ↓z_zero_o, ↓z_zero_j, ui_s, uj_s, ui_o, ui_k, uj_o, uj_k, ui_j, uj_i, z_zero_o, z_zero_j]; exact hfo
  · unfold nM0000; simp (disch := first | decide | omega) only [↓ui_s, ↓uj_s, ↓ui_o, ↓ui_k, ↓uj_o, ↓uj_k, ↓ui_j, ↓uj_i, ↓z_zero_o, ↓z_zero_j, ui_s, uj_s, ui_o, ui_k, uj_o, uj_k, ui_j, uj_i, z_zero_o, z_zero_j]; exact htu
  · unfold nM0000; simp (disch := first | decide | omega) only [↓ui_s, ↓uj_s, ↓ui_o, ↓ui_k, ↓uj_o, ↓uj_k, ↓ui_j, ↓uj_i, ↓z_zero_o, ↓z_zero_j, ui_s, uj_s, ui_o, ui_k, uj_o, uj_k, ui_j, uj_i, z_zero_o, z_zero_j]; exact hdl
theorem rg_nob0001 {x m : zM} (R : RCl x m) (hfo : x.1 2 3 = m.1 50 47) (htu : x.1 0 8 = m.1 50 45) {dl e : Nat} (hdl : m.1 50 40 = nI dl) (hdl4 : dl < 4) (he : (dl + 1) % 4 = e) (ds : Bool) : RG (eHB (z_ui (z_ui (z_ui (z_ui x 18 4 ((x.1 18 4) + (-1000))) 26 4 ((x.1 26 4) + (-1000))) 34 4 ((x.1 34 4) + (-1000))) 42 4 ((x.1 42 4) + 3000)) ds false (xBk (z_ui (z_ui (z_ui (z_ui x 18 4 ((x.1 18 4) + (-1000))) 26 4 ((x.1 26 4) + (-1000))) 34 4 ((x.1 34 4) + (-1000))) 42 4 ((x.1 42 4) + 3000))) dl e (rcM (z_ui (z_ui (z_ui (z_ui x 18 4 ((x.1 18 4) + (-1000))) 26 4 ((x.1 26 4) + (-1000))) 34 4 ((x.1 34 4) + (-1000))) 42 4 ((x.1 42 4) + 3000)))) (eMB (nM0001 m) ds true dl e) := by
  refine rg_ends (rc_nob0001 R) ?_ ?_ ?_ hdl4 he ds false
  · unfold nM0001; simp (disch := first | decide | omega) only [↓ui_s, ↓uj_s, ↓ui_o, ↓ui_k, ↓uj_o, ↓uj_k, ↓ui_j, ↓uj_i, ↓z_zero_o, ↓z_zero_j, ui_s, uj_s, ui_o, ui_k, uj_o, uj_k, ui_j, uj_i, z_zero_o, z_zero_j]; exact hfo
  · unfold nM0001; simp (disch := first | decide | omega) only [↓ui_s, ↓uj_s, ↓ui_o, ↓ui_k, ↓uj_o, ↓uj_k, ↓ui_j, ↓uj_i, ↓z_zero_o, ↓z_zero_j, ui_s, uj_s, ui_o, ui_k, uj_o, uj_k, ui_j, uj_i, z_zero_o, z_zero_j]; exact htu
  · unfold nM0001; simp (disch := first | decide | omega) only [↓ui_s, ↓uj_s, ↓ui_o, ↓ui_k, ↓uj_o, ↓uj_k, ↓ui_j, ↓uj_i, ↓z_zero_o, ↓z_zero_j, ui_s, uj_s, ui_o, ui_k, uj_o, uj_k, ui_j, uj_i, z_zero_o, z_zero_j]; exact hdl
theorem rg_nob0010 {x m : zM} (R : RCl x m) (hfo : x.1 2 3 = m.1 50 47) (htu : x.1 0 8 = m.1 50 45) {dl e : Nat} (hdl : m.1 50 40 = nI dl) (hdl4 : dl < 4) (he : (dl + 1) % 4 = e) (ds : Bool) : RG (eHB (z_ui (z_ui (z_ui (z_ui x 18 4 ((x.1 18 4) + (-1000))) 26 4 ((x.1 26 4) + (-1000))) 34 4 ((x.1 34 4) + 3000)) 42 4 ((x.1 42 4) + (-1000))) ds false (xBk (z_ui (z_ui (z_ui (z_ui x 18 4 ((x.1 18 4) + (-1000))) 26 4 ((x.1 26 4) + (-1000))) 34 4 ((x.1 34 4) + 3000)) 42 4 ((x.1 42 4) + (-1000)))) dl e (rcM (z_ui (z_ui (z_ui (z_ui x 18 4 ((x.1 18 4) + (-1000))) 26 4 ((x.1 26 4) + (-1000))) 34 4 ((x.1 34 4) + 3000)) 42 4 ((x.1 42 4) + (-1000))))) (eMB (nM0010 m) ds true dl e) := by
  refine rg_ends (rc_nob0010 R) ?_ ?_ ?_ hdl4 he ds false
  · unfold nM0010; simp (disch := first | decide | omega) only [↓ui_s, ↓uj_s, ↓ui_o, ↓ui_k, ↓uj_o, ↓uj_k, ↓ui_j, ↓uj_i, ↓z_zero_o, ↓z_zero_j, ui_s, uj_s, ui_o, ui_k, uj_o, uj_k, ui_j, uj_i, z_zero_o, z_zero_j]; exact hfo
  · unfold nM0010; simp (disch := first | decide | omega) only [↓ui_s, ↓uj_s, ↓ui_o, ↓ui_k, ↓uj_o, ↓uj_k, ↓ui_j, ↓uj_i, ↓z_zero_o, ↓z_zero_j, ui_s, uj_s, ui_o, ui_k, uj_o, uj_k, ui_j, uj_i, z_zero_o, z_zero_j]; exact htu
  · unfold nM0010; simp (disch := first | decide | omega) only [↓ui_s, ↓uj_s, ↓ui_o, ↓ui_k, ↓uj_o, ↓uj_k, ↓ui_j, ↓uj_i, ↓z_zero_o, ↓z_zero_j, ui_s, uj_s, ui_o, ui_k, uj_o, uj_k, ui_j, uj_i, z_zero_o, z_zero_j]; exact hdl
theorem rg_nob0011 {x m : zM} (R : RCl x m) (hfo : x.1 2 3 = m.1 50 47) (htu : x.1 0 8 = m.1 50 45) {dl e : Nat} (hdl : m.1 50 40 = nI dl) (hdl4 : dl < 4) (he : (dl + 1) % 4 = e) (ds : Bool) : RG (eHB (z_ui (z_ui (z_ui (z_ui x 18 4 ((x.1 18 4) + (-1500))) 26 4 ((x.1 26 4) + (-1500))) 34 4 ((x.1 34 4) + 1500)) 42 4 ((x.1 42 4) + 1500)) ds false (xBk (z_ui (z_ui (z_ui (z_ui x 18 4 ((x.1 18 4) + (-1500))) 26 4 ((x.1 26 4) + (-1500))) 34 4 ((x.1 34 4) + 1500)) 42 4 ((x.1 42 4) + 1500))) dl e (rcM (z_ui (z_ui (z_ui (z_ui x 18 4 ((x.1 18 4) + (-1500))) 26 4 ((x.1 26 4) + (-1500))) 34 4 ((x.1 34 4) + 1500)) 42 4 ((x.1 42 4) + 1500)))) (eMB (nM0011 m) ds true dl e) := by
  refine rg_ends (rc_nob0011 R) ?_ ?_ ?_ hdl4 he ds false
  · unfold nM0011; simp (disch := first | decide | omega) only [↓ui_s, ↓uj_s, ↓ui_o, ↓ui_k, ↓uj_o, ↓uj_k, ↓ui_j, ↓uj_i, ↓z_zero_o, ↓z_zero_j, ui_s, uj_s, ui_o, ui_k, uj_o, uj_k, ui_j, uj_i, z_zero_o, z_zero_j]; exact hfo
  · unfold nM0011; simp (disch := first | decide | omega) only [↓ui_s, ↓uj_s, ↓ui_o, ↓ui_k, ↓uj_o, ↓uj_k, ↓ui_j, ↓uj_i, ↓z_zero_o, ↓z_zero_j, ui_s, uj_s, ui_o, ui_k, uj_o, uj_k, ui_j, uj_i, z_zero_o, z_zero_j]; exact htu
  · unfold nM0011; simp (disch := first | decide | omega) only [↓ui_s, ↓uj_s, ↓ui_o, ↓ui_k, ↓uj_o, ↓uj_k, ↓ui_j, ↓uj_i, ↓z_zero_o, ↓z_zero_j, ui_s, uj_s, ui_o, ui_k, uj_o, uj_k, ui_j, uj_i, z_zero_o, z_zero_j]; exact hdl
theorem rg_nob0100 {x m : zM} (R : RCl x m) (hfo : x.1 2 3 = m.1 50 47) (htu : x.1 0 8 = m.1 50 45) {dl e : Nat} (hdl : m.1 50 40 = nI dl) (hdl4 : dl < 4) (he : (dl + 1) % 4 = e) (ds : Bool) : RG (eHB (z_ui (z_ui (z_ui (z_ui x 18 4 ((x.1 18 4) + (-1000))) 26 4 ((x.1 26 4) + 3000)) 34 4 ((x.1 34 4) + (-1000))) 42 4 ((x.1 42 4) + (-1000))) ds false (xBk (z_ui (z_ui (z_ui (z_ui x 18 4 ((x.1 18 4) + (-1000))) 26 4 ((x.1 26 4) + 3000)) 34 4 ((x.1 34 4) + (-1000))) 42 4 ((x.1 42 4) + (-1000)))) dl e (rcM (z_ui (z_ui (z_ui (z_ui x 18 4 ((x.1 18 4) + (-1000))) 26 4 ((x.1 26 4) + 3000)) 34 4 ((x.1 34 4) + (-1000))) 42 4 ((x.1 42 4) + (-1000))))) (eMB (nM0100 m) ds true dl e) := by
  refine rg_ends (rc_nob0100 R) ?_ ?_ ?_ hdl4 he ds false
  · unfold nM0100; simp (disch := first | decide | omega) only [↓ui_s, ↓uj_s, ↓ui_o, ↓ui_k, ↓uj_o, ↓uj_k, ↓ui_j, ↓uj_i, ↓z_zero_o, ↓z_zero_j, ui_s, uj_s, ui_o, ui_k, uj_o, uj_k, ui_j, uj_i, z_zero_o, z_zero_j]; exact hfo
  · unfold nM0100; simp (disch := first | decide | omega) only [↓ui_s, ↓uj_s, ↓ui_o, ↓ui_k, ↓uj_o, ↓uj_k, ↓ui_j, ↓uj_i, ↓z_zero_o, ↓z_zero_j, ui_s, uj_s, ui_o, ui_k, uj_o, uj_k, ui_j, uj_i, z_zero_o, z_zero_j]; exact htu
  · unfold nM0100; simp (disch := first | decide | omega) only [↓ui_s, ↓uj_s, ↓ui_o, ↓ui_k, ↓uj_o, ↓uj_k, ↓ui_j, ↓uj_i, ↓z_zero_o, ↓z_zero_j, ui_s, uj_s, ui_o, ui_k, uj_o, uj_k, ui_j, uj_i, z_zero_o, z_zero_j]; exact hdl
theorem rg_nob0101 {x m : zM} (R : RCl x m) (hfo : x.1 2 3 = m.1 50 47) (htu : x.1 0 8 = m.1 50 45) {dl e : Nat} (hdl : m.1 50 40 = nI dl) (hdl4 : dl < 4) (he : (dl + 1) % 4 = e) (ds : Bool) : RG (eHB (z_ui (z_ui (z_ui (z_ui x 18 4 ((x.1 18 4) + (-1500))) 26 4 ((x.1 26 4) + 1500)) 34 4 ((x.1 34 4) + (-1500))) 42 4 ((x.1 42 4) + 1500)) ds false (xBk (z_ui (z_ui (z_ui (z_ui x 18 4 ((x.1 18 4) + (-1500))) 26 4 ((x.1 26 4) + 1500)) 34 4 ((x.1 34 4) + (-1500))) 42 4 ((x.1 42 4) + 1500))) dl e (rcM (z_ui (z_ui (z_ui (z_ui x 18 4 ((x.1 18 4) + (-1500))) 26 4 ((x.1 26 4) + 1500)) 34 4 ((x.1 34 4) + (-1500))) 42 4 ((x.1 42 4) + 1500)))) (eMB (nM0101 m) ds true dl e) := by
  refine rg_ends (rc_nob0101 R) ?_ ?_ ?_ hdl4 he ds false
  · unfold nM0101; simp (disch := first | decide | omega) only [↓ui_s, ↓uj_s, ↓ui_o, ↓ui_k, ↓uj_o, ↓uj_k, ↓ui_j, ↓uj_i, ↓z_zero_o, ↓z_zero_j, ui_s, uj_s, ui_o, ui_k, uj_o, uj_k, ui_j, uj_i, z_zero_o, z_zero_j]; exact hfo
  · unfold nM0101; simp (disch := first | decide | omega) only [↓ui_s, ↓uj_s, ↓ui_o, ↓ui_k, ↓uj_o, ↓uj_k, ↓ui_j, ↓uj_i, ↓z_zero_o, ↓z_zero_j, ui_s, uj_s, ui_o, ui_k, uj_o, uj_k, ui_j, uj_i, z_zero_o, z_zero_j]; exact htu
  · unfold nM0101; simp (disch := first | decide | omega) only [↓ui_s, ↓uj_s, ↓ui_o, ↓ui_k, ↓uj_o, ↓uj_k, ↓ui_j, ↓uj_i, ↓z_zero_o, ↓z_zero_j, ui_s, uj_s, ui_o, ui_k, uj_o, uj_k, ui_j, uj_i, z_zero_o, z_zero_j]; exact hdl
theorem rg_nob0110 {x m : zM} (R : RCl x m) (hfo : x.1 2 3 = m.1 50 47) (htu : x.1 0 8 = m.1 50 45) {dl e : Nat} (hdl : m.1 50 40 = nI dl) (hdl4 : dl < 4) (he : (dl + 1) % 4 = e) (ds : Bool) : RG (eHB (z_ui (z_ui (z_ui (z_ui x 18 4 ((x.1 18 4) + (-1500))) 26 4 ((x.1 26 4) + 1500)) 34 4 ((x.1 34 4) + 1500)) 42 4 ((x.1 42 4) + (-1500))) ds false (xBk (z_ui (z_ui (z_ui (z_ui x 18 4 ((x.1 18 4) + (-1500))) 26 4 ((x.1 26 4) + 1500)) 34 4 ((x.1 34 4) + 1500)) 42 4 ((x.1 42 4) + (-1500)))) dl e (rcM (z_ui (z_ui (z_ui (z_ui x 18 4 ((x.1 18 4) + (-1500))) 26 4 ((x.1 26 4) + 1500)) 34 4 ((x.1 34 4) + 1500)) 42 4 ((x.1 42 4) + (-1500))))) (eMB (nM0110 m) ds true dl e) := by
  refine rg_ends (rc_nob0110 R) ?_ ?_ ?_ hdl4 he ds false
  · unfold nM0110; simp (disch := first | decide | omega) only [↓ui_s, ↓uj_s, ↓ui_o, ↓ui_k, ↓uj_o, ↓uj_k, ↓ui_j, ↓uj_i, ↓z_zero_o, ↓z_zero_j, ui_s, uj_s, ui_o, ui_k, uj_o, uj_k, ui_j, uj_i, z_zero_o, z_zero_j]; exact hfo
  · unfold nM0110; simp (disch := first | decide | omega) only [↓ui_s, ↓uj_s, ↓ui_o, ↓ui_k, ↓uj_o, ↓uj_k, ↓ui_j, ↓uj_i, ↓z_zero_o, ↓z_zero_j, ui_s, uj_s, ui_o, ui_k, uj_o, uj_k, ui_j, uj_i, z_zero_o, z_zero_j]; exact htu
  · unfold nM0110; simp (disch := first | decide | omega) only [↓ui_s, ↓uj_s, ↓ui_o, ↓ui_k, ↓uj_o, ↓uj_k, ↓ui_j, ↓uj_i, ↓z_zero_o, ↓z_zero_j, ui_s, uj_s, ui_o, ui_k, uj_o, uj_k, ui_j, uj_i, z_zero_o, z_zero_j]; exact hdl
theorem rg_nob0111 {x m : zM} (R : RCl x m) (hfo : x.1 2 3 = m.1 50 47) (htu : x.1 0 8 = m.1 50 45) {dl e : Nat} (hdl : m.1 50 40 = nI dl) (hdl4 : dl < 4) (he : (dl + 1) % 4 = e) (ds : Bool) : RG (eHB (z_ui (z_ui (z_ui (z_ui x 18 4 ((x.1 18 4) + (-3000))) 26 4 ((x.1 26 4) + 1000)) 34 4 ((x.1 34 4) + 1000)) 42 4 ((x.1 42 4) + 1000)) ds false (xBk (z_ui (z_ui (z_ui (z_ui x 18 4 ((x.1 18 4) + (-3000))) 26 4 ((x.1 26 4) + 1000)) 34 4 ((x.1 34 4) + 1000)) 42 4 ((x.1 42 4) + 1000))) dl e (rcM (z_ui (z_ui (z_ui (z_ui x 18 4 ((x.1 18 4) + (-3000))) 26 4 ((x.1 26 4) + 1000)) 34 4 ((x.1 34 4) + 1000)) 42 4 ((x.1 42 4) + 1000)))) (eMB (nM0111 m) ds true dl e) := by
  refine rg_ends (rc_nob0111 R) ?_ ?_ ?_ hdl4 he ds false
  · unfold nM0111; simp (disch := first | decide | omega) only [↓ui_s, ↓uj_s, ↓ui_o, ↓ui_k, ↓uj_o, ↓uj_k, ↓ui_j, ↓uj_i, ↓z_zero_o, ↓z_zero_j, ui_s, uj_s, ui_o, ui_k, uj_o, uj_k, ui_j, uj_i, z_zero_o, z_zero_j]; exact hfo
  · unfold nM0111; simp (disch := first | decide | omega) only [↓ui_s, ↓uj_s, ↓ui_o, ↓ui_k, ↓uj_o, ↓uj_k, ↓ui_j, ↓uj_i, ↓z_zero_o, ↓z_zero_j, ui_s, uj_s, ui_o, ui_k, uj_o, uj_k, ui_j, uj_i, z_zero_o, z_zero_j]; exact htu
  · unfold nM0111; simp (disch := first | decide | omega) only [↓ui_s, ↓uj_s, ↓ui_o, ↓ui_k, ↓uj_o, ↓uj_k, ↓ui_j, ↓uj_i, ↓z_zero_o, ↓z_zero_j, ui_s, uj_s, ui_o, ui_k, uj_o, uj_k, ui_j, uj_i, z_zero_o, z_zero_j]; exact hdl
theorem rg_nob1000 {x m : zM} (R : RCl x m) (hfo : x.1 2 3 = m.1 50 47) (htu : x.1 0 8 = m.1 50 45) {dl e : Nat} (hdl : m.1 50 40 = nI dl) (hdl4 : dl < 4) (he : (dl + 1) % 4 = e) (ds : Bool) : RG (eHB (z_ui (z_ui (z_ui (z_ui x 18 4 ((x.1 18 4) + 3000)) 26 4 ((x.1 26 4) + (-1000))) 34 4 ((x.1 34 4) + (-1000))) 42 4 ((x.1 42 4) + (-1000))) ds false (xBk (z_ui (z_ui (z_ui (z_ui x 18 4 ((x.1 18 4) + 3000)) 26 4 ((x.1 26 4) + (-1000))) 34 4 ((x.1 34 4) + (-1000))) 42 4 ((x.1 42 4) + (-1000)))) dl e (rcM (z_ui (z_ui (z_ui (z_ui x 18 4 ((x.1 18 4) + 3000)) 26 4 ((x.1 26 4) + (-1000))) 34 4 ((x.1 34 4) + (-1000))) 42 4 ((x.1 42 4) + (-1000))))) (eMB (nM1000 m) ds true dl e) := by
  refine rg_ends (rc_nob1000 R) ?_ ?_ ?_ hdl4 he ds false
  · unfold nM1000; simp (disch := first | decide | omega) only [↓ui_s, ↓uj_s, ↓ui_o, ↓ui_k, ↓uj_o, ↓uj_k, ↓ui_j, ↓uj_i, ↓z_zero_o, ↓z_zero_j, ui_s, uj_s, ui_o, ui_k, uj_o, uj_k, ui_j, uj_i, z_zero_o, z_zero_j]; exact hfo
  · unfold nM1000; simp (disch := first | decide | omega) only [↓ui_s, ↓uj_s, ↓ui_o, ↓ui_k, ↓uj_o, ↓uj_k, ↓ui_j, ↓uj_i, ↓z_zero_o, ↓z_zero_j, ui_s, uj_s, ui_o, ui_k, uj_o, uj_k, ui_j, uj_i, z_zero_o, z_zero_j]; exact htu
  · unfold nM1000; simp (disch := first | decide | omega) only [↓ui_s, ↓uj_s, ↓ui_o, ↓ui_k, ↓uj_o, ↓uj_k, ↓ui_j, ↓uj_i, ↓z_zero_o, ↓z_zero_j, ui_s, uj_s, ui_o, ui_k, uj_o, uj_k, ui_j, uj_i, z_zero_o, z_zero_j]; exact hdl
theorem rg_nob1001 {x m : zM} (R : RCl x m) (hfo : x.1 2 3 = m.1 50 47) (htu : x.1 0 8 = m.1 50 45) {dl e : Nat} (hdl : m.1 50 40 = nI dl) (hdl4 : dl < 4) (he : (dl + 1) % 4 = e) (ds : Bool) : RG (eHB (z_ui (z_ui (z_ui (z_ui x 18 4 ((x.1 18 4) + 1500)) 26 4 ((x.1 26 4) + (-1500))) 34 4 ((x.1 34 4) + (-1500))) 42 4 ((x.1 42 4) + 1500)) ds false (xBk (z_ui (z_ui (z_ui (z_ui x 18 4 ((x.1 18 4) + 1500)) 26 4 ((x.1 26 4) + (-1500))) 34 4 ((x.1 34 4) + (-1500))) 42 4 ((x.1 42 4) + 1500))) dl e (rcM (z_ui (z_ui (z_ui (z_ui x 18 4 ((x.1 18 4) + 1500)) 26 4 ((x.1 26 4) + (-1500))) 34 4 ((x.1 34 4) + (-1500))) 42 4 ((x.1 42 4) + 1500)))) (eMB (nM1001 m) ds true dl e) := by
  refine rg_ends (rc_nob1001 R) ?_ ?_ ?_ hdl4 he ds false
  · unfold nM1001; simp (disch := first | decide | omega) only [↓ui_s, ↓uj_s, ↓ui_o, ↓ui_k, ↓uj_o, ↓uj_k, ↓ui_j, ↓uj_i, ↓z_zero_o, ↓z_zero_j, ui_s, uj_s, ui_o, ui_k, uj_o, uj_k, ui_j, uj_i, z_zero_o, z_zero_j]; exact hfo
  · unfold nM1001; simp (disch := first | decide | omega) only [↓ui_s, ↓uj_s, ↓ui_o, ↓ui_k, ↓uj_o, ↓uj_k, ↓ui_j, ↓uj_i, ↓z_zero_o, ↓z_zero_j, ui_s, uj_s, ui_o, ui_k, uj_o, uj_k, ui_j, uj_i, z_zero_o, z_zero_j]; exact htu
  · unfold nM1001; simp (disch := first | decide | omega) only [↓ui_s, ↓uj_s, ↓ui_o, ↓ui_k, ↓uj_o, ↓uj_k, ↓ui_j, ↓uj_i, ↓z_zero_o, ↓z_zero_j, ui_s, uj_s, ui_o, ui_k, uj_o, uj_k, ui_j, uj_i, z_zero_o, z_zero_j]; exact hdl
theorem rg_nob1010 {x m : zM} (R : RCl x m) (hfo : x.1 2 3 = m.1 50 47) (htu : x.1 0 8 = m.1 50 45) {dl e : Nat} (hdl : m.1 50 40 = nI dl) (hdl4 : dl < 4) (he : (dl + 1) % 4 = e) (ds : Bool) : RG (eHB (z_ui (z_ui (z_ui (z_ui x 18 4 ((x.1 18 4) + 1500)) 26 4 ((x.1 26 4) + (-1500))) 34 4 ((x.1 34 4) + 1500)) 42 4 ((x.1 42 4) + (-1500))) ds false (xBk (z_ui (z_ui (z_ui (z_ui x 18 4 ((x.1 18 4) + 1500)) 26 4 ((x.1 26 4) + (-1500))) 34 4 ((x.1 34 4) + 1500)) 42 4 ((x.1 42 4) + (-1500)))) dl e (rcM (z_ui (z_ui (z_ui (z_ui x 18 4 ((x.1 18 4) + 1500)) 26 4 ((x.1 26 4) + (-1500))) 34 4 ((x.1 34 4) + 1500)) 42 4 ((x.1 42 4) + (-1500))))) (eMB (nM1010 m) ds true dl e) := by
  refine rg_ends (rc_nob1010 R) ?_ ?_ ?_ hdl4 he ds false
  · unfold nM1010; simp (disch := first | decide | omega) only [↓ui_s, ↓uj_s, ↓ui_o, ↓ui_k, ↓uj_o, ↓uj_k, ↓ui_j, ↓uj_i, ↓z_zero_o, ↓z_zero_j, ui_s, uj_s, ui_o, ui_k, uj_o, uj_k, ui_j, uj_i, z_zero_o, z_zero_j]; exact hfo
  · unfold nM1010; simp (disch := first | decide | omega) only [↓ui_s, ↓uj_s, ↓ui_o, ↓ui_k, ↓uj_o, ↓uj_k, ↓ui_j, ↓uj_i, ↓z_zero_o, ↓z_zero_j, ui_s, uj_s, ui_o, ui_k, uj_o, uj_k, ui_j, uj_i, z_zero_o, z_zero_j]; exact htu
  · unfold nM1010; simp (disch := first | decide | omega) only [↓ui_s, ↓uj_s, ↓ui_o, ↓ui_k, ↓uj_o, ↓uj_k, ↓ui_j, ↓uj_i, ↓z_zero_o, ↓z_zero_j, ui_s, uj_s, ui_o, ui_k, uj_o, uj_k, ui_j, uj_i, z_zero_o, z_zero_j]; exact hdl
theorem rg_nob1011 {x m : zM} (R : RCl x m) (hfo : x.1 2 3 = m.1 50 47) (htu : x.1 0 8 = m.1 50 45) {dl e : Nat} (hdl : m.1 50 40 = nI dl) (hdl4 : dl < 4) (he : (dl + 1) % 4 = e) (ds : Bool) : RG (eHB (z_ui (z_ui (z_ui (z_ui x 18 4 ((x.1 18 4) + 1000)) 26 4 ((x.1 26 4) + (-3000))) 34 4 ((x.1 34 4) + 1000)) 42 4 ((x.1 42 4) + 1000)) ds false (xBk (z_ui (z_ui (z_ui (z_ui x 18 4 ((x.1 18 4) + 1000)) 26 4 ((x.1 26 4) + (-3000))) 34 4 ((x.1 34 4) + 1000)) 42 4 ((x.1 42 4) + 1000))) dl e (rcM (z_ui (z_ui (z_ui (z_ui x 18 4 ((x.1 18 4) + 1000)) 26 4 ((x.1 26 4) + (-3000))) 34 4 ((x.1 34 4) + 1000)) 42 4 ((x.1 42 4) + 1000)))) (eMB (nM1011 m) ds true dl e) := by
  refine rg_ends (rc_nob1011 R) ?_ ?_ ?_ hdl4 he ds false
  · unfold nM1011; simp (disch := first | decide | omega) only [↓ui_s, ↓uj_s, ↓ui_o, ↓ui_k, ↓uj_o, ↓uj_k, ↓ui_j, ↓uj_i, ↓z_zero_o, ↓z_zero_j, ui_s, uj_s, ui_o, ui_k, uj_o, uj_k, ui_j, uj_i, z_zero_o, z_zero_j]; exact hfo
  · unfold nM1011; simp (disch := first | decide | omega) only [↓ui_s, ↓uj_s, ↓ui_o, ↓ui_k, ↓uj_o, ↓uj_k, ↓ui_j, ↓uj_i, ↓z_zero_o, ↓z_zero_j, ui_s, uj_s, ui_o, ui_k, uj_o, uj_k, ui_j, uj_i, z_zero_o, z_zero_j]; exact htu
  · unfold nM1011; simp (disch := first | decide | omega) only [↓ui_s, ↓uj_s, ↓ui_o, ↓ui_k, ↓uj_o, ↓uj_k, ↓ui_j, ↓uj_i, ↓z_zero_o, ↓z_zero_j, ui_s, uj_s, ui_o, ui_k, uj_o, uj_k, ui_j, uj_i, z_zero_o, z_zero_j]; exact hdl
theorem rg_nob1100 {x m : zM} (R : RCl x m) (hfo : x.1 2 3 = m.1 50 47) (htu : x.1 0 8 = m.1 50 45) {dl e : Nat} (hdl : m.1 50 40 = nI dl) (hdl4 : dl < 4) (he : (dl + 1) % 4 = e) (ds : Bool) : RG (eHB (z_ui (z_ui (z_ui (z_ui x 18 4 ((x.1 18 4) + 1500)) 26 4 ((x.1 26 4) + 1500)) 34 4 ((x.1 34 4) + (-1500))) 42 4 ((x.1 42 4) + (-1500))) ds false (xBk (z_ui (z_ui (z_ui (z_ui x 18 4 ((x.1 18 4) + 1500)) 26 4 ((x.1 26 4) + 1500)) 34 4 ((x.1 34 4) + (-1500))) 42 4 ((x.1 42 4) + (-1500)))) dl e (rcM (z_ui (z_ui (z_ui (z_ui x 18 4 ((x.1 18 4) + 1500)) 26 4 ((x.1 26 4) + 1500)) 34 4 ((x.1 34 4) + (-1500))) 42 4 ((x.1 42 4) + (-1500))))) (eMB (nM1100 m) ds true dl e) := by
  refine rg_ends (rc_nob1100 R) ?_ ?_ ?_ hdl4 he ds false
  · unfold nM1100; simp (disch := first | decide | omega) only [↓ui_s, ↓uj_s, ↓ui_o, ↓ui_k, ↓uj_o, ↓uj_k, ↓ui_j, ↓uj_i, ↓z_zero_o, ↓z_zero_j, ui_s, uj_s, ui_o, ui_k, uj_o, uj_k, ui_j, uj_i, z_zero_o, z_zero_j]; exact hfo
  · unfold nM1100; simp (disch := first | decide | omega) only [↓ui_s, ↓uj_s, ↓ui_o, ↓ui_k, ↓uj_o, ↓uj_k, ↓ui_j, ↓uj_i, ↓z_zero_o, ↓z_zero_j, ui_s, uj_s, ui_o, ui_k, uj_o, uj_k, ui_j, uj_i, z_zero_o, z_zero_j]; exact htu
  · unfold nM1100; simp (disch := first | decide | omega) only [↓ui_s, ↓uj_s, ↓ui_o, ↓ui_k, ↓uj_o, ↓uj_k, ↓ui_j, ↓uj_i, ↓z_zero_o, ↓z_zero_j, ui_s, uj_s, ui_o, ui_k, uj_o, uj_k, ui_j, uj_i, z_zero_o, z_zero_j]; exact hdl
theorem rg_nob1101 {x m : zM} (R : RCl x m) (hfo : x.1 2 3 = m.1 50 47) (htu : x.1 0 8 = m.1 50 45) {dl e : Nat} (hdl : m.1 50 40 = nI dl) (hdl4 : dl < 4) (he : (dl + 1) % 4 = e) (ds : Bool) : RG (eHB (z_ui (z_ui (z_ui (z_ui x 18 4 ((x.1 18 4) + 1000)) 26 4 ((x.1 26 4) + 1000)) 34 4 ((x.1 34 4) + (-3000))) 42 4 ((x.1 42 4) + 1000)) ds false (xBk (z_ui (z_ui (z_ui (z_ui x 18 4 ((x.1 18 4) + 1000)) 26 4 ((x.1 26 4) + 1000)) 34 4 ((x.1 34 4) + (-3000))) 42 4 ((x.1 42 4) + 1000))) dl e (rcM (z_ui (z_ui (z_ui (z_ui x 18 4 ((x.1 18 4) + 1000)) 26 4 ((x.1 26 4) + 1000)) 34 4 ((x.1 34 4) + (-3000))) 42 4 ((x.1 42 4) + 1000)))) (eMB (nM1101 m) ds true dl e) := by
  refine rg_ends (rc_nob1101 R) ?_ ?_ ?_ hdl4 he ds false
  · unfold nM1101; simp (disch := first | decide | omega) only [↓ui_s, ↓uj_s, ↓ui_o, ↓ui_k, ↓uj_o, ↓uj_k, ↓ui_j, ↓uj_i, ↓z_zero_o, ↓z_zero_j, ui_s, uj_s, ui_o, ui_k, uj_o, uj_k, ui_j, uj_i, z_zero_o, z_zero_j]; exact hfo
  · unfold nM1101; simp (disch := first | decide | omega) only [↓ui_s, ↓uj_s, ↓ui_o, ↓ui_k, ↓uj_o, ↓uj_k, ↓ui_j, ↓uj_i, ↓z_zero_o, ↓z_zero_j, ui_s, uj_s, ui_o, ui_k, uj_o, uj_k, ui_j, uj_i, z_zero_o, z_zero_j]; exact htu
  · unfold nM1101; simp (disch := first | decide | omega) only [↓ui_s, ↓uj_s, ↓ui_o, ↓ui_k, ↓uj_o, ↓uj_k, ↓ui_j, ↓uj_i, ↓z_zero_o, ↓z_zero_j, ui_s, uj_s, ui_o, ui_k, uj_o, uj_k, ui_j, uj_i, z_zero_o, z_zero_j]; exact hdl
theorem rg_nob1110 {x m : zM} (R : RCl x m) (hfo : x.1 2 3 = m.1 50 47) (htu : x.1 0 8 = m.1 50 45) {dl e : Nat} (hdl : m.1 50 40 = nI dl) (hdl4 : dl < 4) (he : (dl + 1) % 4 = e) (ds : Bool) : RG (eHB (z_ui (z_ui (z_ui (z_ui x 18 4 ((x.1 18 4) + 1000)) 26 4 ((x.1 26 4) + 1000)) 34 4 ((x.1 34 4) + 1000)) 42 4 ((x.1 42 4) + (-3000))) ds false (xBk (z_ui (z_ui (z_ui (z_ui x 18 4 ((x.1 18 4) + 1000)) 26 4 ((x.1 26 4) + 1000)) 34 4 ((x.1 34 4) + 1000)) 42 4 ((x.1 42 4) + (-3000)))) dl e (rcM (z_ui (z_ui (z_ui (z_ui x 18 4 ((x.1 18 4) + 1000)) 26 4 ((x.1 26 4) + 1000)) 34 4 ((x.1 34 4) + 1000)) 42 4 ((x.1 42 4) + (-3000))))) (eMB (nM1110 m) ds true dl e) := by
  refine rg_ends (rc_nob1110 R) ?_ ?_ ?_ hdl4 he ds false
  · unfold nM1110; simp (disch := first | decide | omega) only [↓ui_s, ↓uj_s, ↓ui_o, ↓ui_k, ↓uj_o, ↓uj_k, ↓ui_j, ↓uj_i, ↓z_zero_o, ↓z_zero_j, ui_s, uj_s, ui_o, ui_k, uj_o, uj_k, ui_j, uj_i, z_zero_o, z_zero_j]; exact hfo
  · unfold nM1110; simp (disch := first | decide | omega) only [↓ui_s, ↓uj_s, ↓ui_o, ↓ui_k, ↓uj_o, ↓uj_k, ↓ui_j, ↓uj_i, ↓z_zero_o, ↓z_zero_j, ui_s, uj_s, ui_o, ui_k, uj_o, uj_k, ui_j, uj_i, z_zero_o, z_zero_j]; exact htu
  · unfold nM1110; simp (disch := first | decide | omega) only [↓ui_s, ↓uj_s, ↓ui_o, ↓ui_k, ↓uj_o, ↓uj_k, ↓ui_j, ↓uj_i, ↓z_zero_o, ↓z_zero_j, ui_s, uj_s, ui_o, ui_k, uj_o, uj_k, ui_j, uj_i, z_zero_o, z_zero_j]; exact hdl
theorem rg_nob1111 {x m : zM} (R : RCl x m) (hfo : x.1 2 3 = m.1 50 47) (htu : x.1 0 8 = m.1 50 45) {dl e : Nat} (hdl : m.1 50 40 = nI dl) (hdl4 : dl < 4) (he : (dl + 1) % 4 = e) (ds : Bool) : RG (eHB (x) ds false (xBk (x)) dl e (rcM (x))) (eMB (nM1111 m) ds true dl e) := by
  refine rg_ends (rc_nob1111 R) ?_ ?_ ?_ hdl4 he ds false
  · unfold nM1111; simp (disch := first | decide | omega) only [↓ui_s, ↓uj_s, ↓ui_o, ↓ui_k, ↓uj_o, ↓uj_k, ↓ui_j, ↓uj_i, ↓z_zero_o, ↓z_zero_j, ui_s, uj_s, ui_o, ui_k, uj_o, uj_k, ui_j, uj_i, z_zero_o, z_zero_j]; exact hfo
  · unfold nM1111; simp (disch := first | decide | omega) only [↓ui_s, ↓uj_s, ↓ui_o, ↓ui_k, ↓uj_o, ↓uj_k, ↓ui_j, ↓uj_i, ↓z_zero_o, ↓z_zero_j, ui_s, uj_s, ui_o, ui_k, uj_o, uj_k, ui_j, uj_i, z_zero_o, z_zero_j]; exact htu
  · unfold nM1111; simp (disch := first | decide | omega) only [↓ui_s, ↓uj_s, ↓ui_o, ↓ui_k, ↓uj_o, ↓uj_k, ↓ui_j, ↓uj_i, ↓z_zero_o, ↓z_zero_j, ui_s, uj_s, ui_o, ui_k, uj_o, uj_k, ui_j, uj_i, z_zero_o, z_zero_j]; exact hdl
/-! the reference's WAITS as its contracts ask for them -/
set_option maxRecDepth 8000
theorem WMs_se {μ M : zM} (h : SE μ M) {s : Nat} {w : Nat → Nat} {q : Nat} : WMs M s w q = WMs μ s w q := by
  funext c
  unfold WMs
  rw [show (fun i => M.1 62 (4 * s + i)) = (fun i => μ.1 62 (4 * s + i)) from funext fun i => h 62 _ (by omega), show (fun i => M.1 63 (4 * s + i)) = (fun i => μ.1 63 (4 * s + i)) from funext fun i => h 63 _ (by omega)]
theorem mw_wait {μ : zM} {s : Nat} {w : Nat → Nat} {q : Nat} {sL lL : Nat → Nat} (H : HM μ s w q sL lL) (hs : s < 4) : ∀ M, SE μ M → a_H M → ∀ d, 699 ≤ d → z_C d mi_X7_waitsAt [.ref 50, .int (nI s)] M (fun r W => r = some (.long (WV μ s w q)) ∧ SMj M W ∧ a_H W) := fun M hM hA d hd => by
  have z := gm_waitsAt d (by omega) M hA s hs w q sL lL (H.se hM)
  rw [WMs_se hM] at z
  exact z
theorem HM.m {m m' : zM} {s : Nat} {w : Nat → Nat} {q : Nat} {sL lL : Nat → Nat} (h : HM m s w q sL lL) (e : EqM m m') : HM m' s w q sL lL := h.se (fun r k g => (e r k (Or.inl (by omega))).1)
theorem WV_m {m m' : zM} (e : EqM m m') {s : Nat} {w : Nat → Nat} {q : Nat} : WV m' s w q = WV m s w q := by
  unfold WV
  rw [WMs_se (μ := m) (M := m') (fun r k g => (e r k (Or.inl (by omega))).1)]
theorem HF.m {x m m' : zM} {s : Nat} {w aw : Nat → Nat} {q : Nat} {sL lL : Nat → Nat} (H : HF x m s w aw q sL lL) (e : EqM m m') : HF x m' s w aw q sL lL := by
  obtain ⟨h1, h2, h3, h4, h5, h6, h7, h8⟩ := H
  refine ⟨h1.m e, h2, h3, h4, h5, h6, h7, fun k hk => ?_⟩
  rw [h8 k hk, show (fun i => m'.1 62 (4 * s + i)) = (fun i => m.1 62 (4 * s + i)) from funext fun i => (e 62 _ (Or.inl ⟨by omega, by omega⟩)).1, show (fun i => m'.1 63 (4 * s + i)) = (fun i => m.1 63 (4 * s + i)) from funext fun i => (e 63 _ (Or.inl ⟨by omega, by omega⟩)).1]
/-! who may claim a SET: alike -/
set_option maxRecDepth 8000
noncomputable abbrev xMC (μ : zM) (s : Nat) : Bool := (decide ((μ.1 0 7) = 2)) && ((sI (nI s)) && (!(decide ((nI s) = (μ.1 0 8))) && ((decide ((μ.1 (18 + 8 * s) 5) = 0)) && (!(decide ((xLf μ) ≤ 0)) && (!(xAny μ))))))
noncomputable abbrev mMC (μ : zM) (s : Nat) : Bool := (decide ((μ.1 50 44) = 2)) && (!(anS μ) && (!(decide (((122 - (μ.1 50 47)) - (μ.1 50 46)) ≤ 0)) && (!(decide ((nI s) = (μ.1 50 45))) && (decide ((μ.1 67 s) = 0)))))
theorem any_eq {x m : zM} (R : RCl x m) : xAny x = anS m := by
  have e0 : x.1 18 9 = m.1 71 0 := R.sy 0 (by decide)
  have e1 : x.1 26 9 = m.1 71 1 := R.sy 1 (by decide)
  have e2 : x.1 34 9 = m.1 71 2 := R.sy 2 (by decide)
  have e3 : x.1 42 9 = m.1 71 3 := R.sy 3 (by decide)
  unfold xAny anS
  rw [e0, e1, e2, e3]
theorem mc_eq {x m : zM} (h : RG x m) {s : Nat} (hs : s < 4) : xMC x s = mMC m s := by
  have R := h.1
  obtain ⟨e7, e8, e3⟩ := rg_ph h
  unfold xMC mMC
  rw [e7, e8, sI_n hs, R.be s hs, any_eq R, Bool.true_and]
  rcases h.2 with ⟨p1, p2, -, -, -⟩ | ⟨p, t, c, P⟩
  · rw [p2]; rfl
  · unfold xLf
    rw [R.sd, P.is, e3, R.nx, show decide ((1 : Int32) = 0) = false from by decide, cond_false]
    generalize decide (m.1 50 44 = 2) = b1
    generalize anS m = b2
    generalize decide (122 - m.1 50 47 - m.1 50 46 ≤ 0) = b3
    generalize decide (nI s = m.1 50 45) = b4
    generalize decide (m.1 67 s = 0) = b5
    cases b1 <;> cases b2 <;> cases b3 <;> cases b4 <;> cases b5 <;> rfl
/-! a tile stays to be discarded: alike (three) -/
set_option maxRecDepth 8000
theorem hd_one : ∀ c, c < 34 → ∀ k, k < 34 → xHd ((1 : Int64) <<< ((nI c).toInt64 &&& 63)) (nI k) = decide (k = c) := by decide +kernel
theorem hd_zero : ∀ k, k < 34 → xHd 0 (nI k) = false := by decide +kernel
theorem nI_dec {a b : Nat} (ha : a < 34) (hb : b < 34) : decide (nI a = nI b) = decide (a = b) := by
  by_cases e : a = b
  · rw [decide_eq_true e, decide_eq_true (by rw [e])]
  · rw [decide_eq_false e, decide_eq_false (fun z => e ((nI_eq (by omega) (by omega)).mp z))]
theorem ko_three {x m : zM} (R : RCl x m) {s c : Nat} (hs : s < 4) (hc : c < 34) : kA (koF x s 0 ((1 : Int64) <<< ((nI c).toInt64 &&& 63))) 34 = kA (cdF (z_giv (z_ui (z_ui (z_ui m 50 0 0) 50 50 (nI c)) 50 51 (-1)) s c (-2)) s) 34 := by
  refine kA_cg (fun k hk => ?_)
  have e50 : (z_giv (z_ui (z_ui (z_ui m 50 0 0) 50 50 (nI c)) 50 51 (-1)) s c (-2)).1 50 50 = nI c := by rw [giv_o (by decide), ui_k (by decide), ui_s]
  have e51 : (z_giv (z_ui (z_ui (z_ui m 50 0 0) 50 50 (nI c)) 50 51 (-1)) s c (-2)).1 50 51 = -1 := by rw [giv_o (by decide), ui_s]
  unfold koF cdF
  rw [hd_zero k hk, hd_one c hc k hk, show nB false = 0 from rfl, Int32.sub_zero, R.hd s k hs hk, e50, e51, nI_dec hk hc, nI_m1n hk]
  by_cases e : k = c
  · rw [decide_eq_true e]; simp
  · rw [decide_eq_false e, giv_60, if_neg (by omega), ui_o (by decide), ui_o (by decide), ui_o (by decide)]; simp
